def t_M_thrown_0 : List Instr := [.aload_n 0, .getfield 19, .ireturn]
def d_M_thrown : Nat → List Instr := fun pc => match pc with
  | 0 => t_M_thrown_0
  | _ => []
theorem d_M_thrown_0 : d_M_thrown 0 = t_M_thrown_0 := rfl
set_option maxRecDepth 100000 in
theorem k_M_thrown : ∀ pc, zok c_M_thrown 1 pc (d_M_thrown pc) = true := by
  intro pc
  unfold d_M_thrown
  split
  · decide +kernel
  · rfl
def t_M_push_0 : List Instr := [.aload_n 0, .iconst 0, .putfield 19, .aload_n 0, .getfield 27, .bipush 12, .if_icmp .ne 9, .aload_n 0, .iconst 1, .invokevirtual 58, .ireturn]
def t_M_push_20 : List Instr := [.aload_n 0, .sipush 210, .invokevirtual 23, .iconst 0, .istore 9, .nop]
def t_M_push_30 : List Instr := [.iload 9, .bipush 8, .if_icmp .ge 103, .aload_n 0, .getfield 16, .sipush 210, .iload 9, .iadd, .lload 7, .bipush 8, .iload 9, .imul, .lshr, .ldc2_w 61, .land, .l2i, .iastore, .aload_n 0, .getfield 16, .sipush 218, .iload 9, .iadd, .lload 5, .bipush 8, .iload 9, .imul, .lshr, .ldc2_w 61, .land, .l2i, .iastore, .aload_n 0, .getfield 16, .sipush 226, .iload 9, .iadd, .lload_n 3, .bipush 8, .iload 9, .imul, .lshr, .ldc2_w 61, .land, .l2i, .iastore, .aload_n 0, .getfield 16, .sipush 234, .iload 9, .iadd, .lload_n 1, .bipush 8, .iload 9, .imul, .lshr, .ldc2_w 61, .land, .l2i, .iastore, .iinc 9 1, .goto (-104)]
def t_M_push_137 : List Instr := [.aload_n 0, .sipush 210, .aload_n 0, .getfield 27, .iconst 1, .iadd, .invokevirtual 63, .aload_n 0, .getfield 27, .ireturn]
def d_M_push : Nat → List Instr := fun pc => match pc with
  | 0 => t_M_push_0
  | 20 => t_M_push_20
  | 30 => t_M_push_30
  | 137 => t_M_push_137
  | _ => []
theorem d_M_push_0 : d_M_push 0 = t_M_push_0 := rfl
theorem d_M_push_20 : d_M_push 20 = t_M_push_20 := rfl
theorem d_M_push_30 : d_M_push 30 = t_M_push_30 := rfl
theorem d_M_push_137 : d_M_push 137 = t_M_push_137 := rfl
set_option maxRecDepth 100000 in
theorem k_M_push : ∀ pc, zok c_M_push 10 pc (d_M_push pc) = true := by
  intro pc
  unfold d_M_push
  split
  · decide +kernel
  · decide +kernel
  · decide +kernel
  · decide +kernel
  · rfl
def t_M_fails_0 : List Instr := [.aload_n 0, .iload_n 1, .putfield 19, .iconst 0, .ireturn]
def d_M_fails : Nat → List Instr := fun pc => match pc with
  | 0 => t_M_fails_0
  | _ => []
theorem d_M_fails_0 : d_M_fails 0 = t_M_fails_0 := rfl
set_option maxRecDepth 100000 in
theorem k_M_fails : ∀ pc, zok c_M_fails 2 pc (d_M_fails pc) = true := by
  intro pc
  unfold d_M_fails
  split
  · decide +kernel
  · rfl
def t_M_clearRow_0 : List Instr := [.iconst 0, .istore_n 2, .nop]
def t_M_clearRow_2 : List Instr := [.iload_n 2, .bipush 70, .if_icmp .ge 18, .aload_n 0, .getfield 16, .iload_n 1, .iload_n 2, .iadd, .iconst 0, .iastore, .iinc 2 1, .goto (-18)]
def t_M_clearRow_23 : List Instr := [.return_]
def d_M_clearRow : Nat → List Instr := fun pc => match pc with
  | 0 => t_M_clearRow_0
  | 2 => t_M_clearRow_2
  | 23 => t_M_clearRow_23
  | _ => []
theorem d_M_clearRow_0 : d_M_clearRow 0 = t_M_clearRow_0 := rfl
theorem d_M_clearRow_2 : d_M_clearRow 2 = t_M_clearRow_2 := rfl
theorem d_M_clearRow_23 : d_M_clearRow 23 = t_M_clearRow_23 := rfl
set_option maxRecDepth 100000 in
theorem k_M_clearRow : ∀ pc, zok c_M_clearRow 3 pc (d_M_clearRow pc) = true := by
  intro pc
  unfold d_M_clearRow
  split
  · decide +kernel
  · decide +kernel
  · decide +kernel
  · rfl
def t_M_top_0 : List Instr := [.aload_n 0, .iload_n 2, .putfield 27, .aload_n 0, .iconst 0, .invokevirtual 30, .istore_n 3, .iconst 0, .istore 4, .nop]
def t_M_top_14 : List Instr := [.iload 4, .bipush 32, .if_icmp .ge 27, .aload_n 0, .getfield 7, .iload_n 3, .iload 4, .iadd, .aload_n 0, .getfield 16, .iload_n 1, .iload 4, .iadd, .iaload, .iastore, .iinc 4 1, .goto (-28)]
def t_M_top_45 : List Instr := [.return_]
def d_M_top : Nat → List Instr := fun pc => match pc with
  | 0 => t_M_top_0
  | 14 => t_M_top_14
  | 45 => t_M_top_45
  | _ => []
theorem d_M_top_0 : d_M_top 0 = t_M_top_0 := rfl
theorem d_M_top_14 : d_M_top 14 = t_M_top_14 := rfl
theorem d_M_top_45 : d_M_top 45 = t_M_top_45 := rfl
set_option maxRecDepth 100000 in
theorem k_M_top : ∀ pc, zok c_M_top 5 pc (d_M_top pc) = true := by
  intro pc
  unfold d_M_top
  split
  · decide +kernel
  · decide +kernel
  · decide +kernel
  · rfl
def t_M_place_0 : List Instr := [.bipush 32, .aload_n 0, .getfield 27, .iconst 1, .isub, .iload_n 1, .isub, .imul, .ireturn]
def d_M_place : Nat → List Instr := fun pc => match pc with
  | 0 => t_M_place_0
  | _ => []
theorem d_M_place_0 : d_M_place 0 = t_M_place_0 := rfl
set_option maxRecDepth 100000 in
theorem k_M_place : ∀ pc, zok c_M_place 2 pc (d_M_place pc) = true := by
  intro pc
  unfold d_M_place
  split
  · decide +kernel
  · rfl
def t_M_copy_0 : List Instr := [.aload_n 0, .iconst 0, .putfield 19, .aload_n 0, .iload_n 1, .invokevirtual 66, .ifCond .ne 9, .aload_n 0, .iconst 1, .invokevirtual 58, .ireturn]
def t_M_copy_19 : List Instr := [.aload_n 0, .getfield 27, .bipush 12, .if_icmp .ne 9, .aload_n 0, .iconst 2, .invokevirtual 58, .ireturn]
def t_M_copy_34 : List Instr := [.aload_n 0, .sipush 210, .iload_n 1, .invokevirtual 70, .aload_n 0, .sipush 210, .aload_n 0, .getfield 27, .iconst 1, .iadd, .invokevirtual 63, .aload_n 0, .getfield 27, .ireturn]
def d_M_copy : Nat → List Instr := fun pc => match pc with
  | 0 => t_M_copy_0
  | 19 => t_M_copy_19
  | 34 => t_M_copy_34
  | _ => []
theorem d_M_copy_0 : d_M_copy 0 = t_M_copy_0 := rfl
theorem d_M_copy_19 : d_M_copy 19 = t_M_copy_19 := rfl
theorem d_M_copy_34 : d_M_copy 34 = t_M_copy_34 := rfl
set_option maxRecDepth 100000 in
theorem k_M_copy : ∀ pc, zok c_M_copy 2 pc (d_M_copy pc) = true := by
  intro pc
  unfold d_M_copy
  split
  · decide +kernel
  · decide +kernel
  · decide +kernel
  · rfl
def t_M_word_0 : List Instr := [.iload_n 1, .ifCond .lt 15, .iload_n 1, .aload_n 0, .getfield 27, .if_icmp .ge 7, .iconst 1, .goto 4]
def t_M_word_16 : List Instr := [.iconst 0, .nop]
def t_M_word_17 : List Instr := [.ireturn]
def d_M_word : Nat → List Instr := fun pc => match pc with
  | 0 => t_M_word_0
  | 16 => t_M_word_16
  | 17 => t_M_word_17
  | _ => []
theorem d_M_word_0 : d_M_word 0 = t_M_word_0 := rfl
theorem d_M_word_16 : d_M_word 16 = t_M_word_16 := rfl
theorem d_M_word_17 : d_M_word 17 = t_M_word_17 := rfl
set_option maxRecDepth 100000 in
theorem k_M_word : ∀ pc, zok c_M_word 2 pc (d_M_word pc) = true := by
  intro pc
  unfold d_M_word
  split
  · decide +kernel
  · decide +kernel
  · decide +kernel
  · rfl
def t_M_load_0 : List Instr := [.aload_n 0, .iload_n 1, .invokevirtual 23, .aload_n 0, .iload_n 2, .invokevirtual 30, .istore_n 3, .iconst 0, .istore 4, .nop]
def t_M_load_14 : List Instr := [.iload 4, .bipush 32, .if_icmp .ge 27, .aload_n 0, .getfield 16, .iload_n 1, .iload 4, .iadd, .aload_n 0, .getfield 7, .iload_n 3, .iload 4, .iadd, .iaload, .iastore, .iinc 4 1, .goto (-28)]
def t_M_load_45 : List Instr := [.return_]
def d_M_load : Nat → List Instr := fun pc => match pc with
  | 0 => t_M_load_0
  | 14 => t_M_load_14
  | 45 => t_M_load_45
  | _ => []
theorem d_M_load_0 : d_M_load 0 = t_M_load_0 := rfl
theorem d_M_load_14 : d_M_load 14 = t_M_load_14 := rfl
theorem d_M_load_45 : d_M_load 45 = t_M_load_45 := rfl
set_option maxRecDepth 100000 in
theorem k_M_load : ∀ pc, zok c_M_load 5 pc (d_M_load pc) = true := by
  intro pc
  unfold d_M_load
  split
  · decide +kernel
  · decide +kernel
  · decide +kernel
  · rfl
def t_M_swap_0 : List Instr := [.aload_n 0, .iconst 0, .putfield 19, .aload_n 0, .iload_n 1, .invokevirtual 66, .ifCond .ne 9, .aload_n 0, .iconst 1, .invokevirtual 58, .ireturn]
def t_M_swap_19 : List Instr := [.aload_n 0, .iconst 0, .invokevirtual 30, .istore_n 2, .aload_n 0, .iload_n 1, .invokevirtual 30, .istore_n 3, .iconst 0, .istore 4, .nop]
def t_M_swap_34 : List Instr := [.iload 4, .bipush 32, .if_icmp .ge 49, .aload_n 0, .getfield 7, .iload_n 2, .iload 4, .iadd, .iaload, .istore 5, .aload_n 0, .getfield 7, .iload_n 2, .iload 4, .iadd, .aload_n 0, .getfield 7, .iload_n 3, .iload 4, .iadd, .iaload, .iastore, .aload_n 0, .getfield 7, .iload_n 3, .iload 4, .iadd, .iload 5, .iastore, .iinc 4 1, .goto (-50)]
def t_M_swap_87 : List Instr := [.iload_n 1, .ireturn]
def d_M_swap : Nat → List Instr := fun pc => match pc with
  | 0 => t_M_swap_0
  | 19 => t_M_swap_19
  | 34 => t_M_swap_34
  | 87 => t_M_swap_87
  | _ => []
theorem d_M_swap_0 : d_M_swap 0 = t_M_swap_0 := rfl
theorem d_M_swap_19 : d_M_swap 19 = t_M_swap_19 := rfl
theorem d_M_swap_34 : d_M_swap 34 = t_M_swap_34 := rfl
theorem d_M_swap_87 : d_M_swap 87 = t_M_swap_87 := rfl
set_option maxRecDepth 100000 in
theorem k_M_swap : ∀ pc, zok c_M_swap 6 pc (d_M_swap pc) = true := by
  intro pc
  unfold d_M_swap
  split
  · decide +kernel
  · decide +kernel
  · decide +kernel
  · decide +kernel
  · rfl
def t_M_drop_0 : List Instr := [.aload_n 0, .iconst 0, .putfield 19, .aload_n 0, .getfield 27, .ifCond .ne 9, .aload_n 0, .iconst 1, .invokevirtual 58, .ireturn]
def t_M_drop_18 : List Instr := [.aload_n 0, .dup, .getfield 27, .iconst 1, .isub, .putfield 27, .aload_n 0, .getfield 27, .ireturn]
def d_M_drop : Nat → List Instr := fun pc => match pc with
  | 0 => t_M_drop_0
  | 18 => t_M_drop_18
  | _ => []
theorem d_M_drop_0 : d_M_drop 0 = t_M_drop_0 := rfl
theorem d_M_drop_18 : d_M_drop 18 = t_M_drop_18 := rfl
set_option maxRecDepth 100000 in
theorem k_M_drop : ∀ pc, zok c_M_drop 1 pc (d_M_drop pc) = true := by
  intro pc
  unfold d_M_drop
  split
  · decide +kernel
  · decide +kernel
  · rfl
def t_M_depth_0 : List Instr := [.aload_n 0, .iconst 0, .putfield 19, .aload_n 0, .getfield 27, .ireturn]
def d_M_depth : Nat → List Instr := fun pc => match pc with
  | 0 => t_M_depth_0
  | _ => []
theorem d_M_depth_0 : d_M_depth 0 = t_M_depth_0 := rfl
set_option maxRecDepth 100000 in
theorem k_M_depth : ∀ pc, zok c_M_depth 1 pc (d_M_depth pc) = true := by
  intro pc
  unfold d_M_depth
  split
  · decide +kernel
  · rfl
def t_M_limb_0 : List Instr := [.aload_n 0, .iconst 0, .putfield 19, .aload_n 0, .iload_n 1, .invokevirtual 66, .ifCond .eq 12, .iload_n 2, .ifCond .lt 8, .iload_n 2, .iconst 3, .if_icmp .le 10, .aload_n 0, .iconst 1, .invokevirtual 58, .i2l, .lreturn]
def t_M_limb_22 : List Instr := [.aload_n 0, .iconst 1, .invokevirtual 58, .i2l, .lreturn]
def t_M_limb_29 : List Instr := [.aload_n 0, .iload_n 1, .invokevirtual 30, .bipush 24, .iadd, .bipush 8, .iload_n 2, .imul, .isub, .istore_n 3, .lconst 0, .lstore 4, .bipush 7, .istore 6, .nop]
def t_M_limb_50 : List Instr := [.iload 6, .ifCond .lt 27, .lload 4, .bipush 8, .lshl, .aload_n 0, .getfield 7, .iload_n 3, .iload 6, .iadd, .iaload, .i2l, .lor, .lstore 4, .iinc 6 (-1), .goto (-26)]
def t_M_limb_79 : List Instr := [.lload 4, .lreturn]
def d_M_limb : Nat → List Instr := fun pc => match pc with
  | 0 => t_M_limb_0
  | 22 => t_M_limb_22
  | 29 => t_M_limb_29
  | 50 => t_M_limb_50
  | 79 => t_M_limb_79
  | _ => []
theorem d_M_limb_0 : d_M_limb 0 = t_M_limb_0 := rfl
theorem d_M_limb_22 : d_M_limb 22 = t_M_limb_22 := rfl
theorem d_M_limb_29 : d_M_limb 29 = t_M_limb_29 := rfl
theorem d_M_limb_50 : d_M_limb 50 = t_M_limb_50 := rfl
theorem d_M_limb_79 : d_M_limb 79 = t_M_limb_79 := rfl
set_option maxRecDepth 100000 in
theorem k_M_limb : ∀ pc, zok c_M_limb 7 pc (d_M_limb pc) = true := by
  intro pc
  unfold d_M_limb
  split
  · decide +kernel
  · decide +kernel
  · decide +kernel
  · decide +kernel
  · decide +kernel
  · rfl
def t_M_width_0 : List Instr := [.aload_n 0, .iconst 0, .putfield 19, .aload_n 0, .iload_n 1, .invokevirtual 66, .ifCond .ne 5, .iconst (-1), .ireturn]
def t_M_width_15 : List Instr := [.aload_n 0, .sipush 210, .iload_n 1, .invokevirtual 70, .sipush 256, .istore_n 2, .nop]
def t_M_width_27 : List Instr := [.iload_n 2, .ifCond .le 22, .aload_n 0, .sipush 210, .iload_n 2, .iconst 1, .isub, .invokevirtual 38, .ifCond .ne 9, .iinc 2 (-1), .goto (-20)]
def t_M_width_50 : List Instr := [.iload_n 2, .ireturn]
def d_M_width : Nat → List Instr := fun pc => match pc with
  | 0 => t_M_width_0
  | 15 => t_M_width_15
  | 27 => t_M_width_27
  | 50 => t_M_width_50
  | _ => []
theorem d_M_width_0 : d_M_width 0 = t_M_width_0 := rfl
theorem d_M_width_15 : d_M_width 15 = t_M_width_15 := rfl
theorem d_M_width_27 : d_M_width 27 = t_M_width_27 := rfl
theorem d_M_width_50 : d_M_width 50 = t_M_width_50 := rfl
set_option maxRecDepth 100000 in
theorem k_M_width : ∀ pc, zok c_M_width 3 pc (d_M_width pc) = true := by
  intro pc
  unfold d_M_width
  split
  · decide +kernel
  · decide +kernel
  · decide +kernel
  · decide +kernel
  · rfl
def t_M_bit_0 : List Instr := [.aload_n 0, .getfield 16, .iload_n 1, .iload_n 2, .bipush 8, .idiv, .iadd, .iaload, .iload_n 2, .bipush 8, .irem, .ishr, .iconst 1, .iand, .ireturn]
def d_M_bit : Nat → List Instr := fun pc => match pc with
  | 0 => t_M_bit_0
  | _ => []
theorem d_M_bit_0 : d_M_bit 0 = t_M_bit_0 := rfl
set_option maxRecDepth 100000 in
theorem k_M_bit : ∀ pc, zok c_M_bit 3 pc (d_M_bit pc) = true := by
  intro pc
  unfold d_M_bit
  split
  · decide +kernel
  · rfl
def t_M_wrapping_0 : List Instr := [.aload_n 0, .iconst 0, .putfield 19, .iload_n 1, .ifCond .lt 9, .iload_n 1, .bipush 24, .if_icmp .le 9, .aload_n 0, .iconst 1, .invokevirtual 58, .ireturn]
def t_M_wrapping_15 : List Instr := [.aload_n 0, .iconst 1, .invokevirtual 58, .ireturn]
def t_M_wrapping_21 : List Instr := [.iload_n 1, .invokestatic 73, .istore_n 2, .aload_n 0, .getfield 27, .iload_n 2, .if_icmp .ge 9, .aload_n 0, .iconst 2, .invokevirtual 58, .ireturn]
def t_M_wrapping_40 : List Instr := [.aload_n 0, .iconst 0, .iconst 0, .invokevirtual 70, .aload_n 0, .bipush 70, .invokevirtual 23, .aload_n 0, .sipush 140, .invokevirtual 23, .iload_n 2, .iconst 1, .if_icmp .le 10, .aload_n 0, .bipush 70, .iconst 1, .invokevirtual 70, .nop]
def t_M_wrapping_71 : List Instr := [.iload_n 2, .iconst 2, .if_icmp .le 11, .aload_n 0, .sipush 140, .iconst 2, .invokevirtual 70, .nop]
def t_M_wrapping_84 : List Instr := [.iload_n 1, .bipush 10, .if_icmp .ge 11, .aload_n 0, .iload_n 1, .invokevirtual 76, .goto 22]
def t_M_wrapping_98 : List Instr := [.iload_n 1, .bipush 17, .if_icmp .ge 11, .aload_n 0, .iload_n 1, .invokevirtual 79, .goto 8]
def t_M_wrapping_112 : List Instr := [.aload_n 0, .iload_n 1, .invokevirtual 82, .nop]
def t_M_wrapping_117 : List Instr := [.aload_n 0, .sipush 210, .aload_n 0, .getfield 27, .iload_n 2, .isub, .iconst 1, .iadd, .invokevirtual 63, .aload_n 0, .getfield 27, .ireturn]
def d_M_wrapping : Nat → List Instr := fun pc => match pc with
  | 0 => t_M_wrapping_0
  | 15 => t_M_wrapping_15
  | 21 => t_M_wrapping_21
  | 40 => t_M_wrapping_40
  | 71 => t_M_wrapping_71
  | 84 => t_M_wrapping_84
  | 98 => t_M_wrapping_98
  | 112 => t_M_wrapping_112
  | 117 => t_M_wrapping_117
  | _ => []
theorem d_M_wrapping_0 : d_M_wrapping 0 = t_M_wrapping_0 := rfl
theorem d_M_wrapping_15 : d_M_wrapping 15 = t_M_wrapping_15 := rfl
theorem d_M_wrapping_21 : d_M_wrapping 21 = t_M_wrapping_21 := rfl
theorem d_M_wrapping_40 : d_M_wrapping 40 = t_M_wrapping_40 := rfl
theorem d_M_wrapping_71 : d_M_wrapping 71 = t_M_wrapping_71 := rfl
theorem d_M_wrapping_84 : d_M_wrapping 84 = t_M_wrapping_84 := rfl
theorem d_M_wrapping_98 : d_M_wrapping 98 = t_M_wrapping_98 := rfl
theorem d_M_wrapping_112 : d_M_wrapping 112 = t_M_wrapping_112 := rfl
theorem d_M_wrapping_117 : d_M_wrapping 117 = t_M_wrapping_117 := rfl
set_option maxRecDepth 100000 in
theorem k_M_wrapping : ∀ pc, zok c_M_wrapping 3 pc (d_M_wrapping pc) = true := by
  intro pc
  unfold d_M_wrapping
  split
  · decide +kernel
  · decide +kernel
  · decide +kernel
  · decide +kernel
  · decide +kernel
  · decide +kernel
  · decide +kernel
  · decide +kernel
  · decide +kernel
  · rfl
def t_M_taken_0 : List Instr := [.iload_n 0, .bipush 16, .if_icmp .eq 9, .iload_n 0, .bipush 20, .if_icmp .ne 7, .iconst 1, .goto 20]
def t_M_taken_12 : List Instr := [.iconst 1, .goto 20]
def t_M_taken_16 : List Instr := [.iload_n 0, .bipush 7, .if_icmp .eq 9, .iload_n 0, .bipush 8, .if_icmp .ne 7, .iconst 3, .goto 4]
def t_M_taken_28 : List Instr := [.iconst 3, .goto 4]
def t_M_taken_32 : List Instr := [.iconst 2, .nop]
def t_M_taken_33 : List Instr := [.ireturn]
def d_M_taken : Nat → List Instr := fun pc => match pc with
  | 0 => t_M_taken_0
  | 12 => t_M_taken_12
  | 16 => t_M_taken_16
  | 28 => t_M_taken_28
  | 32 => t_M_taken_32
  | 33 => t_M_taken_33
  | _ => []
theorem d_M_taken_0 : d_M_taken 0 = t_M_taken_0 := rfl
theorem d_M_taken_12 : d_M_taken 12 = t_M_taken_12 := rfl
theorem d_M_taken_16 : d_M_taken 16 = t_M_taken_16 := rfl
theorem d_M_taken_28 : d_M_taken 28 = t_M_taken_28 := rfl
theorem d_M_taken_32 : d_M_taken 32 = t_M_taken_32 := rfl
theorem d_M_taken_33 : d_M_taken 33 = t_M_taken_33 := rfl
set_option maxRecDepth 100000 in
theorem k_M_taken : ∀ pc, zok c_M_taken 1 pc (d_M_taken pc) = true := by
  intro pc
  unfold d_M_taken
  split
  · decide +kernel
  · decide +kernel
  · decide +kernel
  · decide +kernel
  · decide +kernel
  · decide +kernel
  · rfl
def t_M_reckon_0 : List Instr := [.iload_n 1, .tableswitch 156 0 8 #[51, 64, 77, 90, 99, 108, 117, 126, 141]]
def t_M_reckon_52 : List Instr := [.aload_n 0, .sipush 210, .iconst 0, .bipush 70, .invokevirtual 85, .goto 99]
def t_M_reckon_65 : List Instr := [.aload_n 0, .sipush 210, .iconst 0, .bipush 70, .invokevirtual 88, .goto 86]
def t_M_reckon_78 : List Instr := [.aload_n 0, .sipush 210, .iconst 0, .bipush 70, .invokevirtual 48, .goto 73]
def t_M_reckon_91 : List Instr := [.aload_n 0, .iconst 0, .iconst 0, .invokevirtual 91, .goto 64]
def t_M_reckon_100 : List Instr := [.aload_n 0, .iconst 1, .iconst 0, .invokevirtual 91, .goto 55]
def t_M_reckon_109 : List Instr := [.aload_n 0, .iconst 0, .iconst 1, .invokevirtual 91, .goto 46]
def t_M_reckon_118 : List Instr := [.aload_n 0, .iconst 1, .iconst 1, .invokevirtual 91, .goto 37]
def t_M_reckon_127 : List Instr := [.aload_n 0, .iconst 0, .iconst 0, .bipush 70, .invokevirtual 85, .aload_n 0, .invokevirtual 95, .goto 22]
def t_M_reckon_142 : List Instr := [.aload_n 0, .iconst 0, .iconst 0, .bipush 70, .invokevirtual 88, .aload_n 0, .invokevirtual 95, .goto 7]
def t_M_reckon_157 : List Instr := [.aload_n 0, .invokevirtual 98, .nop]
def t_M_reckon_161 : List Instr := [.return_]
def d_M_reckon : Nat → List Instr := fun pc => match pc with
  | 0 => t_M_reckon_0
  | 52 => t_M_reckon_52
  | 65 => t_M_reckon_65
  | 78 => t_M_reckon_78
  | 91 => t_M_reckon_91
  | 100 => t_M_reckon_100
  | 109 => t_M_reckon_109
  | 118 => t_M_reckon_118
  | 127 => t_M_reckon_127
  | 142 => t_M_reckon_142
  | 157 => t_M_reckon_157
  | 161 => t_M_reckon_161
  | _ => []
theorem d_M_reckon_0 : d_M_reckon 0 = t_M_reckon_0 := rfl
theorem d_M_reckon_52 : d_M_reckon 52 = t_M_reckon_52 := rfl
theorem d_M_reckon_65 : d_M_reckon 65 = t_M_reckon_65 := rfl
theorem d_M_reckon_78 : d_M_reckon 78 = t_M_reckon_78 := rfl
theorem d_M_reckon_91 : d_M_reckon 91 = t_M_reckon_91 := rfl
theorem d_M_reckon_100 : d_M_reckon 100 = t_M_reckon_100 := rfl
theorem d_M_reckon_109 : d_M_reckon 109 = t_M_reckon_109 := rfl
theorem d_M_reckon_118 : d_M_reckon 118 = t_M_reckon_118 := rfl
theorem d_M_reckon_127 : d_M_reckon 127 = t_M_reckon_127 := rfl
theorem d_M_reckon_142 : d_M_reckon 142 = t_M_reckon_142 := rfl
theorem d_M_reckon_157 : d_M_reckon 157 = t_M_reckon_157 := rfl
theorem d_M_reckon_161 : d_M_reckon 161 = t_M_reckon_161 := rfl
set_option maxRecDepth 100000 in
theorem k_M_reckon : ∀ pc, zok c_M_reckon 2 pc (d_M_reckon pc) = true := by
  intro pc
  unfold d_M_reckon
  split
  · decide +kernel
  · decide +kernel
  · decide +kernel
  · decide +kernel
  · decide +kernel
  · decide +kernel
  · decide +kernel
  · decide +kernel
  · decide +kernel
  · decide +kernel
  · decide +kernel
  · decide +kernel
  · rfl
def t_M_add_0 : List Instr := [.iconst 0, .istore 4, .iconst 0, .istore 5, .nop]
def t_M_add_6 : List Instr := [.iload 5, .bipush 70, .if_icmp .ge 55, .aload_n 0, .getfield 16, .iload_n 2, .iload 5, .iadd, .iaload, .aload_n 0, .getfield 16, .iload_n 3, .iload 5, .iadd, .iaload, .iadd, .iload 4, .iadd, .istore 6, .aload_n 0, .getfield 16, .iload_n 1, .iload 5, .iadd, .iload 6, .sipush 255, .iand, .iastore, .iload 6, .bipush 8, .ishr, .istore 4, .iinc 5 1, .goto (-56)]
def t_M_add_65 : List Instr := [.return_]
def d_M_add : Nat → List Instr := fun pc => match pc with
  | 0 => t_M_add_0
  | 6 => t_M_add_6
  | 65 => t_M_add_65
  | _ => []
theorem d_M_add_0 : d_M_add 0 = t_M_add_0 := rfl
theorem d_M_add_6 : d_M_add 6 = t_M_add_6 := rfl
theorem d_M_add_65 : d_M_add 65 = t_M_add_65 := rfl
set_option maxRecDepth 100000 in
theorem k_M_add : ∀ pc, zok c_M_add 7 pc (d_M_add pc) = true := by
  intro pc
  unfold d_M_add
  split
  · decide +kernel
  · decide +kernel
  · decide +kernel
  · rfl
def t_M_multiply_0 : List Instr := [.aload_n 0, .sipush 420, .invokevirtual 23, .iconst 0, .istore 4, .nop]
def t_M_multiply_10 : List Instr := [.iload 4, .bipush 32, .if_icmp .ge 94, .iconst 0, .istore 5, .iconst 0, .istore 6, .nop]
def t_M_multiply_23 : List Instr := [.iload 6, .bipush 36, .if_icmp .ge 75, .aload_n 0, .getfield 16, .sipush 420, .iload 4, .iadd, .iload 6, .iadd, .iaload, .aload_n 0, .getfield 16, .iload_n 2, .iload 4, .iadd, .iaload, .aload_n 0, .getfield 16, .iload_n 3, .iload 6, .iadd, .iaload, .imul, .iadd, .iload 5, .iadd, .istore 7, .aload_n 0, .getfield 16, .sipush 420, .iload 4, .iadd, .iload 6, .iadd, .iload 7, .sipush 255, .iand, .iastore, .iload 7, .bipush 8, .ishr, .istore 5, .iinc 6 1, .goto (-76)]
def t_M_multiply_102 : List Instr := [.iinc 4 1, .goto (-95)]
def t_M_multiply_108 : List Instr := [.aload_n 0, .iload_n 1, .sipush 420, .invokevirtual 34, .return_]
def d_M_multiply : Nat → List Instr := fun pc => match pc with
  | 0 => t_M_multiply_0
  | 10 => t_M_multiply_10
  | 23 => t_M_multiply_23
  | 102 => t_M_multiply_102
  | 108 => t_M_multiply_108
  | _ => []
theorem d_M_multiply_0 : d_M_multiply 0 = t_M_multiply_0 := rfl
theorem d_M_multiply_10 : d_M_multiply 10 = t_M_multiply_10 := rfl
theorem d_M_multiply_23 : d_M_multiply 23 = t_M_multiply_23 := rfl
theorem d_M_multiply_102 : d_M_multiply 102 = t_M_multiply_102 := rfl
theorem d_M_multiply_108 : d_M_multiply 108 = t_M_multiply_108 := rfl
set_option maxRecDepth 100000 in
theorem k_M_multiply : ∀ pc, zok c_M_multiply 8 pc (d_M_multiply pc) = true := by
  intro pc
  unfold d_M_multiply
  split
  · decide +kernel
  · decide +kernel
  · decide +kernel
  · decide +kernel
  · decide +kernel
  · rfl
def t_M_copyRow_0 : List Instr := [.iconst 0, .istore_n 3, .nop]
def t_M_copyRow_2 : List Instr := [.iload_n 3, .bipush 70, .if_icmp .ge 25, .aload_n 0, .getfield 16, .iload_n 1, .iload_n 3, .iadd, .aload_n 0, .getfield 16, .iload_n 2, .iload_n 3, .iadd, .iaload, .iastore, .iinc 3 1, .goto (-25)]
def t_M_copyRow_30 : List Instr := [.return_]
def d_M_copyRow : Nat → List Instr := fun pc => match pc with
  | 0 => t_M_copyRow_0
  | 2 => t_M_copyRow_2
  | 30 => t_M_copyRow_30
  | _ => []
theorem d_M_copyRow_0 : d_M_copyRow 0 = t_M_copyRow_0 := rfl
theorem d_M_copyRow_2 : d_M_copyRow 2 = t_M_copyRow_2 := rfl
theorem d_M_copyRow_30 : d_M_copyRow 30 = t_M_copyRow_30 := rfl
set_option maxRecDepth 100000 in
theorem k_M_copyRow : ∀ pc, zok c_M_copyRow 4 pc (d_M_copyRow pc) = true := by
  intro pc
  unfold d_M_copyRow
  split
  · decide +kernel
  · decide +kernel
  · decide +kernel
  · rfl
def t_M_subtract_0 : List Instr := [.iconst 0, .istore 4, .iconst 0, .istore 5, .nop]
def t_M_subtract_6 : List Instr := [.iload 5, .bipush 70, .if_icmp .ge 60, .aload_n 0, .getfield 16, .iload_n 2, .iload 5, .iadd, .iaload, .aload_n 0, .getfield 16, .iload_n 3, .iload 5, .iadd, .iaload, .isub, .iload 4, .isub, .istore 6, .aload_n 0, .getfield 16, .iload_n 1, .iload 5, .iadd, .iload 6, .sipush 255, .iand, .iastore, .iload 6, .ifCond .ge 7, .iconst 1, .goto 4]
def t_M_subtract_61 : List Instr := [.iconst 0, .nop]
def t_M_subtract_62 : List Instr := [.istore 4, .iinc 5 1, .goto (-61)]
def t_M_subtract_70 : List Instr := [.return_]
def d_M_subtract : Nat → List Instr := fun pc => match pc with
  | 0 => t_M_subtract_0
  | 6 => t_M_subtract_6
  | 61 => t_M_subtract_61
  | 62 => t_M_subtract_62
  | 70 => t_M_subtract_70
  | _ => []
theorem d_M_subtract_0 : d_M_subtract 0 = t_M_subtract_0 := rfl
theorem d_M_subtract_6 : d_M_subtract 6 = t_M_subtract_6 := rfl
theorem d_M_subtract_61 : d_M_subtract 61 = t_M_subtract_61 := rfl
theorem d_M_subtract_62 : d_M_subtract 62 = t_M_subtract_62 := rfl
theorem d_M_subtract_70 : d_M_subtract 70 = t_M_subtract_70 := rfl
set_option maxRecDepth 100000 in
theorem k_M_subtract : ∀ pc, zok c_M_subtract 7 pc (d_M_subtract pc) = true := by
  intro pc
  unfold d_M_subtract
  split
  · decide +kernel
  · decide +kernel
  · decide +kernel
  · decide +kernel
  · decide +kernel
  · rfl
def t_M_parts_0 : List Instr := [.iload_n 1, .ifCond .eq 15, .aload_n 0, .iconst 0, .invokevirtual 101, .ifCond .eq 7, .iconst 1, .goto 4]
def t_M_parts_16 : List Instr := [.iconst 0, .nop]
def t_M_parts_17 : List Instr := [.istore_n 3, .iload_n 1, .ifCond .eq 16, .aload_n 0, .bipush 70, .invokevirtual 101, .ifCond .eq 7, .iconst 1, .goto 4]
def t_M_parts_35 : List Instr := [.iconst 0, .nop]
def t_M_parts_36 : List Instr := [.istore 4, .aload_n 0, .sipush 210, .invokevirtual 23, .aload_n 0, .bipush 70, .invokevirtual 104, .ifCond .eq 4, .return_]
def t_M_parts_55 : List Instr := [.aload_n 0, .iconst 0, .bipush 70, .invokevirtual 107, .aload_n 0, .sipush 210, .iload_n 2, .ifCond .eq 9, .sipush 350, .goto 6]
def t_M_parts_76 : List Instr := [.sipush 280, .nop]
def t_M_parts_79 : List Instr := [.invokevirtual 34, .iload_n 2, .ifCond .eq 10, .iload_n 3, .ifCond .eq 19, .goto 9]
def t_M_parts_93 : List Instr := [.iload_n 3, .iload 4, .if_icmp .eq 10, .nop]
def t_M_parts_99 : List Instr := [.aload_n 0, .sipush 210, .invokevirtual 55, .return_]
def t_M_parts_106 : List Instr := [.return_]
def d_M_parts : Nat → List Instr := fun pc => match pc with
  | 0 => t_M_parts_0
  | 16 => t_M_parts_16
  | 17 => t_M_parts_17
  | 35 => t_M_parts_35
  | 36 => t_M_parts_36
  | 55 => t_M_parts_55
  | 76 => t_M_parts_76
  | 79 => t_M_parts_79
  | 93 => t_M_parts_93
  | 99 => t_M_parts_99
  | 106 => t_M_parts_106
  | _ => []
theorem d_M_parts_0 : d_M_parts 0 = t_M_parts_0 := rfl
theorem d_M_parts_16 : d_M_parts 16 = t_M_parts_16 := rfl
theorem d_M_parts_17 : d_M_parts 17 = t_M_parts_17 := rfl
theorem d_M_parts_35 : d_M_parts 35 = t_M_parts_35 := rfl
theorem d_M_parts_36 : d_M_parts 36 = t_M_parts_36 := rfl
theorem d_M_parts_55 : d_M_parts 55 = t_M_parts_55 := rfl
theorem d_M_parts_76 : d_M_parts 76 = t_M_parts_76 := rfl
theorem d_M_parts_79 : d_M_parts 79 = t_M_parts_79 := rfl
theorem d_M_parts_93 : d_M_parts 93 = t_M_parts_93 := rfl
theorem d_M_parts_99 : d_M_parts 99 = t_M_parts_99 := rfl
theorem d_M_parts_106 : d_M_parts 106 = t_M_parts_106 := rfl
set_option maxRecDepth 100000 in
theorem k_M_parts : ∀ pc, zok c_M_parts 5 pc (d_M_parts pc) = true := by
  intro pc
  unfold d_M_parts
  split
  · decide +kernel
  · decide +kernel
  · decide +kernel
  · decide +kernel
  · decide +kernel
  · decide +kernel
  · decide +kernel
  · decide +kernel
  · decide +kernel
  · decide +kernel
  · decide +kernel
  · rfl
def t_M_sized_0 : List Instr := [.aload_n 0, .getfield 16, .iload_n 1, .bipush 31, .iadd, .iaload, .bipush 127, .if_icmp .le 7, .iconst 1, .goto 4]
def t_M_sized_18 : List Instr := [.iconst 0, .nop]
def t_M_sized_19 : List Instr := [.istore_n 2, .iload_n 2, .ifCond .eq 8, .aload_n 0, .iload_n 1, .invokevirtual 55, .iload_n 2, .ireturn]
def t_M_sized_29 : List Instr := [.iload_n 2, .ireturn]
def d_M_sized : Nat → List Instr := fun pc => match pc with
  | 0 => t_M_sized_0
  | 18 => t_M_sized_18
  | 19 => t_M_sized_19
  | 29 => t_M_sized_29
  | _ => []
theorem d_M_sized_0 : d_M_sized 0 = t_M_sized_0 := rfl
theorem d_M_sized_18 : d_M_sized 18 = t_M_sized_18 := rfl
theorem d_M_sized_19 : d_M_sized 19 = t_M_sized_19 := rfl
theorem d_M_sized_29 : d_M_sized 29 = t_M_sized_29 := rfl
set_option maxRecDepth 100000 in
theorem k_M_sized : ∀ pc, zok c_M_sized 3 pc (d_M_sized pc) = true := by
  intro pc
  unfold d_M_sized
  split
  · decide +kernel
  · decide +kernel
  · decide +kernel
  · decide +kernel
  · rfl
def t_M_turn_0 : List Instr := [.iconst 1, .istore_n 2, .iconst 0, .istore_n 3, .nop]
def t_M_turn_4 : List Instr := [.iload_n 3, .bipush 32, .if_icmp .ge 45, .sipush 255, .aload_n 0, .getfield 16, .iload_n 1, .iload_n 3, .iadd, .iaload, .isub, .iload_n 2, .iadd, .istore 4, .aload_n 0, .getfield 16, .iload_n 1, .iload_n 3, .iadd, .iload 4, .sipush 255, .iand, .iastore, .iload 4, .bipush 8, .ishr, .istore_n 2, .iinc 3 1, .goto (-45)]
def t_M_turn_52 : List Instr := [.aload_n 0, .iload_n 1, .invokevirtual 52, .return_]
def d_M_turn : Nat → List Instr := fun pc => match pc with
  | 0 => t_M_turn_0
  | 4 => t_M_turn_4
  | 52 => t_M_turn_52
  | _ => []
theorem d_M_turn_0 : d_M_turn 0 = t_M_turn_0 := rfl
theorem d_M_turn_4 : d_M_turn 4 = t_M_turn_4 := rfl
theorem d_M_turn_52 : d_M_turn 52 = t_M_turn_52 := rfl
set_option maxRecDepth 100000 in
theorem k_M_turn : ∀ pc, zok c_M_turn 5 pc (d_M_turn pc) = true := by
  intro pc
  unfold d_M_turn
  split
  · decide +kernel
  · decide +kernel
  · decide +kernel
  · rfl
def t_M_cut_0 : List Instr := [.bipush 32, .istore_n 2, .nop]
def t_M_cut_3 : List Instr := [.iload_n 2, .bipush 70, .if_icmp .ge 18, .aload_n 0, .getfield 16, .iload_n 1, .iload_n 2, .iadd, .iconst 0, .iastore, .iinc 2 1, .goto (-18)]
def t_M_cut_24 : List Instr := [.return_]
def d_M_cut : Nat → List Instr := fun pc => match pc with
  | 0 => t_M_cut_0
  | 3 => t_M_cut_3
  | 24 => t_M_cut_24
  | _ => []
theorem d_M_cut_0 : d_M_cut 0 = t_M_cut_0 := rfl
theorem d_M_cut_3 : d_M_cut 3 = t_M_cut_3 := rfl
theorem d_M_cut_24 : d_M_cut 24 = t_M_cut_24 := rfl
set_option maxRecDepth 100000 in
theorem k_M_cut : ∀ pc, zok c_M_cut 3 pc (d_M_cut pc) = true := by
  intro pc
  unfold d_M_cut
  split
  · decide +kernel
  · decide +kernel
  · decide +kernel
  · rfl
def t_M_zero_0 : List Instr := [.iconst 1, .istore_n 2, .iconst 0, .istore_n 3, .nop]
def t_M_zero_4 : List Instr := [.iload_n 3, .bipush 70, .if_icmp .ge 30, .iload_n 2, .ifCond .eq 18, .aload_n 0, .getfield 16, .iload_n 1, .iload_n 3, .iadd, .iaload, .ifCond .ne 7, .iconst 1, .goto 4]
def t_M_zero_29 : List Instr := [.iconst 0, .nop]
def t_M_zero_30 : List Instr := [.istore_n 2, .iinc 3 1, .goto (-30)]
def t_M_zero_37 : List Instr := [.iload_n 2, .ireturn]
def d_M_zero : Nat → List Instr := fun pc => match pc with
  | 0 => t_M_zero_0
  | 4 => t_M_zero_4
  | 29 => t_M_zero_29
  | 30 => t_M_zero_30
  | 37 => t_M_zero_37
  | _ => []
theorem d_M_zero_0 : d_M_zero 0 = t_M_zero_0 := rfl
theorem d_M_zero_4 : d_M_zero 4 = t_M_zero_4 := rfl
theorem d_M_zero_29 : d_M_zero 29 = t_M_zero_29 := rfl
theorem d_M_zero_30 : d_M_zero 30 = t_M_zero_30 := rfl
theorem d_M_zero_37 : d_M_zero 37 = t_M_zero_37 := rfl
set_option maxRecDepth 100000 in
theorem k_M_zero : ∀ pc, zok c_M_zero 4 pc (d_M_zero pc) = true := by
  intro pc
  unfold d_M_zero
  split
  · decide +kernel
  · decide +kernel
  · decide +kernel
  · decide +kernel
  · decide +kernel
  · rfl
def t_M_divide_0 : List Instr := [.aload_n 0, .sipush 280, .invokevirtual 23, .aload_n 0, .sipush 350, .invokevirtual 23, .sipush 527, .istore_n 3, .nop]
def t_M_divide_18 : List Instr := [.iload_n 3, .ifCond .lt 70, .aload_n 0, .iload_n 1, .iload_n 3, .invokevirtual 38, .istore 4, .aload_n 0, .sipush 350, .iload 4, .invokevirtual 42, .aload_n 0, .sipush 350, .iload_n 2, .invokevirtual 45, .ifCond .lt 7, .iconst 1, .goto 4]
def t_M_divide_54 : List Instr := [.iconst 0, .nop]
def t_M_divide_55 : List Instr := [.istore 5, .iload 5, .iconst 1, .if_icmp .ne 14, .aload_n 0, .sipush 350, .sipush 350, .iload_n 2, .invokevirtual 48, .aload_n 0, .sipush 280, .iload 5, .invokevirtual 42, .iinc 3 (-1), .goto (-68)]
def t_M_divide_74 : List Instr := [.aload_n 0, .sipush 280, .iload 5, .invokevirtual 42, .iinc 3 (-1), .goto (-68)]
def t_M_divide_89 : List Instr := [.return_]
def d_M_divide : Nat → List Instr := fun pc => match pc with
  | 0 => t_M_divide_0
  | 18 => t_M_divide_18
  | 54 => t_M_divide_54
  | 55 => t_M_divide_55
  | 74 => t_M_divide_74
  | 89 => t_M_divide_89
  | _ => []
theorem d_M_divide_0 : d_M_divide 0 = t_M_divide_0 := rfl
theorem d_M_divide_18 : d_M_divide 18 = t_M_divide_18 := rfl
theorem d_M_divide_54 : d_M_divide 54 = t_M_divide_54 := rfl
theorem d_M_divide_55 : d_M_divide 55 = t_M_divide_55 := rfl
theorem d_M_divide_74 : d_M_divide 74 = t_M_divide_74 := rfl
theorem d_M_divide_89 : d_M_divide 89 = t_M_divide_89 := rfl
set_option maxRecDepth 100000 in
theorem k_M_divide : ∀ pc, zok c_M_divide 6 pc (d_M_divide pc) = true := by
  intro pc
  unfold d_M_divide
  split
  · decide +kernel
  · decide +kernel
  · decide +kernel
  · decide +kernel
  · decide +kernel
  · decide +kernel
  · rfl
def t_M_twice_0 : List Instr := [.iload_n 2, .istore_n 3, .iconst 0, .istore 4, .nop]
def t_M_twice_5 : List Instr := [.iload 4, .bipush 70, .if_icmp .ge 45, .iconst 2, .aload_n 0, .getfield 16, .iload_n 1, .iload 4, .iadd, .iaload, .imul, .iload_n 3, .iadd, .istore 5, .aload_n 0, .getfield 16, .iload_n 1, .iload 4, .iadd, .iload 5, .sipush 255, .iand, .iastore, .iload 5, .bipush 8, .ishr, .istore_n 3, .iinc 4 1, .goto (-46)]
def t_M_twice_54 : List Instr := [.return_]
def d_M_twice : Nat → List Instr := fun pc => match pc with
  | 0 => t_M_twice_0
  | 5 => t_M_twice_5
  | 54 => t_M_twice_54
  | _ => []
theorem d_M_twice_0 : d_M_twice 0 = t_M_twice_0 := rfl
theorem d_M_twice_5 : d_M_twice 5 = t_M_twice_5 := rfl
theorem d_M_twice_54 : d_M_twice 54 = t_M_twice_54 := rfl
set_option maxRecDepth 100000 in
theorem k_M_twice : ∀ pc, zok c_M_twice 6 pc (d_M_twice pc) = true := by
  intro pc
  unfold d_M_twice
  split
  · decide +kernel
  · decide +kernel
  · decide +kernel
  · rfl
def t_M_compare_0 : List Instr := [.bipush 69, .istore_n 3, .nop]
def t_M_compare_3 : List Instr := [.iload_n 3, .ifCond .le 28, .aload_n 0, .getfield 16, .iload_n 1, .iload_n 3, .iadd, .iaload, .aload_n 0, .getfield 16, .iload_n 2, .iload_n 3, .iadd, .iaload, .if_icmp .ne 9, .iinc 3 (-1), .goto (-26)]
def t_M_compare_32 : List Instr := [.aload_n 0, .getfield 16, .iload_n 1, .iload_n 3, .iadd, .iaload, .aload_n 0, .getfield 16, .iload_n 2, .iload_n 3, .iadd, .iaload, .isub, .ireturn]
def d_M_compare : Nat → List Instr := fun pc => match pc with
  | 0 => t_M_compare_0
  | 3 => t_M_compare_3
  | 32 => t_M_compare_32
  | _ => []
theorem d_M_compare_0 : d_M_compare 0 = t_M_compare_0 := rfl
theorem d_M_compare_3 : d_M_compare 3 = t_M_compare_3 := rfl
theorem d_M_compare_32 : d_M_compare 32 = t_M_compare_32 := rfl
set_option maxRecDepth 100000 in
theorem k_M_compare : ∀ pc, zok c_M_compare 4 pc (d_M_compare pc) = true := by
  intro pc
  unfold d_M_compare
  split
  · decide +kernel
  · decide +kernel
  · decide +kernel
  · rfl
def t_M_modulo_0 : List Instr := [.aload_n 0, .sipush 210, .invokevirtual 23, .aload_n 0, .sipush 140, .invokevirtual 104, .ifCond .ne 21, .aload_n 0, .iconst 0, .sipush 140, .invokevirtual 107, .aload_n 0, .sipush 210, .sipush 350, .invokevirtual 34, .return_]
def t_M_modulo_35 : List Instr := [.return_]
def d_M_modulo : Nat → List Instr := fun pc => match pc with
  | 0 => t_M_modulo_0
  | 35 => t_M_modulo_35
  | _ => []
theorem d_M_modulo_0 : d_M_modulo 0 = t_M_modulo_0 := rfl
theorem d_M_modulo_35 : d_M_modulo 35 = t_M_modulo_35 := rfl
set_option maxRecDepth 100000 in
theorem k_M_modulo : ∀ pc, zok c_M_modulo 1 pc (d_M_modulo pc) = true := by
  intro pc
  unfold d_M_modulo
  split
  · decide +kernel
  · decide +kernel
  · rfl
def t_M_exponent_0 : List Instr := [.aload_n 0, .sipush 210, .iconst 1, .invokevirtual 110, .sipush 255, .istore_n 1, .nop]
def t_M_exponent_12 : List Instr := [.iload_n 1, .ifCond .lt 58, .aload_n 0, .sipush 210, .sipush 210, .sipush 210, .invokevirtual 88, .aload_n 0, .sipush 210, .invokevirtual 52, .aload_n 0, .bipush 70, .iload_n 1, .invokevirtual 38, .iconst 1, .if_icmp .ne 21, .aload_n 0, .sipush 210, .sipush 210, .iconst 0, .invokevirtual 88, .aload_n 0, .sipush 210, .invokevirtual 52, .iinc 1 (-1), .goto (-56)]
def t_M_exponent_65 : List Instr := [.iinc 1 (-1), .goto (-56)]
def t_M_exponent_71 : List Instr := [.return_]
def d_M_exponent : Nat → List Instr := fun pc => match pc with
  | 0 => t_M_exponent_0
  | 12 => t_M_exponent_12
  | 65 => t_M_exponent_65
  | 71 => t_M_exponent_71
  | _ => []
theorem d_M_exponent_0 : d_M_exponent 0 = t_M_exponent_0 := rfl
theorem d_M_exponent_12 : d_M_exponent 12 = t_M_exponent_12 := rfl
theorem d_M_exponent_65 : d_M_exponent 65 = t_M_exponent_65 := rfl
theorem d_M_exponent_71 : d_M_exponent 71 = t_M_exponent_71 := rfl
set_option maxRecDepth 100000 in
theorem k_M_exponent : ∀ pc, zok c_M_exponent 2 pc (d_M_exponent pc) = true := by
  intro pc
  unfold d_M_exponent
  split
  · decide +kernel
  · decide +kernel
  · decide +kernel
  · decide +kernel
  · rfl
def t_M_small_0 : List Instr := [.aload_n 0, .iload_n 1, .invokevirtual 23, .aload_n 0, .getfield 16, .iload_n 1, .iload_n 2, .sipush 255, .iand, .iastore, .return_]
def d_M_small : Nat → List Instr := fun pc => match pc with
  | 0 => t_M_small_0
  | _ => []
theorem d_M_small_0 : d_M_small 0 = t_M_small_0 := rfl
set_option maxRecDepth 100000 in
theorem k_M_small : ∀ pc, zok c_M_small 3 pc (d_M_small pc) = true := by
  intro pc
  unfold d_M_small
  split
  · decide +kernel
  · rfl
def t_M_ask_0 : List Instr := [.iconst 0, .istore_n 2, .iload_n 1, .tableswitch 131 10 15 #[37, 42, 61, 80, 96, 112]]
def t_M_ask_40 : List Instr := [.aload_n 0, .invokevirtual 113, .return_]
def t_M_ask_45 : List Instr := [.aload_n 0, .iconst 0, .bipush 70, .invokevirtual 45, .ifCond .ge 7, .iconst 1, .goto 4]
def t_M_ask_59 : List Instr := [.iconst 0, .nop]
def t_M_ask_60 : List Instr := [.istore_n 2, .goto 79]
def t_M_ask_64 : List Instr := [.aload_n 0, .iconst 0, .bipush 70, .invokevirtual 45, .ifCond .le 7, .iconst 1, .goto 4]
def t_M_ask_78 : List Instr := [.iconst 0, .nop]
def t_M_ask_79 : List Instr := [.istore_n 2, .goto 60]
def t_M_ask_83 : List Instr := [.aload_n 0, .invokevirtual 116, .ifCond .ge 7, .iconst 1, .goto 4]
def t_M_ask_94 : List Instr := [.iconst 0, .nop]
def t_M_ask_95 : List Instr := [.istore_n 2, .goto 44]
def t_M_ask_99 : List Instr := [.aload_n 0, .invokevirtual 116, .ifCond .le 7, .iconst 1, .goto 4]
def t_M_ask_110 : List Instr := [.iconst 0, .nop]
def t_M_ask_111 : List Instr := [.istore_n 2, .goto 28]
def t_M_ask_115 : List Instr := [.aload_n 0, .iconst 0, .bipush 70, .invokevirtual 45, .ifCond .ne 7, .iconst 1, .goto 4]
def t_M_ask_129 : List Instr := [.iconst 0, .nop]
def t_M_ask_130 : List Instr := [.istore_n 2, .goto 9]
def t_M_ask_134 : List Instr := [.aload_n 0, .iconst 0, .invokevirtual 104, .istore_n 2, .nop]
def t_M_ask_140 : List Instr := [.aload_n 0, .sipush 210, .iload_n 2, .ifCond .eq 7, .iconst 1, .goto 4]
def t_M_ask_152 : List Instr := [.iconst 0, .nop]
def t_M_ask_153 : List Instr := [.invokevirtual 110, .return_]
def d_M_ask : Nat → List Instr := fun pc => match pc with
  | 0 => t_M_ask_0
  | 40 => t_M_ask_40
  | 45 => t_M_ask_45
  | 59 => t_M_ask_59
  | 60 => t_M_ask_60
  | 64 => t_M_ask_64
  | 78 => t_M_ask_78
  | 79 => t_M_ask_79
  | 83 => t_M_ask_83
  | 94 => t_M_ask_94
  | 95 => t_M_ask_95
  | 99 => t_M_ask_99
  | 110 => t_M_ask_110
  | 111 => t_M_ask_111
  | 115 => t_M_ask_115
  | 129 => t_M_ask_129
  | 130 => t_M_ask_130
  | 134 => t_M_ask_134
  | 140 => t_M_ask_140
  | 152 => t_M_ask_152
  | 153 => t_M_ask_153
  | _ => []
theorem d_M_ask_0 : d_M_ask 0 = t_M_ask_0 := rfl
theorem d_M_ask_40 : d_M_ask 40 = t_M_ask_40 := rfl
theorem d_M_ask_45 : d_M_ask 45 = t_M_ask_45 := rfl
theorem d_M_ask_59 : d_M_ask 59 = t_M_ask_59 := rfl
theorem d_M_ask_60 : d_M_ask 60 = t_M_ask_60 := rfl
theorem d_M_ask_64 : d_M_ask 64 = t_M_ask_64 := rfl
theorem d_M_ask_78 : d_M_ask 78 = t_M_ask_78 := rfl
theorem d_M_ask_79 : d_M_ask 79 = t_M_ask_79 := rfl
theorem d_M_ask_83 : d_M_ask 83 = t_M_ask_83 := rfl
theorem d_M_ask_94 : d_M_ask 94 = t_M_ask_94 := rfl
theorem d_M_ask_95 : d_M_ask 95 = t_M_ask_95 := rfl
theorem d_M_ask_99 : d_M_ask 99 = t_M_ask_99 := rfl
theorem d_M_ask_110 : d_M_ask 110 = t_M_ask_110 := rfl
theorem d_M_ask_111 : d_M_ask 111 = t_M_ask_111 := rfl
theorem d_M_ask_115 : d_M_ask 115 = t_M_ask_115 := rfl
theorem d_M_ask_129 : d_M_ask 129 = t_M_ask_129 := rfl
theorem d_M_ask_130 : d_M_ask 130 = t_M_ask_130 := rfl
theorem d_M_ask_134 : d_M_ask 134 = t_M_ask_134 := rfl
theorem d_M_ask_140 : d_M_ask 140 = t_M_ask_140 := rfl
theorem d_M_ask_152 : d_M_ask 152 = t_M_ask_152 := rfl
theorem d_M_ask_153 : d_M_ask 153 = t_M_ask_153 := rfl
set_option maxRecDepth 100000 in
theorem k_M_ask : ∀ pc, zok c_M_ask 3 pc (d_M_ask pc) = true := by
  intro pc
  unfold d_M_ask
  split
  · decide +kernel
  · decide +kernel
  · decide +kernel
  · decide +kernel
  · decide +kernel
  · decide +kernel
  · decide +kernel
  · decide +kernel
  · decide +kernel
  · decide +kernel
  · decide +kernel
  · decide +kernel
  · decide +kernel
  · decide +kernel
  · decide +kernel
  · decide +kernel
  · decide +kernel
  · decide +kernel
  · decide +kernel
  · decide +kernel
  · decide +kernel
  · rfl
def t_M_extend_0 : List Instr := [.aload_n 0, .sipush 210, .bipush 70, .invokevirtual 34, .aload_n 0, .iconst 0, .invokevirtual 120, .istore_n 1, .iload_n 1, .bipush 31, .if_icmp .ge 52, .aload_n 0, .getfield 16, .bipush 70, .iload_n 1, .iadd, .iaload, .bipush 127, .if_icmp .le 9, .sipush 255, .goto 4]
def t_M_extend_41 : List Instr := [.iconst 0, .nop]
def t_M_extend_42 : List Instr := [.istore_n 2, .iload_n 1, .iconst 1, .iadd, .istore_n 3, .nop]
def t_M_extend_47 : List Instr := [.iload_n 3, .bipush 32, .if_icmp .ge 20, .aload_n 0, .getfield 16, .sipush 210, .iload_n 3, .iadd, .iload_n 2, .iastore, .iinc 3 1, .goto (-20)]
def t_M_extend_70 : List Instr := [.return_]
def d_M_extend : Nat → List Instr := fun pc => match pc with
  | 0 => t_M_extend_0
  | 41 => t_M_extend_41
  | 42 => t_M_extend_42
  | 47 => t_M_extend_47
  | 70 => t_M_extend_70
  | _ => []
theorem d_M_extend_0 : d_M_extend 0 = t_M_extend_0 := rfl
theorem d_M_extend_41 : d_M_extend 41 = t_M_extend_41 := rfl
theorem d_M_extend_42 : d_M_extend 42 = t_M_extend_42 := rfl
theorem d_M_extend_47 : d_M_extend 47 = t_M_extend_47 := rfl
theorem d_M_extend_70 : d_M_extend 70 = t_M_extend_70 := rfl
set_option maxRecDepth 100000 in
theorem k_M_extend : ∀ pc, zok c_M_extend 4 pc (d_M_extend pc) = true := by
  intro pc
  unfold d_M_extend
  split
  · decide +kernel
  · decide +kernel
  · decide +kernel
  · decide +kernel
  · decide +kernel
  · rfl
def t_M_far_0 : List Instr := [.aload_n 0, .getfield 16, .iload_n 1, .iaload, .istore_n 2, .iconst 1, .istore_n 3, .nop]
def t_M_far_9 : List Instr := [.iload_n 3, .bipush 32, .if_icmp .ge 28, .aload_n 0, .getfield 16, .iload_n 1, .iload_n 3, .iadd, .iaload, .ifCond .eq 9, .sipush 256, .goto 4]
def t_M_far_32 : List Instr := [.iload_n 2, .nop]
def t_M_far_33 : List Instr := [.istore_n 2, .iinc 3 1, .goto (-28)]
def t_M_far_40 : List Instr := [.iload_n 2, .ireturn]
def d_M_far : Nat → List Instr := fun pc => match pc with
  | 0 => t_M_far_0
  | 9 => t_M_far_9
  | 32 => t_M_far_32
  | 33 => t_M_far_33
  | 40 => t_M_far_40
  | _ => []
theorem d_M_far_0 : d_M_far 0 = t_M_far_0 := rfl
theorem d_M_far_9 : d_M_far 9 = t_M_far_9 := rfl
theorem d_M_far_32 : d_M_far 32 = t_M_far_32 := rfl
theorem d_M_far_33 : d_M_far 33 = t_M_far_33 := rfl
theorem d_M_far_40 : d_M_far 40 = t_M_far_40 := rfl
set_option maxRecDepth 100000 in
theorem k_M_far : ∀ pc, zok c_M_far 4 pc (d_M_far pc) = true := by
  intro pc
  unfold d_M_far
  split
  · decide +kernel
  · decide +kernel
  · decide +kernel
  · decide +kernel
  · decide +kernel
  · rfl
def t_M_compareSigned_0 : List Instr := [.aload_n 0, .getfield 16, .bipush 31, .dup2, .iaload, .sipush 128, .ixor, .iastore, .aload_n 0, .getfield 16, .bipush 101, .dup2, .iaload, .sipush 128, .ixor, .iastore, .aload_n 0, .iconst 0, .bipush 70, .invokevirtual 45, .ireturn]
def d_M_compareSigned : Nat → List Instr := fun pc => match pc with
  | 0 => t_M_compareSigned_0
  | _ => []
theorem d_M_compareSigned_0 : d_M_compareSigned 0 = t_M_compareSigned_0 := rfl
set_option maxRecDepth 100000 in
theorem k_M_compareSigned : ∀ pc, zok c_M_compareSigned 1 pc (d_M_compareSigned pc) = true := by
  intro pc
  unfold d_M_compareSigned
  split
  · decide +kernel
  · rfl
def t_M_bits_0 : List Instr := [.aload_n 0, .sipush 210, .invokevirtual 23, .aload_n 0, .iconst 0, .invokevirtual 120, .istore_n 2, .iload_n 1, .bipush 21, .if_icmp .ne 31, .aload_n 0, .getfield 16, .sipush 210, .iload_n 2, .bipush 31, .if_icmp .le 7, .iconst 0, .goto 12]
def t_M_bits_36 : List Instr := [.aload_n 0, .getfield 16, .bipush 101, .iload_n 2, .isub, .iaload, .nop]
def t_M_bits_45 : List Instr := [.iastore, .return_]
def t_M_bits_47 : List Instr := [.iconst 0, .istore_n 3, .nop]
def t_M_bits_49 : List Instr := [.iload_n 3, .sipush 256, .if_icmp .ge 178, .aload_n 0, .iconst 0, .iload_n 3, .invokevirtual 38, .istore 4, .aload_n 0, .bipush 70, .iload_n 3, .invokevirtual 38, .istore 5, .iload_n 1, .bipush 24, .if_icmp .ne 15, .aload_n 0, .bipush 70, .sipush 255, .invokevirtual 38, .goto 4]
def t_M_bits_91 : List Instr := [.iconst 0, .nop]
def t_M_bits_92 : List Instr := [.istore 6, .iload_n 1, .bipush 17, .if_icmp .ne 11, .iload 4, .iload 5, .iand, .goto 35]
def t_M_bits_108 : List Instr := [.iload_n 1, .bipush 18, .if_icmp .ne 11, .iload 4, .iload 5, .ior, .goto 21]
def t_M_bits_122 : List Instr := [.iload_n 1, .bipush 19, .if_icmp .ne 11, .iload 4, .iload 5, .ixor, .goto 7]
def t_M_bits_136 : List Instr := [.iconst 1, .iload 4, .isub, .nop]
def t_M_bits_140 : List Instr := [.istore 7, .iload_n 1, .bipush 22, .if_icmp .ne 26, .iload_n 3, .iload_n 2, .if_icmp .lt 15, .aload_n 0, .bipush 70, .iload_n 3, .iload_n 2, .isub, .invokevirtual 38, .goto 4]
def t_M_bits_165 : List Instr := [.iconst 0, .nop]
def t_M_bits_166 : List Instr := [.istore 7, .goto 34]
def t_M_bits_171 : List Instr := [.iload_n 1, .bipush 22, .if_icmp .le 28, .iload_n 3, .iload_n 2, .iadd, .sipush 256, .if_icmp .ge 15, .aload_n 0, .bipush 70, .iload_n 3, .iload_n 2, .iadd, .invokevirtual 38, .goto 5]
def t_M_bits_198 : List Instr := [.iload 6, .nop]
def t_M_bits_200 : List Instr := [.istore 7, .nop]
def t_M_bits_202 : List Instr := [.aload_n 0, .getfield 16, .sipush 210, .iload_n 3, .bipush 8, .idiv, .iadd, .dup2, .iaload, .iload 7, .iload_n 3, .bipush 8, .irem, .ishl, .ior, .iastore, .iinc 3 1, .goto (-179)]
def t_M_bits_231 : List Instr := [.return_]
def d_M_bits : Nat → List Instr := fun pc => match pc with
  | 0 => t_M_bits_0
  | 36 => t_M_bits_36
  | 45 => t_M_bits_45
  | 47 => t_M_bits_47
  | 49 => t_M_bits_49
  | 91 => t_M_bits_91
  | 92 => t_M_bits_92
  | 108 => t_M_bits_108
  | 122 => t_M_bits_122
  | 136 => t_M_bits_136
  | 140 => t_M_bits_140
  | 165 => t_M_bits_165
  | 166 => t_M_bits_166
  | 171 => t_M_bits_171
  | 198 => t_M_bits_198
  | 200 => t_M_bits_200
  | 202 => t_M_bits_202
  | 231 => t_M_bits_231
  | _ => []
theorem d_M_bits_0 : d_M_bits 0 = t_M_bits_0 := rfl
theorem d_M_bits_36 : d_M_bits 36 = t_M_bits_36 := rfl
theorem d_M_bits_45 : d_M_bits 45 = t_M_bits_45 := rfl
theorem d_M_bits_47 : d_M_bits 47 = t_M_bits_47 := rfl
theorem d_M_bits_49 : d_M_bits 49 = t_M_bits_49 := rfl
theorem d_M_bits_91 : d_M_bits 91 = t_M_bits_91 := rfl
theorem d_M_bits_92 : d_M_bits 92 = t_M_bits_92 := rfl
theorem d_M_bits_108 : d_M_bits 108 = t_M_bits_108 := rfl
theorem d_M_bits_122 : d_M_bits 122 = t_M_bits_122 := rfl
theorem d_M_bits_136 : d_M_bits 136 = t_M_bits_136 := rfl
theorem d_M_bits_140 : d_M_bits 140 = t_M_bits_140 := rfl
theorem d_M_bits_165 : d_M_bits 165 = t_M_bits_165 := rfl
theorem d_M_bits_166 : d_M_bits 166 = t_M_bits_166 := rfl
theorem d_M_bits_171 : d_M_bits 171 = t_M_bits_171 := rfl
theorem d_M_bits_198 : d_M_bits 198 = t_M_bits_198 := rfl
theorem d_M_bits_200 : d_M_bits 200 = t_M_bits_200 := rfl
theorem d_M_bits_202 : d_M_bits 202 = t_M_bits_202 := rfl
theorem d_M_bits_231 : d_M_bits 231 = t_M_bits_231 := rfl
set_option maxRecDepth 100000 in
theorem k_M_bits : ∀ pc, zok c_M_bits 8 pc (d_M_bits pc) = true := by
  intro pc
  unfold d_M_bits
  split
  · decide +kernel
  · decide +kernel
  · decide +kernel
  · decide +kernel
  · decide +kernel
  · decide +kernel
  · decide +kernel
  · decide +kernel
  · decide +kernel
  · decide +kernel
  · decide +kernel
  · decide +kernel
  · decide +kernel
  · decide +kernel
  · decide +kernel
  · decide +kernel
  · decide +kernel
  · decide +kernel
  · rfl
def t_M_checked_0 : List Instr := [.aload_n 0, .iconst 0, .putfield 19, .aload_n 0, .iload_n 1, .iload_n 2, .invokevirtual 137, .istore_n 3, .iload_n 3, .ifCond .eq 9, .aload_n 0, .iload_n 3, .invokevirtual 58, .ireturn]
def t_M_checked_22 : List Instr := [.aload_n 0, .iload_n 2, .invokevirtual 141, .ifCond .eq 10, .aload_n 0, .invokevirtual 145, .goto 8]
def t_M_checked_37 : List Instr := [.aload_n 0, .iconst 3, .invokevirtual 58, .nop]
def t_M_checked_42 : List Instr := [.ireturn]
def d_M_checked : Nat → List Instr := fun pc => match pc with
  | 0 => t_M_checked_0
  | 22 => t_M_checked_22
  | 37 => t_M_checked_37
  | 42 => t_M_checked_42
  | _ => []
theorem d_M_checked_0 : d_M_checked 0 = t_M_checked_0 := rfl
theorem d_M_checked_22 : d_M_checked 22 = t_M_checked_22 := rfl
theorem d_M_checked_37 : d_M_checked 37 = t_M_checked_37 := rfl
theorem d_M_checked_42 : d_M_checked 42 = t_M_checked_42 := rfl
set_option maxRecDepth 100000 in
theorem k_M_checked : ∀ pc, zok c_M_checked 4 pc (d_M_checked pc) = true := by
  intro pc
  unfold d_M_checked
  split
  · decide +kernel
  · decide +kernel
  · decide +kernel
  · decide +kernel
  · rfl
def t_M_due_0 : List Instr := [.iload_n 1, .ifCond .lt 8, .iload_n 1, .iconst 4, .if_icmp .le 5, .iconst 1, .ireturn]
def t_M_due_9 : List Instr := [.iconst 1, .ireturn]
def t_M_due_11 : List Instr := [.aload_n 0, .getfield 27, .iconst 2, .if_icmp .ge 5, .iconst 2, .ireturn]
def t_M_due_21 : List Instr := [.aload_n 0, .iload_n 1, .iload_n 2, .invokevirtual 133, .ifCond .eq 7, .iconst 0, .goto 4]
def t_M_due_34 : List Instr := [.iconst 3, .nop]
def t_M_due_35 : List Instr := [.ireturn]
def d_M_due : Nat → List Instr := fun pc => match pc with
  | 0 => t_M_due_0
  | 9 => t_M_due_9
  | 11 => t_M_due_11
  | 21 => t_M_due_21
  | 34 => t_M_due_34
  | 35 => t_M_due_35
  | _ => []
theorem d_M_due_0 : d_M_due 0 = t_M_due_0 := rfl
theorem d_M_due_9 : d_M_due 9 = t_M_due_9 := rfl
theorem d_M_due_11 : d_M_due 11 = t_M_due_11 := rfl
theorem d_M_due_21 : d_M_due 21 = t_M_due_21 := rfl
theorem d_M_due_34 : d_M_due 34 = t_M_due_34 := rfl
theorem d_M_due_35 : d_M_due 35 = t_M_due_35 := rfl
set_option maxRecDepth 100000 in
theorem k_M_due : ∀ pc, zok c_M_due 3 pc (d_M_due pc) = true := by
  intro pc
  unfold d_M_due
  split
  · decide +kernel
  · decide +kernel
  · decide +kernel
  · decide +kernel
  · decide +kernel
  · decide +kernel
  · rfl
def t_M_exact_0 : List Instr := [.aload_n 0, .iconst 0, .iconst 0, .invokevirtual 70, .aload_n 0, .bipush 70, .iconst 1, .invokevirtual 70, .iload_n 2, .ifCond .eq 15, .aload_n 0, .iconst 0, .invokevirtual 101, .ifCond .eq 7, .iconst 1, .goto 4]
def t_M_exact_29 : List Instr := [.iconst 0, .nop]
def t_M_exact_30 : List Instr := [.istore_n 3, .iload_n 2, .ifCond .eq 16, .aload_n 0, .bipush 70, .invokevirtual 101, .ifCond .eq 7, .iconst 1, .goto 4]
def t_M_exact_48 : List Instr := [.iconst 0, .nop]
def t_M_exact_49 : List Instr := [.istore 4, .iload_n 1, .iconst 2, .if_icmp .le 14, .aload_n 0, .bipush 70, .invokevirtual 104, .ifCond .eq 5, .iconst 0, .ireturn]
def t_M_exact_67 : List Instr := [.iload_n 1, .iconst 1, .if_icmp .ne 31, .aload_n 0, .sipush 210, .iconst 0, .bipush 70, .invokevirtual 88, .aload_n 0, .iload_n 3, .iload 4, .if_icmp .eq 7, .iconst 1, .goto 4]
def t_M_exact_93 : List Instr := [.iconst 0, .nop]
def t_M_exact_94 : List Instr := [.putfield 123, .goto 87]
def t_M_exact_100 : List Instr := [.iload_n 1, .iconst 2, .if_icmp .le 58, .aload_n 0, .iconst 0, .bipush 70, .invokevirtual 107, .aload_n 0, .sipush 210, .iload_n 1, .iconst 3, .if_icmp .ne 9, .sipush 280, .goto 6]
def t_M_exact_127 : List Instr := [.sipush 350, .nop]
def t_M_exact_130 : List Instr := [.invokevirtual 34, .aload_n 0, .iload_n 1, .iconst 3, .if_icmp .ne 17, .iload_n 3, .iload 4, .if_icmp .eq 7, .iconst 1, .goto 8]
def t_M_exact_149 : List Instr := [.iconst 0, .goto 4]
def t_M_exact_153 : List Instr := [.iload_n 3, .nop]
def t_M_exact_154 : List Instr := [.putfield 123, .goto 27]
def t_M_exact_160 : List Instr := [.aload_n 0, .iload_n 3, .iload_n 1, .ifCond .ne 8, .iload 4, .goto 13]
def t_M_exact_171 : List Instr := [.iload 4, .ifCond .ne 7, .iconst 1, .goto 4]
def t_M_exact_180 : List Instr := [.iconst 0, .nop]
def t_M_exact_181 : List Instr := [.invokevirtual 127, .nop]
def t_M_exact_184 : List Instr := [.aload_n 0, .aload_n 0, .getfield 123, .ifCond .eq 17, .aload_n 0, .sipush 210, .invokevirtual 104, .ifCond .ne 7, .iconst 1, .goto 4]
def t_M_exact_206 : List Instr := [.iconst 0, .nop]
def t_M_exact_207 : List Instr := [.putfield 123, .iconst 1, .ireturn]
def d_M_exact : Nat → List Instr := fun pc => match pc with
  | 0 => t_M_exact_0
  | 29 => t_M_exact_29
  | 30 => t_M_exact_30
  | 48 => t_M_exact_48
  | 49 => t_M_exact_49
  | 67 => t_M_exact_67
  | 93 => t_M_exact_93
  | 94 => t_M_exact_94
  | 100 => t_M_exact_100
  | 127 => t_M_exact_127
  | 130 => t_M_exact_130
  | 149 => t_M_exact_149
  | 153 => t_M_exact_153
  | 154 => t_M_exact_154
  | 160 => t_M_exact_160
  | 171 => t_M_exact_171
  | 180 => t_M_exact_180
  | 181 => t_M_exact_181
  | 184 => t_M_exact_184
  | 206 => t_M_exact_206
  | 207 => t_M_exact_207
  | _ => []
theorem d_M_exact_0 : d_M_exact 0 = t_M_exact_0 := rfl
theorem d_M_exact_29 : d_M_exact 29 = t_M_exact_29 := rfl
theorem d_M_exact_30 : d_M_exact 30 = t_M_exact_30 := rfl
theorem d_M_exact_48 : d_M_exact 48 = t_M_exact_48 := rfl
theorem d_M_exact_49 : d_M_exact 49 = t_M_exact_49 := rfl
theorem d_M_exact_67 : d_M_exact 67 = t_M_exact_67 := rfl
theorem d_M_exact_93 : d_M_exact 93 = t_M_exact_93 := rfl
theorem d_M_exact_94 : d_M_exact 94 = t_M_exact_94 := rfl
theorem d_M_exact_100 : d_M_exact 100 = t_M_exact_100 := rfl
theorem d_M_exact_127 : d_M_exact 127 = t_M_exact_127 := rfl
theorem d_M_exact_130 : d_M_exact 130 = t_M_exact_130 := rfl
theorem d_M_exact_149 : d_M_exact 149 = t_M_exact_149 := rfl
theorem d_M_exact_153 : d_M_exact 153 = t_M_exact_153 := rfl
theorem d_M_exact_154 : d_M_exact 154 = t_M_exact_154 := rfl
theorem d_M_exact_160 : d_M_exact 160 = t_M_exact_160 := rfl
theorem d_M_exact_171 : d_M_exact 171 = t_M_exact_171 := rfl
theorem d_M_exact_180 : d_M_exact 180 = t_M_exact_180 := rfl
theorem d_M_exact_181 : d_M_exact 181 = t_M_exact_181 := rfl
theorem d_M_exact_184 : d_M_exact 184 = t_M_exact_184 := rfl
theorem d_M_exact_206 : d_M_exact 206 = t_M_exact_206 := rfl
theorem d_M_exact_207 : d_M_exact 207 = t_M_exact_207 := rfl
set_option maxRecDepth 100000 in
theorem k_M_exact : ∀ pc, zok c_M_exact 5 pc (d_M_exact pc) = true := by
  intro pc
  unfold d_M_exact
  split
  · decide +kernel
  · decide +kernel
  · decide +kernel
  · decide +kernel
  · decide +kernel
  · decide +kernel
  · decide +kernel
  · decide +kernel
  · decide +kernel
  · decide +kernel
  · decide +kernel
  · decide +kernel
  · decide +kernel
  · decide +kernel
  · decide +kernel
  · decide +kernel
  · decide +kernel
  · decide +kernel
  · decide +kernel
  · decide +kernel
  · decide +kernel
  · rfl
def t_M_together_0 : List Instr := [.iload_n 1, .iload_n 2, .if_icmp .ne 21, .aload_n 0, .sipush 210, .iconst 0, .bipush 70, .invokevirtual 85, .aload_n 0, .iload_n 1, .putfield 123, .goto 46]
def t_M_together_23 : List Instr := [.aload_n 0, .iconst 0, .bipush 70, .invokevirtual 45, .ifCond .lt 21, .aload_n 0, .sipush 210, .iconst 0, .bipush 70, .invokevirtual 48, .aload_n 0, .iload_n 1, .putfield 123, .goto 18]
def t_M_together_51 : List Instr := [.aload_n 0, .sipush 210, .bipush 70, .iconst 0, .invokevirtual 48, .aload_n 0, .iload_n 2, .putfield 123, .nop]
def t_M_together_66 : List Instr := [.return_]
def d_M_together : Nat → List Instr := fun pc => match pc with
  | 0 => t_M_together_0
  | 23 => t_M_together_23
  | 51 => t_M_together_51
  | 66 => t_M_together_66
  | _ => []
theorem d_M_together_0 : d_M_together 0 = t_M_together_0 := rfl
theorem d_M_together_23 : d_M_together 23 = t_M_together_23 := rfl
theorem d_M_together_51 : d_M_together 51 = t_M_together_51 := rfl
theorem d_M_together_66 : d_M_together 66 = t_M_together_66 := rfl
set_option maxRecDepth 100000 in
theorem k_M_together : ∀ pc, zok c_M_together 3 pc (d_M_together pc) = true := by
  intro pc
  unfold d_M_together
  split
  · decide +kernel
  · decide +kernel
  · decide +kernel
  · decide +kernel
  · rfl
def t_M_ranges_0 : List Instr := [.iload_n 1, .ifCond .ne 12, .aload_n 0, .getfield 123, .ifCond .eq 5, .iconst 0, .ireturn]
def t_M_ranges_13 : List Instr := [.aload_n 0, .sipush 280, .sipush 210, .invokevirtual 34, .aload_n 0, .iload_n 1, .ifCond .eq 9, .sipush 255, .goto 6]
def t_M_ranges_34 : List Instr := [.sipush 256, .nop]
def t_M_ranges_37 : List Instr := [.invokevirtual 130, .aload_n 0, .sipush 280, .sipush 210, .invokevirtual 45, .istore_n 2, .aload_n 0, .sipush 210, .sipush 280, .invokevirtual 34, .iload_n 2, .ifCond .lt 14, .iload_n 2, .ifCond .ne 14, .aload_n 0, .getfield 123, .ifCond .eq 7, .iconst 1, .goto 4]
def t_M_ranges_76 : List Instr := [.iconst 1, .goto 4]
def t_M_ranges_80 : List Instr := [.iconst 0, .nop]
def t_M_ranges_81 : List Instr := [.ireturn]
def d_M_ranges : Nat → List Instr := fun pc => match pc with
  | 0 => t_M_ranges_0
  | 13 => t_M_ranges_13
  | 34 => t_M_ranges_34
  | 37 => t_M_ranges_37
  | 76 => t_M_ranges_76
  | 80 => t_M_ranges_80
  | 81 => t_M_ranges_81
  | _ => []
theorem d_M_ranges_0 : d_M_ranges 0 = t_M_ranges_0 := rfl
theorem d_M_ranges_13 : d_M_ranges 13 = t_M_ranges_13 := rfl
theorem d_M_ranges_34 : d_M_ranges 34 = t_M_ranges_34 := rfl
theorem d_M_ranges_37 : d_M_ranges 37 = t_M_ranges_37 := rfl
theorem d_M_ranges_76 : d_M_ranges 76 = t_M_ranges_76 := rfl
theorem d_M_ranges_80 : d_M_ranges 80 = t_M_ranges_80 := rfl
theorem d_M_ranges_81 : d_M_ranges 81 = t_M_ranges_81 := rfl
set_option maxRecDepth 100000 in
theorem k_M_ranges : ∀ pc, zok c_M_ranges 3 pc (d_M_ranges pc) = true := by
  intro pc
  unfold d_M_ranges
  split
  · decide +kernel
  · decide +kernel
  · decide +kernel
  · decide +kernel
  · decide +kernel
  · decide +kernel
  · decide +kernel
  · rfl
def t_M_power_0 : List Instr := [.aload_n 0, .sipush 210, .invokevirtual 23, .aload_n 0, .getfield 16, .sipush 210, .iload_n 1, .bipush 8, .idiv, .iadd, .iconst 1, .iload_n 1, .bipush 8, .irem, .ishl, .iastore, .return_]
def d_M_power : Nat → List Instr := fun pc => match pc with
  | 0 => t_M_power_0
  | _ => []
theorem d_M_power_0 : d_M_power 0 = t_M_power_0 := rfl
set_option maxRecDepth 100000 in
theorem k_M_power : ∀ pc, zok c_M_power 2 pc (d_M_power pc) = true := by
  intro pc
  unfold d_M_power
  split
  · decide +kernel
  · rfl
def t_M_settle_0 : List Instr := [.aload_n 0, .getfield 123, .ifCond .eq 10, .aload_n 0, .sipush 210, .invokevirtual 55, .nop]
def t_M_settle_14 : List Instr := [.aload_n 0, .sipush 210, .aload_n 0, .getfield 27, .iconst 1, .isub, .invokevirtual 63, .aload_n 0, .getfield 27, .ireturn]
def d_M_settle : Nat → List Instr := fun pc => match pc with
  | 0 => t_M_settle_0
  | 14 => t_M_settle_14
  | _ => []
theorem d_M_settle_0 : d_M_settle 0 = t_M_settle_0 := rfl
theorem d_M_settle_14 : d_M_settle 14 = t_M_settle_14 := rfl
set_option maxRecDepth 100000 in
theorem k_M_settle : ∀ pc, zok c_M_settle 1 pc (d_M_settle pc) = true := by
  intro pc
  unfold d_M_settle
  split
  · decide +kernel
  · decide +kernel
  · rfl
def t_M_nearest_0 : List Instr := [.aload_n 0, .iconst 0, .putfield 19, .aload_n 0, .iload_n 1, .iload_n 2, .invokevirtual 137, .istore_n 3, .iload_n 3, .ifCond .eq 9, .aload_n 0, .iload_n 3, .invokevirtual 58, .ireturn]
def t_M_nearest_22 : List Instr := [.aload_n 0, .iload_n 2, .invokevirtual 141, .ifCond .ne 74, .aload_n 0, .getfield 123, .ifCond .eq 22, .iload_n 2, .ifCond .ne 18, .aload_n 0, .sipush 210, .invokevirtual 23, .aload_n 0, .iconst 0, .putfield 123, .goto 48]
def t_M_nearest_56 : List Instr := [.aload_n 0, .iload_n 2, .ifCond .eq 9, .sipush 255, .goto 6]
def t_M_nearest_67 : List Instr := [.sipush 256, .nop]
def t_M_nearest_70 : List Instr := [.invokevirtual 130, .aload_n 0, .getfield 123, .ifCond .ne 24, .aload_n 0, .sipush 280, .iconst 1, .invokevirtual 110, .aload_n 0, .sipush 210, .sipush 210, .sipush 280, .invokevirtual 48, .nop]
def t_M_nearest_101 : List Instr := [.aload_n 0, .invokevirtual 145, .ireturn]
def d_M_nearest : Nat → List Instr := fun pc => match pc with
  | 0 => t_M_nearest_0
  | 22 => t_M_nearest_22
  | 56 => t_M_nearest_56
  | 67 => t_M_nearest_67
  | 70 => t_M_nearest_70
  | 101 => t_M_nearest_101
  | _ => []
theorem d_M_nearest_0 : d_M_nearest 0 = t_M_nearest_0 := rfl
theorem d_M_nearest_22 : d_M_nearest 22 = t_M_nearest_22 := rfl
theorem d_M_nearest_56 : d_M_nearest 56 = t_M_nearest_56 := rfl
theorem d_M_nearest_67 : d_M_nearest 67 = t_M_nearest_67 := rfl
theorem d_M_nearest_70 : d_M_nearest 70 = t_M_nearest_70 := rfl
theorem d_M_nearest_101 : d_M_nearest 101 = t_M_nearest_101 := rfl
set_option maxRecDepth 100000 in
theorem k_M_nearest : ∀ pc, zok c_M_nearest 4 pc (d_M_nearest pc) = true := by
  intro pc
  unfold d_M_nearest
  split
  · decide +kernel
  · decide +kernel
  · decide +kernel
  · decide +kernel
  · decide +kernel
  · decide +kernel
  · rfl
def t_M_fits_0 : List Instr := [.aload_n 0, .iconst 0, .putfield 19, .aload_n 0, .iload_n 1, .iload_n 2, .invokevirtual 137, .ifCond .ne 15, .aload_n 0, .iload_n 2, .invokevirtual 141, .ifCond .eq 7, .iconst 1, .goto 4]
def t_M_fits_26 : List Instr := [.iconst 0, .nop]
def t_M_fits_27 : List Instr := [.ireturn]
def d_M_fits : Nat → List Instr := fun pc => match pc with
  | 0 => t_M_fits_0
  | 26 => t_M_fits_26
  | 27 => t_M_fits_27
  | _ => []
theorem d_M_fits_0 : d_M_fits 0 = t_M_fits_0 := rfl
theorem d_M_fits_26 : d_M_fits 26 = t_M_fits_26 := rfl
theorem d_M_fits_27 : d_M_fits 27 = t_M_fits_27 := rfl
set_option maxRecDepth 100000 in
theorem k_M_fits : ∀ pc, zok c_M_fits 3 pc (d_M_fits pc) = true := by
  intro pc
  unfold d_M_fits
  split
  · decide +kernel
  · decide +kernel
  · decide +kernel
  · rfl
def t_M_key_0 : List Instr := [.aload_n 0, .iconst 0, .putfield 19, .iload_n 1, .sipush 255, .if_icmp .gt 12, .aload_n 0, .getfield 148, .bipush 80, .if_icmp .ne 5, .iconst 0, .ireturn]
def t_M_key_21 : List Instr := [.iconst 0, .ireturn]
def t_M_key_23 : List Instr := [.aload_n 0, .getfield 13, .aload_n 0, .getfield 148, .iload_n 1, .iastore, .aload_n 0, .dup, .getfield 148, .iconst 1, .iadd, .putfield 148, .iconst 1, .ireturn]
def d_M_key : Nat → List Instr := fun pc => match pc with
  | 0 => t_M_key_0
  | 21 => t_M_key_21
  | 23 => t_M_key_23
  | _ => []
theorem d_M_key_0 : d_M_key 0 = t_M_key_0 := rfl
theorem d_M_key_21 : d_M_key 21 = t_M_key_21 := rfl
theorem d_M_key_23 : d_M_key 23 = t_M_key_23 := rfl
set_option maxRecDepth 100000 in
theorem k_M_key : ∀ pc, zok c_M_key 2 pc (d_M_key pc) = true := by
  intro pc
  unfold d_M_key
  split
  · decide +kernel
  · decide +kernel
  · decide +kernel
  · rfl
def t_M_clear_0 : List Instr := [.aload_n 0, .iconst 0, .putfield 19, .aload_n 0, .getfield 148, .istore_n 1, .aload_n 0, .iconst 0, .putfield 148, .iload_n 1, .ireturn]
def d_M_clear : Nat → List Instr := fun pc => match pc with
  | 0 => t_M_clear_0
  | _ => []
theorem d_M_clear_0 : d_M_clear 0 = t_M_clear_0 := rfl
set_option maxRecDepth 100000 in
theorem k_M_clear : ∀ pc, zok c_M_clear 2 pc (d_M_clear pc) = true := by
  intro pc
  unfold d_M_clear
  split
  · decide +kernel
  · rfl
def t_M_letter_0 : List Instr := [.aload_n 0, .iconst 0, .putfield 19, .iload_n 1, .ifCond .lt 20, .iload_n 1, .aload_n 0, .getfield 148, .if_icmp .ge 12, .aload_n 0, .getfield 13, .iload_n 1, .iaload, .goto 4]
def t_M_letter_26 : List Instr := [.iconst (-1), .nop]
def t_M_letter_27 : List Instr := [.ireturn]
def d_M_letter : Nat → List Instr := fun pc => match pc with
  | 0 => t_M_letter_0
  | 26 => t_M_letter_26
  | 27 => t_M_letter_27
  | _ => []
theorem d_M_letter_0 : d_M_letter 0 = t_M_letter_0 := rfl
theorem d_M_letter_26 : d_M_letter 26 = t_M_letter_26 := rfl
theorem d_M_letter_27 : d_M_letter 27 = t_M_letter_27 := rfl
set_option maxRecDepth 100000 in
theorem k_M_letter : ∀ pc, zok c_M_letter 2 pc (d_M_letter pc) = true := by
  intro pc
  unfold d_M_letter
  split
  · decide +kernel
  · decide +kernel
  · decide +kernel
  · rfl
def t_M_print_0 : List Instr := [.aload_n 0, .iconst 0, .putfield 19, .aload_n 0, .iload_n 1, .invokevirtual 66, .ifCond .ne 9, .aload_n 0, .iconst 1, .invokevirtual 58, .ireturn]
def t_M_print_19 : List Instr := [.aload_n 0, .iconst 0, .iload_n 1, .invokevirtual 70, .aload_n 0, .bipush 70, .iload_n 2, .ifCond .eq 8, .bipush 16, .goto 5]
def t_M_print_37 : List Instr := [.bipush 10, .nop]
def t_M_print_39 : List Instr := [.invokevirtual 110, .iload_n 2, .ifCond .eq 7, .iconst 2, .goto 4]
def t_M_print_50 : List Instr := [.iconst 0, .nop]
def t_M_print_51 : List Instr := [.istore_n 3, .aload_n 0, .getfield 13, .iconst 0, .bipush 48, .iastore, .aload_n 0, .getfield 13, .iconst 1, .bipush 120, .iastore, .aload_n 0, .iload_n 3, .putfield 148, .iconst 1, .istore 4, .nop]
def t_M_print_76 : List Instr := [.iload 4, .ifCond .eq 88, .aload_n 0, .iconst 0, .bipush 70, .invokevirtual 107, .aload_n 0, .getfield 16, .sipush 350, .iaload, .istore 5, .aload_n 0, .getfield 13, .aload_n 0, .getfield 148, .iload 5, .bipush 10, .if_icmp .ge 11, .bipush 48, .iload 5, .iadd, .goto 11]
def t_M_print_121 : List Instr := [.bipush 97, .iload 5, .iadd, .bipush 10, .isub, .nop]
def t_M_print_129 : List Instr := [.iastore, .aload_n 0, .dup, .getfield 148, .iconst 1, .iadd, .putfield 148, .aload_n 0, .iconst 0, .sipush 280, .invokevirtual 34, .aload_n 0, .iconst 0, .invokevirtual 104, .ifCond .ne 7, .iconst 1, .goto 4]
def t_M_print_160 : List Instr := [.iconst 0, .nop]
def t_M_print_161 : List Instr := [.istore 4, .goto (-87)]
def t_M_print_166 : List Instr := [.iconst 0, .istore 5, .nop]
def t_M_print_169 : List Instr := [.iload_n 3, .iload 5, .iadd, .aload_n 0, .getfield 148, .iconst 1, .isub, .iload 5, .isub, .if_icmp .ge 59, .aload_n 0, .getfield 13, .iload_n 3, .iload 5, .iadd, .iaload, .istore 6, .aload_n 0, .getfield 13, .iload_n 3, .iload 5, .iadd, .aload_n 0, .getfield 13, .aload_n 0, .getfield 148, .iconst 1, .isub, .iload 5, .isub, .iaload, .iastore, .aload_n 0, .getfield 13, .aload_n 0, .getfield 148, .iconst 1, .isub, .iload 5, .isub, .iload 6, .iastore, .iinc 5 1, .goto (-69)]
def t_M_print_241 : List Instr := [.aload_n 0, .getfield 148, .ireturn]
def d_M_print : Nat → List Instr := fun pc => match pc with
  | 0 => t_M_print_0
  | 19 => t_M_print_19
  | 37 => t_M_print_37
  | 39 => t_M_print_39
  | 50 => t_M_print_50
  | 51 => t_M_print_51
  | 76 => t_M_print_76
  | 121 => t_M_print_121
  | 129 => t_M_print_129
  | 160 => t_M_print_160
  | 161 => t_M_print_161
  | 166 => t_M_print_166
  | 169 => t_M_print_169
  | 241 => t_M_print_241
  | _ => []
theorem d_M_print_0 : d_M_print 0 = t_M_print_0 := rfl
theorem d_M_print_19 : d_M_print 19 = t_M_print_19 := rfl
theorem d_M_print_37 : d_M_print 37 = t_M_print_37 := rfl
theorem d_M_print_39 : d_M_print 39 = t_M_print_39 := rfl
theorem d_M_print_50 : d_M_print 50 = t_M_print_50 := rfl
theorem d_M_print_51 : d_M_print 51 = t_M_print_51 := rfl
theorem d_M_print_76 : d_M_print 76 = t_M_print_76 := rfl
theorem d_M_print_121 : d_M_print 121 = t_M_print_121 := rfl
theorem d_M_print_129 : d_M_print 129 = t_M_print_129 := rfl
theorem d_M_print_160 : d_M_print 160 = t_M_print_160 := rfl
theorem d_M_print_161 : d_M_print 161 = t_M_print_161 := rfl
theorem d_M_print_166 : d_M_print 166 = t_M_print_166 := rfl
theorem d_M_print_169 : d_M_print 169 = t_M_print_169 := rfl
theorem d_M_print_241 : d_M_print 241 = t_M_print_241 := rfl
set_option maxRecDepth 100000 in
theorem k_M_print : ∀ pc, zok c_M_print 7 pc (d_M_print pc) = true := by
  intro pc
  unfold d_M_print
  split
  · decide +kernel
  · decide +kernel
  · decide +kernel
  · decide +kernel
  · decide +kernel
  · decide +kernel
  · decide +kernel
  · decide +kernel
  · decide +kernel
  · decide +kernel
  · decide +kernel
  · decide +kernel
  · decide +kernel
  · decide +kernel
  · rfl
def t_M_parse_0 : List Instr := [.aload_n 0, .iconst 0, .putfield 19, .aload_n 0, .iload_n 1, .invokevirtual 154, .istore_n 2, .aload_n 0, .iload_n 2, .invokevirtual 157, .ireturn]
def d_M_parse : Nat → List Instr := fun pc => match pc with
  | 0 => t_M_parse_0
  | _ => []
theorem d_M_parse_0 : d_M_parse 0 = t_M_parse_0 := rfl
set_option maxRecDepth 100000 in
theorem k_M_parse : ∀ pc, zok c_M_parse 3 pc (d_M_parse pc) = true := by
  intro pc
  unfold d_M_parse
  split
  · decide +kernel
  · rfl
def t_M_numeral_0 : List Instr := [.iload_n 1, .ifCond .eq 7, .iconst 2, .goto 4]
def t_M_numeral_8 : List Instr := [.iconst 0, .nop]
def t_M_numeral_9 : List Instr := [.istore_n 2, .iload_n 1, .ifCond .eq 8, .bipush 16, .goto 5]
def t_M_numeral_19 : List Instr := [.bipush 10, .nop]
def t_M_numeral_21 : List Instr := [.istore_n 3, .aload_n 0, .getfield 148, .iload_n 2, .if_icmp .le 50, .iload_n 1, .ifCond .eq 25, .aload_n 0, .getfield 13, .iconst 0, .iaload, .bipush 48, .if_icmp .ne 35, .aload_n 0, .getfield 13, .iconst 1, .iaload, .bipush 120, .if_icmp .ne 24, .nop]
def t_M_numeral_56 : List Instr := [.aload_n 0, .getfield 13, .iload_n 2, .iaload, .bipush 48, .if_icmp .ne 15, .aload_n 0, .getfield 148, .iload_n 2, .iconst 1, .iadd, .if_icmp .le 5, .iconst 0, .ireturn]
def t_M_numeral_77 : List Instr := [.iconst 0, .ireturn]
def t_M_numeral_79 : List Instr := [.aload_n 0, .sipush 210, .invokevirtual 23, .iload_n 2, .istore 4, .nop]
def t_M_numeral_89 : List Instr := [.iload 4, .aload_n 0, .getfield 148, .if_icmp .ge 95, .aload_n 0, .getfield 13, .iload 4, .iaload, .invokestatic 151, .iload_n 3, .if_icmp .lt 5, .iconst 0, .ireturn]
def t_M_numeral_114 : List Instr := [.aload_n 0, .getfield 13, .iload 4, .iaload, .invokestatic 151, .istore 5, .iconst 0, .istore 6, .nop]
def t_M_numeral_129 : List Instr := [.iload 6, .bipush 70, .if_icmp .ge 51, .aload_n 0, .getfield 16, .sipush 210, .iload 6, .iadd, .iaload, .iload_n 3, .imul, .iload 5, .iadd, .istore 7, .aload_n 0, .getfield 16, .sipush 210, .iload 6, .iadd, .iload 7, .sipush 255, .iand, .iastore, .iload 7, .bipush 8, .ishr, .istore 5, .iinc 6 1, .goto (-52)]
def t_M_numeral_184 : List Instr := [.iinc 4 1, .goto (-98)]
def t_M_numeral_190 : List Instr := [.aload_n 0, .sipush 280, .sipush 210, .invokevirtual 34, .aload_n 0, .sipush 280, .invokevirtual 52, .aload_n 0, .sipush 280, .sipush 210, .invokevirtual 45, .ifCond .ne 7, .iconst 1, .goto 4]
def t_M_numeral_224 : List Instr := [.iconst 0, .nop]
def t_M_numeral_225 : List Instr := [.ireturn]
def d_M_numeral : Nat → List Instr := fun pc => match pc with
  | 0 => t_M_numeral_0
  | 8 => t_M_numeral_8
  | 9 => t_M_numeral_9
  | 19 => t_M_numeral_19
  | 21 => t_M_numeral_21
  | 56 => t_M_numeral_56
  | 77 => t_M_numeral_77
  | 79 => t_M_numeral_79
  | 89 => t_M_numeral_89
  | 114 => t_M_numeral_114
  | 129 => t_M_numeral_129
  | 184 => t_M_numeral_184
  | 190 => t_M_numeral_190
  | 224 => t_M_numeral_224
  | 225 => t_M_numeral_225
  | _ => []
theorem d_M_numeral_0 : d_M_numeral 0 = t_M_numeral_0 := rfl
theorem d_M_numeral_8 : d_M_numeral 8 = t_M_numeral_8 := rfl
theorem d_M_numeral_9 : d_M_numeral 9 = t_M_numeral_9 := rfl
theorem d_M_numeral_19 : d_M_numeral 19 = t_M_numeral_19 := rfl
theorem d_M_numeral_21 : d_M_numeral 21 = t_M_numeral_21 := rfl
theorem d_M_numeral_56 : d_M_numeral 56 = t_M_numeral_56 := rfl
theorem d_M_numeral_77 : d_M_numeral 77 = t_M_numeral_77 := rfl
theorem d_M_numeral_79 : d_M_numeral 79 = t_M_numeral_79 := rfl
theorem d_M_numeral_89 : d_M_numeral 89 = t_M_numeral_89 := rfl
theorem d_M_numeral_114 : d_M_numeral 114 = t_M_numeral_114 := rfl
theorem d_M_numeral_129 : d_M_numeral 129 = t_M_numeral_129 := rfl
theorem d_M_numeral_184 : d_M_numeral 184 = t_M_numeral_184 := rfl
theorem d_M_numeral_190 : d_M_numeral 190 = t_M_numeral_190 := rfl
theorem d_M_numeral_224 : d_M_numeral 224 = t_M_numeral_224 := rfl
theorem d_M_numeral_225 : d_M_numeral 225 = t_M_numeral_225 := rfl
set_option maxRecDepth 100000 in
theorem k_M_numeral : ∀ pc, zok c_M_numeral 8 pc (d_M_numeral pc) = true := by
  intro pc
  unfold d_M_numeral
  split
  · decide +kernel
  · decide +kernel
  · decide +kernel
  · decide +kernel
  · decide +kernel
  · decide +kernel
  · decide +kernel
  · decide +kernel
  · decide +kernel
  · decide +kernel
  · decide +kernel
  · decide +kernel
  · decide +kernel
  · decide +kernel
  · decide +kernel
  · rfl
def t_M_digit_0 : List Instr := [.iload_n 0, .bipush 48, .if_icmp .lt 16, .iload_n 0, .bipush 57, .if_icmp .gt 10, .iload_n 0, .bipush 48, .isub, .goto 27]
def t_M_digit_19 : List Instr := [.iload_n 0, .bipush 97, .if_icmp .lt 19, .iload_n 0, .bipush 102, .if_icmp .gt 13, .iload_n 0, .bipush 97, .isub, .bipush 10, .iadd, .goto 5]
def t_M_digit_41 : List Instr := [.bipush 99, .nop]
def t_M_digit_43 : List Instr := [.ireturn]
def d_M_digit : Nat → List Instr := fun pc => match pc with
  | 0 => t_M_digit_0
  | 19 => t_M_digit_19
  | 41 => t_M_digit_41
  | 43 => t_M_digit_43
  | _ => []
theorem d_M_digit_0 : d_M_digit 0 = t_M_digit_0 := rfl
theorem d_M_digit_19 : d_M_digit 19 = t_M_digit_19 := rfl
theorem d_M_digit_41 : d_M_digit 41 = t_M_digit_41 := rfl
theorem d_M_digit_43 : d_M_digit 43 = t_M_digit_43 := rfl
set_option maxRecDepth 100000 in
theorem k_M_digit : ∀ pc, zok c_M_digit 1 pc (d_M_digit pc) = true := by
  intro pc
  unfold d_M_digit
  split
  · decide +kernel
  · decide +kernel
  · decide +kernel
  · decide +kernel
  · rfl
def t_M_take_0 : List Instr := [.iload_n 1, .ifCond .ne 9, .aload_n 0, .iconst 1, .invokevirtual 58, .ireturn]
def t_M_take_10 : List Instr := [.aload_n 0, .getfield 27, .bipush 12, .if_icmp .ne 9, .aload_n 0, .iconst 2, .invokevirtual 58, .ireturn]
def t_M_take_25 : List Instr := [.aload_n 0, .sipush 210, .aload_n 0, .getfield 27, .iconst 1, .iadd, .invokevirtual 63, .aload_n 0, .iconst 0, .putfield 148, .aload_n 0, .getfield 27, .ireturn]
def d_M_take : Nat → List Instr := fun pc => match pc with
  | 0 => t_M_take_0
  | 10 => t_M_take_10
  | 25 => t_M_take_25
  | _ => []
theorem d_M_take_0 : d_M_take 0 = t_M_take_0 := rfl
theorem d_M_take_10 : d_M_take 10 = t_M_take_10 := rfl
theorem d_M_take_25 : d_M_take 25 = t_M_take_25 := rfl
set_option maxRecDepth 100000 in
theorem k_M_take : ∀ pc, zok c_M_take 2 pc (d_M_take pc) = true := by
  intro pc
  unfold d_M_take
  split
  · decide +kernel
  · decide +kernel
  · decide +kernel
  · rfl
def t_M_encode_0 : List Instr := [.aload_n 0, .iconst 0, .putfield 19, .aload_n 0, .iload_n 1, .invokevirtual 66, .ifCond .ne 9, .aload_n 0, .iconst 1, .invokevirtual 58, .ireturn]
def t_M_encode_19 : List Instr := [.aload_n 0, .iconst 0, .iload_n 1, .invokevirtual 70, .aload_n 0, .iconst 0, .invokevirtual 161, .istore_n 2, .iload_n 2, .iconst 1, .if_icmp .ne 37, .aload_n 0, .getfield 16, .iconst 0, .iaload, .sipush 128, .if_icmp .ge 25, .aload_n 0, .getfield 13, .iconst 0, .aload_n 0, .getfield 16, .iconst 0, .iaload, .iastore, .aload_n 0, .iconst 1, .putfield 148, .aload_n 0, .getfield 148, .ireturn]
def t_M_encode_70 : List Instr := [.aload_n 0, .getfield 13, .iconst 0, .sipush 128, .iload_n 2, .iadd, .iastore, .iconst 0, .istore_n 3, .nop]
def t_M_encode_83 : List Instr := [.iload_n 3, .iload_n 2, .if_icmp .ge 29, .aload_n 0, .getfield 13, .iconst 1, .iload_n 3, .iadd, .aload_n 0, .getfield 16, .iconst 0, .iload_n 2, .iadd, .iconst 1, .isub, .iload_n 3, .isub, .iaload, .iastore, .iinc 3 1, .goto (-28)]
def t_M_encode_114 : List Instr := [.aload_n 0, .iconst 1, .iload_n 2, .iadd, .putfield 148, .aload_n 0, .getfield 148, .ireturn]
def d_M_encode : Nat → List Instr := fun pc => match pc with
  | 0 => t_M_encode_0
  | 19 => t_M_encode_19
  | 70 => t_M_encode_70
  | 83 => t_M_encode_83
  | 114 => t_M_encode_114
  | _ => []
theorem d_M_encode_0 : d_M_encode 0 = t_M_encode_0 := rfl
theorem d_M_encode_19 : d_M_encode 19 = t_M_encode_19 := rfl
theorem d_M_encode_70 : d_M_encode 70 = t_M_encode_70 := rfl
theorem d_M_encode_83 : d_M_encode 83 = t_M_encode_83 := rfl
theorem d_M_encode_114 : d_M_encode 114 = t_M_encode_114 := rfl
set_option maxRecDepth 100000 in
theorem k_M_encode : ∀ pc, zok c_M_encode 4 pc (d_M_encode pc) = true := by
  intro pc
  unfold d_M_encode
  split
  · decide +kernel
  · decide +kernel
  · decide +kernel
  · decide +kernel
  · decide +kernel
  · rfl
def t_M_bytes_0 : List Instr := [.bipush 32, .istore_n 2, .nop]
def t_M_bytes_3 : List Instr := [.iload_n 2, .ifCond .le 22, .aload_n 0, .getfield 16, .iload_n 1, .iload_n 2, .iadd, .iconst 1, .isub, .iaload, .ifCond .ne 9, .iinc 2 (-1), .goto (-20)]
def t_M_bytes_26 : List Instr := [.iload_n 2, .ireturn]
def d_M_bytes : Nat → List Instr := fun pc => match pc with
  | 0 => t_M_bytes_0
  | 3 => t_M_bytes_3
  | 26 => t_M_bytes_26
  | _ => []
theorem d_M_bytes_0 : d_M_bytes 0 = t_M_bytes_0 := rfl
theorem d_M_bytes_3 : d_M_bytes 3 = t_M_bytes_3 := rfl
theorem d_M_bytes_26 : d_M_bytes 26 = t_M_bytes_26 := rfl
set_option maxRecDepth 100000 in
theorem k_M_bytes : ∀ pc, zok c_M_bytes 3 pc (d_M_bytes pc) = true := by
  intro pc
  unfold d_M_bytes
  split
  · decide +kernel
  · decide +kernel
  · decide +kernel
  · rfl
def t_M_decode_0 : List Instr := [.aload_n 0, .iconst 0, .putfield 19, .aload_n 0, .invokevirtual 164, .istore_n 1, .aload_n 0, .iload_n 1, .invokevirtual 157, .ireturn]
def d_M_decode : Nat → List Instr := fun pc => match pc with
  | 0 => t_M_decode_0
  | _ => []
theorem d_M_decode_0 : d_M_decode 0 = t_M_decode_0 := rfl
set_option maxRecDepth 100000 in
theorem k_M_decode : ∀ pc, zok c_M_decode 2 pc (d_M_decode pc) = true := by
  intro pc
  unfold d_M_decode
  split
  · decide +kernel
  · rfl
def t_M_coded_0 : List Instr := [.aload_n 0, .sipush 210, .invokevirtual 23, .aload_n 0, .getfield 148, .iconst 1, .if_icmp .ne 40, .aload_n 0, .getfield 13, .iconst 0, .iaload, .ifCond .le 31, .aload_n 0, .getfield 13, .iconst 0, .iaload, .sipush 128, .if_icmp .ge 19, .aload_n 0, .getfield 16, .sipush 210, .aload_n 0, .getfield 13, .iconst 0, .iaload, .iastore, .iconst 1, .ireturn]
def t_M_coded_52 : List Instr := [.aload_n 0, .getfield 148, .iconst 1, .isub, .istore_n 1, .iload_n 1, .ifCond .lt 23, .iload_n 1, .bipush 32, .if_icmp .gt 17, .aload_n 0, .getfield 13, .iconst 0, .iaload, .sipush 128, .iload_n 1, .iadd, .if_icmp .eq 5, .iconst 0, .ireturn]
def t_M_coded_83 : List Instr := [.iconst 0, .ireturn]
def t_M_coded_85 : List Instr := [.iconst 0, .istore_n 2, .nop]
def t_M_coded_87 : List Instr := [.iload_n 2, .iload_n 1, .if_icmp .ge 27, .aload_n 0, .getfield 16, .sipush 210, .iload_n 2, .iadd, .aload_n 0, .getfield 13, .iload_n 1, .iload_n 2, .isub, .iaload, .iastore, .iinc 2 1, .goto (-26)]
def t_M_coded_116 : List Instr := [.aload_n 0, .sipush 210, .invokevirtual 161, .iload_n 1, .if_icmp .ne 25, .iload_n 1, .iconst 1, .if_icmp .ne 16, .aload_n 0, .getfield 16, .sipush 210, .iaload, .bipush 127, .if_icmp .le 7, .iconst 1, .goto 4]
def t_M_coded_145 : List Instr := [.iconst 1, .goto 4]
def t_M_coded_149 : List Instr := [.iconst 0, .nop]
def t_M_coded_150 : List Instr := [.ireturn]
def d_M_coded : Nat → List Instr := fun pc => match pc with
  | 0 => t_M_coded_0
  | 52 => t_M_coded_52
  | 83 => t_M_coded_83
  | 85 => t_M_coded_85
  | 87 => t_M_coded_87
  | 116 => t_M_coded_116
  | 145 => t_M_coded_145
  | 149 => t_M_coded_149
  | 150 => t_M_coded_150
  | _ => []
theorem d_M_coded_0 : d_M_coded 0 = t_M_coded_0 := rfl
theorem d_M_coded_52 : d_M_coded 52 = t_M_coded_52 := rfl
theorem d_M_coded_83 : d_M_coded 83 = t_M_coded_83 := rfl
theorem d_M_coded_85 : d_M_coded 85 = t_M_coded_85 := rfl
theorem d_M_coded_87 : d_M_coded 87 = t_M_coded_87 := rfl
theorem d_M_coded_116 : d_M_coded 116 = t_M_coded_116 := rfl
theorem d_M_coded_145 : d_M_coded 145 = t_M_coded_145 := rfl
theorem d_M_coded_149 : d_M_coded 149 = t_M_coded_149 := rfl
theorem d_M_coded_150 : d_M_coded 150 = t_M_coded_150 := rfl
set_option maxRecDepth 100000 in
theorem k_M_coded : ∀ pc, zok c_M_coded 3 pc (d_M_coded pc) = true := by
  intro pc
  unfold d_M_coded
  split
  · decide +kernel
  · decide +kernel
  · decide +kernel
  · decide +kernel
  · decide +kernel
  · decide +kernel
  · decide +kernel
  · decide +kernel
  · decide +kernel
  · rfl
