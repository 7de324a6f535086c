def t_S_depth_0 : List Instr := [.aload_n 0, .getfield 16, .ireturn]
def d_S_depth : Nat → List Instr := fun pc => match pc with
  | 0 => t_S_depth_0
  | _ => []
theorem d_S_depth_0 : d_S_depth 0 = t_S_depth_0 := rfl
set_option maxRecDepth 100000 in
theorem k_S_depth : ∀ pc, zok c_S_depth 1 pc (d_S_depth pc) = true := by
  intro pc
  unfold d_S_depth
  split
  · decide +kernel
  · rfl
def t_S_width_0 : List Instr := [.aload_n 0, .iload_n 1, .invokevirtual 84, .ifCond .eq 14, .aload_n 0, .iload_n 1, .invokevirtual 58, .invokestatic 88, .goto 4]
def t_S_width_19 : List Instr := [.iconst (-1), .nop]
def t_S_width_20 : List Instr := [.ireturn]
def d_S_width : Nat → List Instr := fun pc => match pc with
  | 0 => t_S_width_0
  | 19 => t_S_width_19
  | 20 => t_S_width_20
  | _ => []
theorem d_S_width_0 : d_S_width 0 = t_S_width_0 := rfl
theorem d_S_width_19 : d_S_width 19 = t_S_width_19 := rfl
theorem d_S_width_20 : d_S_width 20 = t_S_width_20 := rfl
set_option maxRecDepth 100000 in
theorem k_S_width : ∀ pc, zok c_S_width 2 pc (d_S_width pc) = true := by
  intro pc
  unfold d_S_width
  split
  · decide +kernel
  · decide +kernel
  · decide +kernel
  · rfl
def t_S_hasWord_0 : List Instr := [.iload_n 1, .ifCond .lt 15, .iload_n 1, .aload_n 0, .getfield 16, .if_icmp .ge 7, .iconst 1, .goto 4]
def t_S_hasWord_16 : List Instr := [.iconst 0, .nop]
def t_S_hasWord_17 : List Instr := [.ireturn]
def d_S_hasWord : Nat → List Instr := fun pc => match pc with
  | 0 => t_S_hasWord_0
  | 16 => t_S_hasWord_16
  | 17 => t_S_hasWord_17
  | _ => []
theorem d_S_hasWord_0 : d_S_hasWord 0 = t_S_hasWord_0 := rfl
theorem d_S_hasWord_16 : d_S_hasWord 16 = t_S_hasWord_16 := rfl
theorem d_S_hasWord_17 : d_S_hasWord 17 = t_S_hasWord_17 := rfl
set_option maxRecDepth 100000 in
theorem k_S_hasWord : ∀ pc, zok c_S_hasWord 2 pc (d_S_hasWord pc) = true := by
  intro pc
  unfold d_S_hasWord
  split
  · decide +kernel
  · decide +kernel
  · decide +kernel
  · rfl
def t_S_word_0 : List Instr := [.aload_n 0, .getfield 13, .aload_n 0, .getfield 16, .iconst 1, .isub, .iload_n 1, .isub, .aaload, .areturn]
def d_S_word : Nat → List Instr := fun pc => match pc with
  | 0 => t_S_word_0
  | _ => []
theorem d_S_word_0 : d_S_word 0 = t_S_word_0 := rfl
set_option maxRecDepth 100000 in
theorem k_S_word : ∀ pc, zok c_S_word 2 pc (d_S_word pc) = true := by
  intro pc
  unfold d_S_word
  split
  · decide +kernel
  · rfl
def t_S_fits_0 : List Instr := [.iload_n 1, .invokestatic 144, .ifCond .eq 48, .aload_n 0, .getfield 16, .iconst 2, .if_icmp .lt 40, .aload_n 0, .getfield 30, .iload_n 1, .iload_n 2, .aload_n 0, .iconst 0, .invokevirtual 58, .aload_n 0, .iconst 1, .invokevirtual 58, .invokevirtual 121, .ifCond .eq 18, .aload_n 0, .getfield 30, .iload_n 2, .invokevirtual 125, .ifCond .eq 7, .iconst 1, .goto 4]
def t_S_fits_52 : List Instr := [.iconst 0, .nop]
def t_S_fits_53 : List Instr := [.ireturn]
def d_S_fits : Nat → List Instr := fun pc => match pc with
  | 0 => t_S_fits_0
  | 52 => t_S_fits_52
  | 53 => t_S_fits_53
  | _ => []
theorem d_S_fits_0 : d_S_fits 0 = t_S_fits_0 := rfl
theorem d_S_fits_52 : d_S_fits 52 = t_S_fits_52 := rfl
theorem d_S_fits_53 : d_S_fits 53 = t_S_fits_53 := rfl
set_option maxRecDepth 100000 in
theorem k_S_fits : ∀ pc, zok c_S_fits 3 pc (d_S_fits pc) = true := by
  intro pc
  unfold d_S_fits
  split
  · decide +kernel
  · decide +kernel
  · decide +kernel
  · rfl
def t_S_key_0 : List Instr := [.aload_n 0, .getfield 23, .iload_n 1, .invokevirtual 145, .ireturn]
def d_S_key : Nat → List Instr := fun pc => match pc with
  | 0 => t_S_key_0
  | _ => []
theorem d_S_key_0 : d_S_key 0 = t_S_key_0 := rfl
set_option maxRecDepth 100000 in
theorem k_S_key : ∀ pc, zok c_S_key 2 pc (d_S_key pc) = true := by
  intro pc
  unfold d_S_key
  split
  · decide +kernel
  · rfl
def t_S_clear_0 : List Instr := [.aload_n 0, .getfield 23, .invokevirtual 149, .istore_n 1, .aload_n 0, .getfield 23, .invokevirtual 153, .iload_n 1, .ireturn]
def d_S_clear : Nat → List Instr := fun pc => match pc with
  | 0 => t_S_clear_0
  | _ => []
theorem d_S_clear_0 : d_S_clear 0 = t_S_clear_0 := rfl
set_option maxRecDepth 100000 in
theorem k_S_clear : ∀ pc, zok c_S_clear 2 pc (d_S_clear pc) = true := by
  intro pc
  unfold d_S_clear
  split
  · decide +kernel
  · rfl
def t_S_letter_0 : List Instr := [.aload_n 0, .getfield 23, .iload_n 1, .invokevirtual 156, .ireturn]
def d_S_letter : Nat → List Instr := fun pc => match pc with
  | 0 => t_S_letter_0
  | _ => []
theorem d_S_letter_0 : d_S_letter 0 = t_S_letter_0 := rfl
set_option maxRecDepth 100000 in
theorem k_S_letter : ∀ pc, zok c_S_letter 2 pc (d_S_letter pc) = true := by
  intro pc
  unfold d_S_letter
  split
  · decide +kernel
  · rfl
def t_S_push_0 : List Instr := [.aload_n 0, .invokevirtual 47, .aload_n 0, .getfield 13, .aload_n 0, .getfield 16, .aaload, .astore 9, .aload 9, .iconst 0, .lload_n 1, .invokestatic 50, .aload 9, .iconst 1, .lload_n 3, .invokestatic 50, .aload 9, .iconst 2, .lload 5, .invokestatic 50, .aload 9, .iconst 3, .lload 7, .invokestatic 50, .aload_n 0, .dup, .getfield 16, .iconst 1, .iadd, .putfield 16, .aload_n 0, .getfield 16, .ireturn]
def d_S_push : Nat → List Instr := fun pc => match pc with
  | 0 => t_S_push_0
  | _ => []
theorem d_S_push_0 : d_S_push 0 = t_S_push_0 := rfl
set_option maxRecDepth 100000 in
theorem k_S_push : ∀ pc, zok c_S_push 10 pc (d_S_push pc) = true := by
  intro pc
  unfold d_S_push
  split
  · decide +kernel
  · rfl
def t_S_refuseWhenFull_0 : List Instr := [.aload_n 0, .getfield 16, .bipush 12, .if_icmp .lt 13, .new 195, .dup, .ldc 197, .invokespecial 199, .athrow]
def t_S_refuseWhenFull_19 : List Instr := [.return_]
def d_S_refuseWhenFull : Nat → List Instr := fun pc => match pc with
  | 0 => t_S_refuseWhenFull_0
  | 19 => t_S_refuseWhenFull_19
  | _ => []
theorem d_S_refuseWhenFull_0 : d_S_refuseWhenFull 0 = t_S_refuseWhenFull_0 := rfl
theorem d_S_refuseWhenFull_19 : d_S_refuseWhenFull 19 = t_S_refuseWhenFull_19 := rfl
set_option maxRecDepth 100000 in
theorem k_S_refuseWhenFull : ∀ pc, zok c_S_refuseWhenFull 1 pc (d_S_refuseWhenFull pc) = true := by
  intro pc
  unfold d_S_refuseWhenFull
  split
  · decide +kernel
  · decide +kernel
  · rfl
def t_S_copy_0 : List Instr := [.aload_n 0, .iload_n 1, .invokevirtual 54, .aload_n 0, .invokevirtual 47, .aload_n 0, .aload_n 0, .iload_n 1, .invokevirtual 58, .invokevirtual 62, .ireturn]
def d_S_copy : Nat → List Instr := fun pc => match pc with
  | 0 => t_S_copy_0
  | _ => []
theorem d_S_copy_0 : d_S_copy 0 = t_S_copy_0 := rfl
set_option maxRecDepth 100000 in
theorem k_S_copy : ∀ pc, zok c_S_copy 2 pc (d_S_copy pc) = true := by
  intro pc
  unfold d_S_copy
  split
  · decide +kernel
  · rfl
def t_S_refuseNoWord_0 : List Instr := [.aload_n 0, .iload_n 1, .invokevirtual 84, .ifCond .ne 13, .new 73, .dup, .ldc 193, .invokespecial 77, .athrow]
def t_S_refuseNoWord_18 : List Instr := [.return_]
def d_S_refuseNoWord : Nat → List Instr := fun pc => match pc with
  | 0 => t_S_refuseNoWord_0
  | 18 => t_S_refuseNoWord_18
  | _ => []
theorem d_S_refuseNoWord_0 : d_S_refuseNoWord 0 = t_S_refuseNoWord_0 := rfl
theorem d_S_refuseNoWord_18 : d_S_refuseNoWord 18 = t_S_refuseNoWord_18 := rfl
set_option maxRecDepth 100000 in
theorem k_S_refuseNoWord : ∀ pc, zok c_S_refuseNoWord 2 pc (d_S_refuseNoWord pc) = true := by
  intro pc
  unfold d_S_refuseNoWord
  split
  · decide +kernel
  · decide +kernel
  · rfl
def t_S_putOnTop_0 : List Instr := [.aload_n 0, .getfield 13, .aload_n 0, .getfield 16, .aaload, .aload_n 1, .invokestatic 165, .aload_n 0, .dup, .getfield 16, .iconst 1, .iadd, .putfield 16, .aload_n 0, .getfield 16, .ireturn]
def d_S_putOnTop : Nat → List Instr := fun pc => match pc with
  | 0 => t_S_putOnTop_0
  | _ => []
theorem d_S_putOnTop_0 : d_S_putOnTop 0 = t_S_putOnTop_0 := rfl
set_option maxRecDepth 100000 in
theorem k_S_putOnTop : ∀ pc, zok c_S_putOnTop 2 pc (d_S_putOnTop pc) = true := by
  intro pc
  unfold d_S_putOnTop
  split
  · decide +kernel
  · rfl
def t_S_swap_0 : List Instr := [.aload_n 0, .iload_n 1, .invokevirtual 54, .aload_n 0, .iconst 0, .invokevirtual 58, .aload_n 0, .iload_n 1, .invokevirtual 58, .invokestatic 66, .iload_n 1, .ireturn]
def d_S_swap : Nat → List Instr := fun pc => match pc with
  | 0 => t_S_swap_0
  | _ => []
theorem d_S_swap_0 : d_S_swap 0 = t_S_swap_0 := rfl
set_option maxRecDepth 100000 in
theorem k_S_swap : ∀ pc, zok c_S_swap 2 pc (d_S_swap pc) = true := by
  intro pc
  unfold d_S_swap
  split
  · decide +kernel
  · rfl
def t_S_drop_0 : List Instr := [.aload_n 0, .iconst 1, .invokevirtual 70, .aload_n 0, .dup, .getfield 16, .iconst 1, .isub, .putfield 16, .aload_n 0, .getfield 16, .ireturn]
def d_S_drop : Nat → List Instr := fun pc => match pc with
  | 0 => t_S_drop_0
  | _ => []
theorem d_S_drop_0 : d_S_drop 0 = t_S_drop_0 := rfl
set_option maxRecDepth 100000 in
theorem k_S_drop : ∀ pc, zok c_S_drop 1 pc (d_S_drop pc) = true := by
  intro pc
  unfold d_S_drop
  split
  · decide +kernel
  · rfl
def t_S_refuseFewerThan_0 : List Instr := [.aload_n 0, .getfield 16, .iload_n 1, .if_icmp .ge 13, .new 195, .dup, .ldc 200, .invokespecial 199, .athrow]
def t_S_refuseFewerThan_18 : List Instr := [.return_]
def d_S_refuseFewerThan : Nat → List Instr := fun pc => match pc with
  | 0 => t_S_refuseFewerThan_0
  | 18 => t_S_refuseFewerThan_18
  | _ => []
theorem d_S_refuseFewerThan_0 : d_S_refuseFewerThan 0 = t_S_refuseFewerThan_0 := rfl
theorem d_S_refuseFewerThan_18 : d_S_refuseFewerThan 18 = t_S_refuseFewerThan_18 := rfl
set_option maxRecDepth 100000 in
theorem k_S_refuseFewerThan : ∀ pc, zok c_S_refuseFewerThan 2 pc (d_S_refuseFewerThan pc) = true := by
  intro pc
  unfold d_S_refuseFewerThan
  split
  · decide +kernel
  · decide +kernel
  · rfl
def t_S_limb_0 : List Instr := [.aload_n 0, .iload_n 1, .invokevirtual 54, .iload_n 2, .ifCond .lt 8, .iload_n 2, .iconst 4, .if_icmp .lt 13, .new 73, .dup, .ldc 75, .invokespecial 77, .athrow]
def t_S_limb_14 : List Instr := [.new 73, .dup, .ldc 75, .invokespecial 77, .athrow]
def t_S_limb_24 : List Instr := [.aload_n 0, .iload_n 1, .invokevirtual 58, .iload_n 2, .invokestatic 80, .lreturn]
def d_S_limb : Nat → List Instr := fun pc => match pc with
  | 0 => t_S_limb_0
  | 14 => t_S_limb_14
  | 24 => t_S_limb_24
  | _ => []
theorem d_S_limb_0 : d_S_limb 0 = t_S_limb_0 := rfl
theorem d_S_limb_14 : d_S_limb 14 = t_S_limb_14 := rfl
theorem d_S_limb_24 : d_S_limb 24 = t_S_limb_24 := rfl
set_option maxRecDepth 100000 in
theorem k_S_limb : ∀ pc, zok c_S_limb 3 pc (d_S_limb pc) = true := by
  intro pc
  unfold d_S_limb
  split
  · decide +kernel
  · decide +kernel
  · decide +kernel
  · rfl
def t_S_wrapping_0 : List Instr := [.iload_n 1, .invokestatic 91, .ifCond .ne 13, .new 94, .dup, .ldc 96, .invokespecial 98, .athrow]
def t_S_wrapping_17 : List Instr := [.iload_n 1, .invokestatic 99, .istore_n 2, .aload_n 0, .iload_n 2, .invokevirtual 70, .iload_n 2, .iconst 1, .if_icmp .ne 23, .aload_n 0, .getfield 39, .iload_n 1, .aload_n 0, .iconst 0, .invokevirtual 58, .aload_n 0, .getfield 43, .invokevirtual 103, .goto 60]
def t_S_wrapping_52 : List Instr := [.iload_n 2, .iconst 2, .if_icmp .ne 28, .aload_n 0, .getfield 39, .iload_n 1, .aload_n 0, .iconst 0, .invokevirtual 58, .aload_n 0, .iconst 1, .invokevirtual 58, .aload_n 0, .getfield 43, .invokevirtual 107, .goto 30]
def t_S_wrapping_82 : List Instr := [.aload_n 0, .getfield 39, .iload_n 1, .aload_n 0, .iconst 0, .invokevirtual 58, .aload_n 0, .iconst 1, .invokevirtual 58, .aload_n 0, .iconst 2, .invokevirtual 58, .aload_n 0, .getfield 43, .invokevirtual 111, .nop]
def t_S_wrapping_109 : List Instr := [.aload_n 0, .iload_n 2, .invokevirtual 115, .ireturn]
def d_S_wrapping : Nat → List Instr := fun pc => match pc with
  | 0 => t_S_wrapping_0
  | 17 => t_S_wrapping_17
  | 52 => t_S_wrapping_52
  | 82 => t_S_wrapping_82
  | 109 => t_S_wrapping_109
  | _ => []
theorem d_S_wrapping_0 : d_S_wrapping 0 = t_S_wrapping_0 := rfl
theorem d_S_wrapping_17 : d_S_wrapping 17 = t_S_wrapping_17 := rfl
theorem d_S_wrapping_52 : d_S_wrapping 52 = t_S_wrapping_52 := rfl
theorem d_S_wrapping_82 : d_S_wrapping 82 = t_S_wrapping_82 := rfl
theorem d_S_wrapping_109 : d_S_wrapping 109 = t_S_wrapping_109 := rfl
set_option maxRecDepth 100000 in
theorem k_S_wrapping : ∀ pc, zok c_S_wrapping 3 pc (d_S_wrapping pc) = true := by
  intro pc
  unfold d_S_wrapping
  split
  · decide +kernel
  · decide +kernel
  · decide +kernel
  · decide +kernel
  · decide +kernel
  · rfl
def t_S_replaceByResult_0 : List Instr := [.aload_n 0, .dup, .getfield 16, .iload_n 1, .isub, .putfield 16, .aload_n 0, .aload_n 0, .getfield 43, .invokevirtual 62, .ireturn]
def d_S_replaceByResult : Nat → List Instr := fun pc => match pc with
  | 0 => t_S_replaceByResult_0
  | _ => []
theorem d_S_replaceByResult_0 : d_S_replaceByResult 0 = t_S_replaceByResult_0 := rfl
set_option maxRecDepth 100000 in
theorem k_S_replaceByResult : ∀ pc, zok c_S_replaceByResult 2 pc (d_S_replaceByResult pc) = true := by
  intro pc
  unfold d_S_replaceByResult
  split
  · decide +kernel
  · rfl
def t_S_checked_0 : List Instr := [.aload_n 0, .iload_n 1, .invokevirtual 118, .aload_n 0, .iconst 2, .invokevirtual 70, .aload_n 0, .getfield 30, .iload_n 1, .iload_n 2, .aload_n 0, .iconst 0, .invokevirtual 58, .aload_n 0, .iconst 1, .invokevirtual 58, .invokevirtual 121, .ifCond .eq 14, .aload_n 0, .getfield 30, .iload_n 2, .invokevirtual 125, .ifCond .ne 13, .new 129, .dup, .ldc 131, .invokespecial 133, .athrow]
def t_S_checked_43 : List Instr := [.new 129, .dup, .ldc 131, .invokespecial 133, .athrow]
def t_S_checked_53 : List Instr := [.aload_n 0, .getfield 30, .aload_n 0, .getfield 43, .invokevirtual 134, .aload_n 0, .iconst 2, .invokevirtual 115, .ireturn]
def d_S_checked : Nat → List Instr := fun pc => match pc with
  | 0 => t_S_checked_0
  | 43 => t_S_checked_43
  | 53 => t_S_checked_53
  | _ => []
theorem d_S_checked_0 : d_S_checked 0 = t_S_checked_0 := rfl
theorem d_S_checked_43 : d_S_checked 43 = t_S_checked_43 := rfl
theorem d_S_checked_53 : d_S_checked 53 = t_S_checked_53 := rfl
set_option maxRecDepth 100000 in
theorem k_S_checked : ∀ pc, zok c_S_checked 3 pc (d_S_checked pc) = true := by
  intro pc
  unfold d_S_checked
  split
  · decide +kernel
  · decide +kernel
  · decide +kernel
  · rfl
def t_S_refuseUnlessExact_0 : List Instr := [.iload_n 1, .invokestatic 144, .ifCond .ne 13, .new 94, .dup, .ldc 202, .invokespecial 98, .athrow]
def t_S_refuseUnlessExact_17 : List Instr := [.return_]
def d_S_refuseUnlessExact : Nat → List Instr := fun pc => match pc with
  | 0 => t_S_refuseUnlessExact_0
  | 17 => t_S_refuseUnlessExact_17
  | _ => []
theorem d_S_refuseUnlessExact_0 : d_S_refuseUnlessExact 0 = t_S_refuseUnlessExact_0 := rfl
theorem d_S_refuseUnlessExact_17 : d_S_refuseUnlessExact 17 = t_S_refuseUnlessExact_17 := rfl
set_option maxRecDepth 100000 in
theorem k_S_refuseUnlessExact : ∀ pc, zok c_S_refuseUnlessExact 2 pc (d_S_refuseUnlessExact pc) = true := by
  intro pc
  unfold d_S_refuseUnlessExact
  split
  · decide +kernel
  · decide +kernel
  · rfl
def t_S_nearest_0 : List Instr := [.aload_n 0, .iload_n 1, .invokevirtual 118, .aload_n 0, .iconst 2, .invokevirtual 70, .aload_n 0, .getfield 30, .iload_n 1, .iload_n 2, .aload_n 0, .iconst 0, .invokevirtual 58, .aload_n 0, .iconst 1, .invokevirtual 58, .invokevirtual 121, .ifCond .ne 13, .new 129, .dup, .ldc 138, .invokespecial 133, .athrow]
def t_S_nearest_42 : List Instr := [.aload_n 0, .getfield 30, .iload_n 2, .aload_n 0, .getfield 43, .invokevirtual 140, .aload_n 0, .iconst 2, .invokevirtual 115, .ireturn]
def d_S_nearest : Nat → List Instr := fun pc => match pc with
  | 0 => t_S_nearest_0
  | 42 => t_S_nearest_42
  | _ => []
theorem d_S_nearest_0 : d_S_nearest 0 = t_S_nearest_0 := rfl
theorem d_S_nearest_42 : d_S_nearest 42 = t_S_nearest_42 := rfl
set_option maxRecDepth 100000 in
theorem k_S_nearest : ∀ pc, zok c_S_nearest 3 pc (d_S_nearest pc) = true := by
  intro pc
  unfold d_S_nearest
  split
  · decide +kernel
  · decide +kernel
  · rfl
def t_S_print_0 : List Instr := [.aload_n 0, .iload_n 1, .invokevirtual 54, .aload_n 0, .getfield 23, .invokevirtual 153, .iload_n 2, .ifCond .eq 18, .aload_n 0, .iload_n 1, .invokevirtual 58, .aload_n 0, .getfield 23, .invokestatic 159, .goto 26]
def t_S_print_31 : List Instr := [.aload_n 0, .getfield 43, .aload_n 0, .iload_n 1, .invokevirtual 58, .invokestatic 165, .aload_n 0, .getfield 43, .aload_n 0, .getfield 23, .invokestatic 168, .nop]
def t_S_print_54 : List Instr := [.aload_n 0, .getfield 23, .invokevirtual 149, .ireturn]
def d_S_print : Nat → List Instr := fun pc => match pc with
  | 0 => t_S_print_0
  | 31 => t_S_print_31
  | 54 => t_S_print_54
  | _ => []
theorem d_S_print_0 : d_S_print 0 = t_S_print_0 := rfl
theorem d_S_print_31 : d_S_print 31 = t_S_print_31 := rfl
theorem d_S_print_54 : d_S_print 54 = t_S_print_54 := rfl
set_option maxRecDepth 100000 in
theorem k_S_print : ∀ pc, zok c_S_print 3 pc (d_S_print pc) = true := by
  intro pc
  unfold d_S_print
  split
  · decide +kernel
  · decide +kernel
  · decide +kernel
  · rfl
def t_S_parse_0 : List Instr := [.iload_n 1, .ifCond .eq 17, .aload_n 0, .getfield 23, .aload_n 0, .getfield 43, .invokestatic 171, .goto 14]
def t_S_parse_18 : List Instr := [.aload_n 0, .getfield 23, .aload_n 0, .getfield 43, .invokestatic 175, .nop]
def t_S_parse_29 : List Instr := [.istore_n 2, .iload_n 2, .ifCond .ne 13, .new 94, .dup, .ldc 178, .invokespecial 98, .athrow]
def t_S_parse_44 : List Instr := [.aload_n 0, .invokevirtual 180, .ireturn]
def d_S_parse : Nat → List Instr := fun pc => match pc with
  | 0 => t_S_parse_0
  | 18 => t_S_parse_18
  | 29 => t_S_parse_29
  | 44 => t_S_parse_44
  | _ => []
theorem d_S_parse_0 : d_S_parse 0 = t_S_parse_0 := rfl
theorem d_S_parse_18 : d_S_parse 18 = t_S_parse_18 := rfl
theorem d_S_parse_29 : d_S_parse 29 = t_S_parse_29 := rfl
theorem d_S_parse_44 : d_S_parse 44 = t_S_parse_44 := rfl
set_option maxRecDepth 100000 in
theorem k_S_parse : ∀ pc, zok c_S_parse 3 pc (d_S_parse pc) = true := by
  intro pc
  unfold d_S_parse
  split
  · decide +kernel
  · decide +kernel
  · decide +kernel
  · decide +kernel
  · rfl
def t_S_moveFromText_0 : List Instr := [.aload_n 0, .invokevirtual 47, .aload_n 0, .getfield 23, .invokevirtual 153, .aload_n 0, .aload_n 0, .getfield 43, .invokevirtual 62, .ireturn]
def d_S_moveFromText : Nat → List Instr := fun pc => match pc with
  | 0 => t_S_moveFromText_0
  | _ => []
theorem d_S_moveFromText_0 : d_S_moveFromText 0 = t_S_moveFromText_0 := rfl
set_option maxRecDepth 100000 in
theorem k_S_moveFromText : ∀ pc, zok c_S_moveFromText 1 pc (d_S_moveFromText pc) = true := by
  intro pc
  unfold d_S_moveFromText
  split
  · decide +kernel
  · rfl
def t_S_encode_0 : List Instr := [.aload_n 0, .iload_n 1, .invokevirtual 54, .aload_n 0, .getfield 23, .invokevirtual 153, .aload_n 0, .iload_n 1, .invokevirtual 58, .aload_n 0, .getfield 23, .invokestatic 183, .aload_n 0, .getfield 23, .invokevirtual 149, .ireturn]
def d_S_encode : Nat → List Instr := fun pc => match pc with
  | 0 => t_S_encode_0
  | _ => []
theorem d_S_encode_0 : d_S_encode 0 = t_S_encode_0 := rfl
set_option maxRecDepth 100000 in
theorem k_S_encode : ∀ pc, zok c_S_encode 2 pc (d_S_encode pc) = true := by
  intro pc
  unfold d_S_encode
  split
  · decide +kernel
  · rfl
def t_S_decode_0 : List Instr := [.aload_n 0, .getfield 23, .aload_n 0, .getfield 43, .invokestatic 188, .ifCond .ne 13, .new 94, .dup, .ldc 191, .invokespecial 98, .athrow]
def t_S_decode_24 : List Instr := [.aload_n 0, .invokevirtual 180, .ireturn]
def d_S_decode : Nat → List Instr := fun pc => match pc with
  | 0 => t_S_decode_0
  | 24 => t_S_decode_24
  | _ => []
theorem d_S_decode_0 : d_S_decode 0 = t_S_decode_0 := rfl
theorem d_S_decode_24 : d_S_decode 24 = t_S_decode_24 := rfl
set_option maxRecDepth 100000 in
theorem k_S_decode : ∀ pc, zok c_S_decode 1 pc (d_S_decode pc) = true := by
  intro pc
  unfold d_S_decode
  split
  · decide +kernel
  · decide +kernel
  · rfl
