/-! The law's wrappers -/
def f_L : Nat → Option (Nat × Nat) := fun j => match j with
  | _ => none
theorem fo_L : zFok "WideWordStackLaw" f_L := by
  intro j q h
  unfold f_L at h
  split at h
  · cases h
def kk_L : Nat → Option Value := fun j => match j with
  | 63 => some (.long (lN 4294967295))
  | _ => none
theorem kk_L_63 : kk_L 63 = some (.long (lN 4294967295)) := rfl
theorem ko_L : zKok "WideWordStackLaw" kk_L := by
  refine ⟨fun j x h => ?_, fun j x h => ?_⟩ <;> unfold kk_L at h <;> split at h <;> cases h <;> decide +kernel
def g_L : Nat → Option Nat := fun _ => none
theorem go_L : zGok "WideWordStackLaw" g_L := fun j a h => by cases h
set_option maxRecDepth 100000 in
theorem l_L_7 : zLV "WideWordStackLaw" 7 y_S_push c_S_push 10 (some .int) 4 := ⟨zwi 325 rfl rfl, zwi 52 rfl rfl, zwi 322 rfl rfl, ⟨zwi 323 rfl rfl, zwi 324 rfl rfl⟩, ⟨by decide +kernel, by decide +kernel, by decide +kernel⟩⟩
set_option maxRecDepth 100000 in
theorem l_L_15 : zLV "WideWordStackLaw" 15 y_S_copy c_S_copy 2 (some .int) 1 := ⟨zwi 409 rfl rfl, zwi 52 rfl rfl, zwi 406 rfl rfl, ⟨zwi 407 rfl rfl, zwi 408 rfl rfl⟩, ⟨by decide +kernel, by decide +kernel, by decide +kernel⟩⟩
set_option maxRecDepth 100000 in
theorem l_L_21 : zLV "WideWordStackLaw" 21 y_S_swap c_S_swap 2 (some .int) 1 := ⟨zwi 441 rfl rfl, zwi 52 rfl rfl, zwi 438 rfl rfl, ⟨zwi 439 rfl rfl, zwi 440 rfl rfl⟩, ⟨by decide +kernel, by decide +kernel, by decide +kernel⟩⟩
set_option maxRecDepth 100000 in
theorem l_L_24 : zLV "WideWordStackLaw" 24 y_S_drop c_S_drop 1 (some .int) 0 := ⟨zwi 451 rfl rfl, zwi 52 rfl rfl, zwi 448 rfl rfl, ⟨zwi 449 rfl rfl, zwi 450 rfl rfl⟩, ⟨by decide +kernel, by decide +kernel, by decide +kernel⟩⟩
set_option maxRecDepth 100000 in
theorem l_L_28 : zLV "WideWordStackLaw" 28 y_S_limb c_S_limb 3 (some .long) 2 := ⟨zwi 463 rfl rfl, zwi 52 rfl rfl, zwi 460 rfl rfl, ⟨zwi 461 rfl rfl, zwi 462 rfl rfl⟩, ⟨by decide +kernel, by decide +kernel, by decide +kernel⟩⟩
set_option maxRecDepth 100000 in
theorem l_L_32 : zLV "WideWordStackLaw" 32 y_S_wrapping c_S_wrapping 3 (some .int) 1 := ⟨zwi 475 rfl rfl, zwi 52 rfl rfl, zwi 472 rfl rfl, ⟨zwi 473 rfl rfl, zwi 474 rfl rfl⟩, ⟨by decide +kernel, by decide +kernel, by decide +kernel⟩⟩
set_option maxRecDepth 100000 in
theorem l_L_37 : zLV "WideWordStackLaw" 37 y_S_checked c_S_checked 3 (some .int) 2 := ⟨zwi 603 rfl rfl, zwi 52 rfl rfl, zwi 600 rfl rfl, ⟨zwi 601 rfl rfl, zwi 602 rfl rfl⟩, ⟨by decide +kernel, by decide +kernel, by decide +kernel⟩⟩
set_option maxRecDepth 100000 in
theorem l_L_43 : zLV "WideWordStackLaw" 43 y_S_nearest c_S_nearest 3 (some .int) 2 := ⟨zwi 632 rfl rfl, zwi 52 rfl rfl, zwi 629 rfl rfl, ⟨zwi 630 rfl rfl, zwi 631 rfl rfl⟩, ⟨by decide +kernel, by decide +kernel, by decide +kernel⟩⟩
set_option maxRecDepth 100000 in
theorem l_L_46 : zLV "WideWordStackLaw" 46 y_S_print c_S_print 3 (some .int) 2 := ⟨zwi 650 rfl rfl, zwi 52 rfl rfl, zwi 647 rfl rfl, ⟨zwi 648 rfl rfl, zwi 649 rfl rfl⟩, ⟨by decide +kernel, by decide +kernel, by decide +kernel⟩⟩
set_option maxRecDepth 100000 in
theorem l_L_49 : zLV "WideWordStackLaw" 49 y_S_parse c_S_parse 3 (some .int) 1 := ⟨zwi 681 rfl rfl, zwi 52 rfl rfl, zwi 678 rfl rfl, ⟨zwi 679 rfl rfl, zwi 680 rfl rfl⟩, ⟨by decide +kernel, by decide +kernel, by decide +kernel⟩⟩
set_option maxRecDepth 100000 in
theorem l_L_53 : zLV "WideWordStackLaw" 53 y_S_encode c_S_encode 2 (some .int) 1 := ⟨zwi 709 rfl rfl, zwi 52 rfl rfl, zwi 706 rfl rfl, ⟨zwi 707 rfl rfl, zwi 708 rfl rfl⟩, ⟨by decide +kernel, by decide +kernel, by decide +kernel⟩⟩
set_option maxRecDepth 100000 in
theorem l_L_56 : zLV "WideWordStackLaw" 56 y_S_decode c_S_decode 1 (some .int) 0 := ⟨zwi 723 rfl rfl, zwi 52 rfl rfl, zwi 720 rfl rfl, ⟨zwi 721 rfl rfl, zwi 722 rfl rfl⟩, ⟨by decide +kernel, by decide +kernel, by decide +kernel⟩⟩
set_option maxRecDepth 100000 in
theorem l_L_70 : zLV "WideWordStackLaw" 70 y_M_push c_M_push 10 (some .int) 4 := ⟨zwi 772 rfl rfl, zwi 57 rfl rfl, zwi 769 rfl rfl, ⟨zwi 770 rfl rfl, zwi 771 rfl rfl⟩, ⟨by decide +kernel, by decide +kernel, by decide +kernel⟩⟩
set_option maxRecDepth 100000 in
theorem l_L_71 : zLV "WideWordStackLaw" 71 y_M_thrown c_M_thrown 1 (some .int) 0 := ⟨zwi 768 rfl rfl, zwi 57 rfl rfl, zwi 765 rfl rfl, ⟨zwi 766 rfl rfl, zwi 767 rfl rfl⟩, ⟨by decide +kernel, by decide +kernel, by decide +kernel⟩⟩
set_option maxRecDepth 100000 in
theorem l_L_77 : zLV "WideWordStackLaw" 77 y_M_copy c_M_copy 2 (some .int) 1 := ⟨zwi 793 rfl rfl, zwi 57 rfl rfl, zwi 790 rfl rfl, ⟨zwi 791 rfl rfl, zwi 792 rfl rfl⟩, ⟨by decide +kernel, by decide +kernel, by decide +kernel⟩⟩
set_option maxRecDepth 100000 in
theorem l_L_80 : zLV "WideWordStackLaw" 80 y_M_swap c_M_swap 6 (some .int) 1 := ⟨zwi 805 rfl rfl, zwi 57 rfl rfl, zwi 802 rfl rfl, ⟨zwi 803 rfl rfl, zwi 804 rfl rfl⟩, ⟨by decide +kernel, by decide +kernel, by decide +kernel⟩⟩
set_option maxRecDepth 100000 in
theorem l_L_84 : zLV "WideWordStackLaw" 84 y_M_drop c_M_drop 1 (some .int) 0 := ⟨zwi 809 rfl rfl, zwi 57 rfl rfl, zwi 806 rfl rfl, ⟨zwi 807 rfl rfl, zwi 808 rfl rfl⟩, ⟨by decide +kernel, by decide +kernel, by decide +kernel⟩⟩
set_option maxRecDepth 100000 in
theorem l_L_85 : zLV "WideWordStackLaw" 85 y_S_depth c_S_depth 1 (some .int) 0 := ⟨zwi 165 rfl rfl, zwi 52 rfl rfl, zwi 162 rfl rfl, ⟨zwi 163 rfl rfl, zwi 164 rfl rfl⟩, ⟨by decide +kernel, by decide +kernel, by decide +kernel⟩⟩
set_option maxRecDepth 100000 in
theorem l_L_88 : zLV "WideWordStackLaw" 88 y_M_depth c_M_depth 1 (some .int) 0 := ⟨zwi 813 rfl rfl, zwi 57 rfl rfl, zwi 810 rfl rfl, ⟨zwi 811 rfl rfl, zwi 812 rfl rfl⟩, ⟨by decide +kernel, by decide +kernel, by decide +kernel⟩⟩
set_option maxRecDepth 100000 in
theorem l_L_92 : zLV "WideWordStackLaw" 92 y_M_limb c_M_limb 7 (some .long) 2 := ⟨zwi 817 rfl rfl, zwi 57 rfl rfl, zwi 814 rfl rfl, ⟨zwi 815 rfl rfl, zwi 816 rfl rfl⟩, ⟨by decide +kernel, by decide +kernel, by decide +kernel⟩⟩
set_option maxRecDepth 100000 in
theorem l_L_93 : zLV "WideWordStackLaw" 93 y_S_width c_S_width 2 (some .int) 1 := ⟨zwi 169 rfl rfl, zwi 52 rfl rfl, zwi 166 rfl rfl, ⟨zwi 167 rfl rfl, zwi 168 rfl rfl⟩, ⟨by decide +kernel, by decide +kernel, by decide +kernel⟩⟩
set_option maxRecDepth 100000 in
theorem l_L_96 : zLV "WideWordStackLaw" 96 y_M_width c_M_width 3 (some .int) 1 := ⟨zwi 821 rfl rfl, zwi 57 rfl rfl, zwi 818 rfl rfl, ⟨zwi 819 rfl rfl, zwi 820 rfl rfl⟩, ⟨by decide +kernel, by decide +kernel, by decide +kernel⟩⟩
set_option maxRecDepth 100000 in
theorem l_L_99 : zLV "WideWordStackLaw" 99 y_M_wrapping c_M_wrapping 3 (some .int) 1 := ⟨zwi 829 rfl rfl, zwi 57 rfl rfl, zwi 826 rfl rfl, ⟨zwi 827 rfl rfl, zwi 828 rfl rfl⟩, ⟨by decide +kernel, by decide +kernel, by decide +kernel⟩⟩
set_option maxRecDepth 100000 in
theorem l_L_103 : zLV "WideWordStackLaw" 103 y_M_checked c_M_checked 4 (some .int) 2 := ⟨zwi 920 rfl rfl, zwi 57 rfl rfl, zwi 917 rfl rfl, ⟨zwi 918 rfl rfl, zwi 919 rfl rfl⟩, ⟨by decide +kernel, by decide +kernel, by decide +kernel⟩⟩
set_option maxRecDepth 100000 in
theorem l_L_106 : zLV "WideWordStackLaw" 106 y_M_nearest c_M_nearest 4 (some .int) 2 := ⟨zwi 948 rfl rfl, zwi 57 rfl rfl, zwi 945 rfl rfl, ⟨zwi 946 rfl rfl, zwi 947 rfl rfl⟩, ⟨by decide +kernel, by decide +kernel, by decide +kernel⟩⟩
set_option maxRecDepth 100000 in
theorem l_L_107 : zLV "WideWordStackLaw" 107 y_S_fits c_S_fits 3 (some .boolean) 2 := ⟨zwi 191 rfl rfl, zwi 52 rfl rfl, zwi 188 rfl rfl, ⟨zwi 189 rfl rfl, zwi 190 rfl rfl⟩, ⟨by decide +kernel, by decide +kernel, by decide +kernel⟩⟩
set_option maxRecDepth 100000 in
theorem l_L_111 : zLV "WideWordStackLaw" 111 y_M_fits c_M_fits 3 (some .boolean) 2 := ⟨zwi 952 rfl rfl, zwi 57 rfl rfl, zwi 949 rfl rfl, ⟨zwi 950 rfl rfl, zwi 951 rfl rfl⟩, ⟨by decide +kernel, by decide +kernel, by decide +kernel⟩⟩
set_option maxRecDepth 100000 in
theorem l_L_112 : zLV "WideWordStackLaw" 112 y_S_key c_S_key 2 (some .boolean) 1 := ⟨zwi 293 rfl rfl, zwi 52 rfl rfl, zwi 290 rfl rfl, ⟨zwi 291 rfl rfl, zwi 292 rfl rfl⟩, ⟨by decide +kernel, by decide +kernel, by decide +kernel⟩⟩
set_option maxRecDepth 100000 in
theorem l_L_116 : zLV "WideWordStackLaw" 116 y_M_key c_M_key 2 (some .boolean) 1 := ⟨zwi 956 rfl rfl, zwi 57 rfl rfl, zwi 953 rfl rfl, ⟨zwi 954 rfl rfl, zwi 955 rfl rfl⟩, ⟨by decide +kernel, by decide +kernel, by decide +kernel⟩⟩
set_option maxRecDepth 100000 in
theorem l_L_117 : zLV "WideWordStackLaw" 117 y_S_clear c_S_clear 2 (some .int) 0 := ⟨zwi 301 rfl rfl, zwi 52 rfl rfl, zwi 298 rfl rfl, ⟨zwi 299 rfl rfl, zwi 300 rfl rfl⟩, ⟨by decide +kernel, by decide +kernel, by decide +kernel⟩⟩
set_option maxRecDepth 100000 in
theorem l_L_120 : zLV "WideWordStackLaw" 120 y_M_clear c_M_clear 2 (some .int) 0 := ⟨zwi 960 rfl rfl, zwi 57 rfl rfl, zwi 957 rfl rfl, ⟨zwi 958 rfl rfl, zwi 959 rfl rfl⟩, ⟨by decide +kernel, by decide +kernel, by decide +kernel⟩⟩
set_option maxRecDepth 100000 in
theorem l_L_121 : zLV "WideWordStackLaw" 121 y_S_letter c_S_letter 2 (some .int) 1 := ⟨zwi 313 rfl rfl, zwi 52 rfl rfl, zwi 310 rfl rfl, ⟨zwi 311 rfl rfl, zwi 312 rfl rfl⟩, ⟨by decide +kernel, by decide +kernel, by decide +kernel⟩⟩
set_option maxRecDepth 100000 in
theorem l_L_124 : zLV "WideWordStackLaw" 124 y_M_letter c_M_letter 2 (some .int) 1 := ⟨zwi 964 rfl rfl, zwi 57 rfl rfl, zwi 961 rfl rfl, ⟨zwi 962 rfl rfl, zwi 963 rfl rfl⟩, ⟨by decide +kernel, by decide +kernel, by decide +kernel⟩⟩
set_option maxRecDepth 100000 in
theorem l_L_127 : zLV "WideWordStackLaw" 127 y_M_print c_M_print 7 (some .int) 2 := ⟨zwi 968 rfl rfl, zwi 57 rfl rfl, zwi 965 rfl rfl, ⟨zwi 966 rfl rfl, zwi 967 rfl rfl⟩, ⟨by decide +kernel, by decide +kernel, by decide +kernel⟩⟩
set_option maxRecDepth 100000 in
theorem l_L_131 : zLV "WideWordStackLaw" 131 y_M_parse c_M_parse 3 (some .int) 1 := ⟨zwi 972 rfl rfl, zwi 57 rfl rfl, zwi 969 rfl rfl, ⟨zwi 970 rfl rfl, zwi 971 rfl rfl⟩, ⟨by decide +kernel, by decide +kernel, by decide +kernel⟩⟩
set_option maxRecDepth 100000 in
theorem l_L_134 : zLV "WideWordStackLaw" 134 y_M_encode c_M_encode 4 (some .int) 1 := ⟨zwi 987 rfl rfl, zwi 57 rfl rfl, zwi 984 rfl rfl, ⟨zwi 985 rfl rfl, zwi 986 rfl rfl⟩, ⟨by decide +kernel, by decide +kernel, by decide +kernel⟩⟩
set_option maxRecDepth 100000 in
theorem l_L_137 : zLV "WideWordStackLaw" 137 y_M_decode c_M_decode 2 (some .int) 0 := ⟨zwi 995 rfl rfl, zwi 57 rfl rfl, zwi 992 rfl rfl, ⟨zwi 993 rfl rfl, zwi 994 rfl rfl⟩, ⟨by decide +kernel, by decide +kernel, by decide +kernel⟩⟩
theorem zxn_mem_ise_iob : Cond.not (.castable xISE xIOB) ∈ zxw := List.mem_append_right _ (List.mem_of_getElem? (i := 0) rfl)
theorem zxn_mem_ise_iae : Cond.not (.castable xISE xIAE) ∈ zxw := List.mem_append_right _ (List.mem_of_getElem? (i := 1) rfl)
theorem zxn_mem_ae_iae : Cond.not (.castable xAE xIAE) ∈ zxw := List.mem_append_right _ (List.mem_of_getElem? (i := 2) rfl)
theorem zxn_mem_ae_ise : Cond.not (.castable xAE xISE) ∈ zxw := List.mem_append_right _ (List.mem_of_getElem? (i := 3) rfl)
def y_L_push : MethodName := ⟨"WideWordStackLaw", "push", "(LWideWordStack;JJJJ[J)I"⟩
abbrev c_L_push : ByteArray := method_3_code
def hh_L_push : zHh := [(0, 15, 18, 13)]
def rl_L_push : Room := { frames := 8, cells := 1, slots := 6, locals := 153 }
def t_L_push_0 : List Instr := [.aload 9, .iconst 0, .aload_n 0, .lload_n 1, .lload_n 3, .lload 5, .lload 7, .nop]
def t_L_push_10 : List Instr := [.invokevirtual 7, .i2l, .lastore, .goto 7]
def t_L_push_22 : List Instr := [.iconst 0, .ireturn]
def d_L_push : Nat → List Instr := fun pc => match pc with
  | 0 => t_L_push_0
  | 10 => t_L_push_10
  | 22 => t_L_push_22
  | _ => []
theorem d_L_push_0 : d_L_push 0 = t_L_push_0 := rfl
theorem d_L_push_10 : d_L_push 10 = t_L_push_10 := rfl
theorem d_L_push_22 : d_L_push 22 = t_L_push_22 := rfl
set_option maxRecDepth 100000 in
theorem k_L_push : ∀ pc, zok c_L_push 11 pc (d_L_push pc) = true := by
  intro pc
  unfold d_L_push
  split
  · decide +kernel
  · decide +kernel
  · decide +kernel
  · rfl
def ct_L_push : List (Nat × Nat × zSpec) := [(22, 5, sp_S_push)]
theorem co_L_push : ∀ q ∈ ct_L_push, zCok "WideWordStackLaw" rl_L_push q := by
  intro q hq
  unfold ct_L_push at hq
  simp only [List.mem_cons, List.not_mem_nil, or_false] at hq
  subst hq
  exact Or.inr ⟨7, y_S_push, c_S_push, 10, (some .int), r_S_push, ⟨rfl, rfl, by decide, by decide⟩, zm_S_push, Or.inr ⟨rfl, 4, 4, rfl, l_L_7, sr_S_push, _, _, rfl⟩⟩
theorem cq_L_push : zCokX "WideWordStackLaw" rl_L_push (22, 5, sx_S_push) := ⟨7, y_S_push, c_S_push, 10, (some .int), rx_S_push, ⟨rfl, rfl, by decide, by decide⟩, zt_S_push, rfl, 4, 4, rfl, l_L_7, sxr_S_push, _, _, rfl⟩
def hd_L_push : List (String × Nat × Nat) := [(xISE, 18, 1)]
set_option maxRecDepth 100000 in
theorem hdo_L_push : ∀ r ∈ hd_L_push, zHnd "WideWordStackLaw" c_L_push 11 hh_L_push 10 r := by
  intro r hr
  unfold hd_L_push at hr
  simp only [List.mem_cons, List.not_mem_nil, or_false] at hr
  rcases hr with rfl
  · exact ⟨[], [], 0, 15, 13, rfl, by decide, by decide, by decide, zwi 321 rfl rfl, List.mem_append_left _ (List.mem_filter.mpr ⟨List.mem_of_getElem? (i := 332) rfl, rfl⟩), (fun q hq => by cases hq), by decide, Or.inr ⟨10, by decide, by decide +kernel, by decide +kernel, by decide +kernel⟩⟩
def y_L_copy : MethodName := ⟨"WideWordStackLaw", "copy", "(LWideWordStack;I[J)I"⟩
abbrev c_L_copy : ByteArray := method_4_code
def hh_L_copy : zHh := [(0, 9, 12, 19), (0, 9, 15, 13)]
def rl_L_copy : Room := { frames := 8, cells := 1, slots := 6, locals := 146 }
def t_L_copy_0 : List Instr := [.aload_n 2, .iconst 0, .aload_n 0, .iload_n 1, .nop]
def t_L_copy_4 : List Instr := [.invokevirtual 15, .i2l, .lastore, .goto 9]
def t_L_copy_18 : List Instr := [.iconst 0, .ireturn]
def d_L_copy : Nat → List Instr := fun pc => match pc with
  | 0 => t_L_copy_0
  | 4 => t_L_copy_4
  | 18 => t_L_copy_18
  | _ => []
theorem d_L_copy_0 : d_L_copy 0 = t_L_copy_0 := rfl
theorem d_L_copy_4 : d_L_copy 4 = t_L_copy_4 := rfl
theorem d_L_copy_18 : d_L_copy 18 = t_L_copy_18 := rfl
set_option maxRecDepth 100000 in
theorem k_L_copy : ∀ pc, zok c_L_copy 4 pc (d_L_copy pc) = true := by
  intro pc
  unfold d_L_copy
  split
  · decide +kernel
  · decide +kernel
  · decide +kernel
  · rfl
def ct_L_copy : List (Nat × Nat × zSpec) := [(46, 2, sp_S_copy)]
theorem co_L_copy : ∀ q ∈ ct_L_copy, zCok "WideWordStackLaw" rl_L_copy q := by
  intro q hq
  unfold ct_L_copy at hq
  simp only [List.mem_cons, List.not_mem_nil, or_false] at hq
  subst hq
  exact Or.inr ⟨15, y_S_copy, c_S_copy, 2, (some .int), r_S_copy, ⟨rfl, rfl, by decide, by decide⟩, zm_S_copy, Or.inr ⟨rfl, 1, 4, rfl, l_L_15, sr_S_copy, _, _, rfl⟩⟩
theorem cq_L_copy : zCokX "WideWordStackLaw" rl_L_copy (46, 2, sx_S_copy) := ⟨15, y_S_copy, c_S_copy, 2, (some .int), rx_S_copy, ⟨rfl, rfl, by decide, by decide⟩, zt_S_copy, rfl, 1, 4, rfl, l_L_15, sxr_S_copy, _, _, rfl⟩
def hd_L_copy : List (String × Nat × Nat) := [(xIOB, 12, 1), (xISE, 15, 2)]
set_option maxRecDepth 100000 in
theorem hdo_L_copy : ∀ r ∈ hd_L_copy, zHnd "WideWordStackLaw" c_L_copy 4 hh_L_copy 4 r := by
  intro r hr
  unfold hd_L_copy at hr
  simp only [List.mem_cons, List.not_mem_nil, or_false] at hr
  rcases hr with rfl | rfl
  · exact ⟨[], [(0, 9, 15, 13)], 0, 9, 19, rfl, by decide, by decide, by decide, zwi 405 rfl rfl, List.mem_append_left _ (List.mem_filter.mpr ⟨List.mem_of_getElem? (i := 416) rfl, rfl⟩), (fun q hq => by cases hq), by decide, Or.inl ⟨3, by decide, by decide +kernel, by decide +kernel, by decide +kernel⟩⟩
  · exact ⟨[(0, 9, 12, 19)], [], 0, 9, 13, rfl, by decide, by decide, by decide, zwi 321 rfl rfl, List.mem_append_left _ (List.mem_filter.mpr ⟨List.mem_of_getElem? (i := 332) rfl, rfl⟩), (by
      intro q hq
      simp only [List.mem_cons, List.not_mem_nil, or_false] at hq
      rcases hq with rfl
      · exact ⟨by decide, _, zwi 405 rfl rfl, zxn_mem_ise_iob⟩), by decide, Or.inl ⟨3, by decide, by decide +kernel, by decide +kernel, by decide +kernel⟩⟩
def y_L_swap : MethodName := ⟨"WideWordStackLaw", "swap", "(LWideWordStack;I[J)I"⟩
abbrev c_L_swap : ByteArray := method_5_code
def hh_L_swap : zHh := [(0, 9, 12, 19)]
def rl_L_swap : Room := { frames := 8, cells := 1, slots := 6, locals := 146 }
def t_L_swap_0 : List Instr := [.aload_n 2, .iconst 0, .aload_n 0, .iload_n 1, .nop]
def t_L_swap_4 : List Instr := [.invokevirtual 21, .i2l, .lastore, .goto 6]
def t_L_swap_15 : List Instr := [.iconst 0, .ireturn]
def d_L_swap : Nat → List Instr := fun pc => match pc with
  | 0 => t_L_swap_0
  | 4 => t_L_swap_4
  | 15 => t_L_swap_15
  | _ => []
theorem d_L_swap_0 : d_L_swap 0 = t_L_swap_0 := rfl
theorem d_L_swap_4 : d_L_swap 4 = t_L_swap_4 := rfl
theorem d_L_swap_15 : d_L_swap 15 = t_L_swap_15 := rfl
set_option maxRecDepth 100000 in
theorem k_L_swap : ∀ pc, zok c_L_swap 4 pc (d_L_swap pc) = true := by
  intro pc
  unfold d_L_swap
  split
  · decide +kernel
  · decide +kernel
  · decide +kernel
  · rfl
def ct_L_swap : List (Nat × Nat × zSpec) := [(64, 2, sp_S_swap)]
theorem co_L_swap : ∀ q ∈ ct_L_swap, zCok "WideWordStackLaw" rl_L_swap q := by
  intro q hq
  unfold ct_L_swap at hq
  simp only [List.mem_cons, List.not_mem_nil, or_false] at hq
  subst hq
  exact Or.inr ⟨21, y_S_swap, c_S_swap, 2, (some .int), r_S_swap, ⟨rfl, rfl, by decide, by decide⟩, zm_S_swap, Or.inr ⟨rfl, 1, 4, rfl, l_L_21, sr_S_swap, _, _, rfl⟩⟩
theorem cq_L_swap : zCokX "WideWordStackLaw" rl_L_swap (64, 2, sx_S_swap) := ⟨21, y_S_swap, c_S_swap, 2, (some .int), rx_S_swap, ⟨rfl, rfl, by decide, by decide⟩, zt_S_swap, rfl, 1, 4, rfl, l_L_21, sxr_S_swap, _, _, rfl⟩
def hd_L_swap : List (String × Nat × Nat) := [(xIOB, 12, 1)]
set_option maxRecDepth 100000 in
theorem hdo_L_swap : ∀ r ∈ hd_L_swap, zHnd "WideWordStackLaw" c_L_swap 4 hh_L_swap 4 r := by
  intro r hr
  unfold hd_L_swap at hr
  simp only [List.mem_cons, List.not_mem_nil, or_false] at hr
  rcases hr with rfl
  · exact ⟨[], [], 0, 9, 19, rfl, by decide, by decide, by decide, zwi 405 rfl rfl, List.mem_append_left _ (List.mem_filter.mpr ⟨List.mem_of_getElem? (i := 416) rfl, rfl⟩), (fun q hq => by cases hq), by decide, Or.inl ⟨3, by decide, by decide +kernel, by decide +kernel, by decide +kernel⟩⟩
def y_L_drop : MethodName := ⟨"WideWordStackLaw", "drop", "(LWideWordStack;[J)I"⟩
abbrev c_L_drop : ByteArray := method_6_code
def hh_L_drop : zHh := [(0, 8, 11, 13)]
def rl_L_drop : Room := { frames := 8, cells := 1, slots := 6, locals := 145 }
def t_L_drop_0 : List Instr := [.aload_n 1, .iconst 0, .aload_n 0, .nop]
def t_L_drop_3 : List Instr := [.invokevirtual 24, .i2l, .lastore, .goto 6]
def t_L_drop_14 : List Instr := [.iconst 0, .ireturn]
def d_L_drop : Nat → List Instr := fun pc => match pc with
  | 0 => t_L_drop_0
  | 3 => t_L_drop_3
  | 14 => t_L_drop_14
  | _ => []
theorem d_L_drop_0 : d_L_drop 0 = t_L_drop_0 := rfl
theorem d_L_drop_3 : d_L_drop 3 = t_L_drop_3 := rfl
theorem d_L_drop_14 : d_L_drop 14 = t_L_drop_14 := rfl
set_option maxRecDepth 100000 in
theorem k_L_drop : ∀ pc, zok c_L_drop 3 pc (d_L_drop pc) = true := by
  intro pc
  unfold d_L_drop
  split
  · decide +kernel
  · decide +kernel
  · decide +kernel
  · rfl
def ct_L_drop : List (Nat × Nat × zSpec) := [(73, 1, sp_S_drop)]
theorem co_L_drop : ∀ q ∈ ct_L_drop, zCok "WideWordStackLaw" rl_L_drop q := by
  intro q hq
  unfold ct_L_drop at hq
  simp only [List.mem_cons, List.not_mem_nil, or_false] at hq
  subst hq
  exact Or.inr ⟨24, y_S_drop, c_S_drop, 1, (some .int), r_S_drop, ⟨rfl, rfl, by decide, by decide⟩, zm_S_drop, Or.inr ⟨rfl, 0, 4, rfl, l_L_24, sr_S_drop, _, _, rfl⟩⟩
theorem cq_L_drop : zCokX "WideWordStackLaw" rl_L_drop (73, 1, sx_S_drop) := ⟨24, y_S_drop, c_S_drop, 1, (some .int), rx_S_drop, ⟨rfl, rfl, by decide, by decide⟩, zt_S_drop, rfl, 0, 4, rfl, l_L_24, sxr_S_drop, _, _, rfl⟩
def hd_L_drop : List (String × Nat × Nat) := [(xISE, 11, 1)]
set_option maxRecDepth 100000 in
theorem hdo_L_drop : ∀ r ∈ hd_L_drop, zHnd "WideWordStackLaw" c_L_drop 3 hh_L_drop 3 r := by
  intro r hr
  unfold hd_L_drop at hr
  simp only [List.mem_cons, List.not_mem_nil, or_false] at hr
  rcases hr with rfl
  · exact ⟨[], [], 0, 8, 13, rfl, by decide, by decide, by decide, zwi 321 rfl rfl, List.mem_append_left _ (List.mem_filter.mpr ⟨List.mem_of_getElem? (i := 332) rfl, rfl⟩), (fun q hq => by cases hq), by decide, Or.inl ⟨2, by decide, by decide +kernel, by decide +kernel, by decide +kernel⟩⟩
def y_L_limb : MethodName := ⟨"WideWordStackLaw", "limb", "(LWideWordStack;II[J)I"⟩
abbrev c_L_limb : ByteArray := method_7_code
def hh_L_limb : zHh := [(0, 9, 12, 19)]
def rl_L_limb : Room := { frames := 8, cells := 1, slots := 6, locals := 147 }
def t_L_limb_0 : List Instr := [.aload_n 3, .iconst 0, .aload_n 0, .iload_n 1, .iload_n 2, .nop]
def t_L_limb_5 : List Instr := [.invokevirtual 28, .lastore, .goto 7]
def t_L_limb_16 : List Instr := [.iconst 0, .ireturn]
def d_L_limb : Nat → List Instr := fun pc => match pc with
  | 0 => t_L_limb_0
  | 5 => t_L_limb_5
  | 16 => t_L_limb_16
  | _ => []
theorem d_L_limb_0 : d_L_limb 0 = t_L_limb_0 := rfl
theorem d_L_limb_5 : d_L_limb 5 = t_L_limb_5 := rfl
theorem d_L_limb_16 : d_L_limb 16 = t_L_limb_16 := rfl
set_option maxRecDepth 100000 in
theorem k_L_limb : ∀ pc, zok c_L_limb 5 pc (d_L_limb pc) = true := by
  intro pc
  unfold d_L_limb
  split
  · decide +kernel
  · decide +kernel
  · decide +kernel
  · rfl
def ct_L_limb : List (Nat × Nat × zSpec) := [(85, 3, sp_S_limb)]
theorem co_L_limb : ∀ q ∈ ct_L_limb, zCok "WideWordStackLaw" rl_L_limb q := by
  intro q hq
  unfold ct_L_limb at hq
  simp only [List.mem_cons, List.not_mem_nil, or_false] at hq
  subst hq
  exact Or.inr ⟨28, y_S_limb, c_S_limb, 3, (some .long), r_S_limb, ⟨rfl, rfl, by decide, by decide⟩, zm_S_limb, Or.inr ⟨rfl, 2, 4, rfl, l_L_28, sr_S_limb, _, _, rfl⟩⟩
theorem cq_L_limb : zCokX "WideWordStackLaw" rl_L_limb (85, 3, sx_S_limb) := ⟨28, y_S_limb, c_S_limb, 3, (some .long), rx_S_limb, ⟨rfl, rfl, by decide, by decide⟩, zt_S_limb, rfl, 2, 4, rfl, l_L_28, sxr_S_limb, _, _, rfl⟩
def hd_L_limb : List (String × Nat × Nat) := [(xIOB, 12, 1)]
set_option maxRecDepth 100000 in
theorem hdo_L_limb : ∀ r ∈ hd_L_limb, zHnd "WideWordStackLaw" c_L_limb 5 hh_L_limb 5 r := by
  intro r hr
  unfold hd_L_limb at hr
  simp only [List.mem_cons, List.not_mem_nil, or_false] at hr
  rcases hr with rfl
  · exact ⟨[], [], 0, 9, 19, rfl, by decide, by decide, by decide, zwi 405 rfl rfl, List.mem_append_left _ (List.mem_filter.mpr ⟨List.mem_of_getElem? (i := 416) rfl, rfl⟩), (fun q hq => by cases hq), by decide, Or.inr ⟨4, by decide, by decide +kernel, by decide +kernel, by decide +kernel⟩⟩
def y_L_wrapping : MethodName := ⟨"WideWordStackLaw", "wrapping", "(LWideWordStack;I[J)I"⟩
abbrev c_L_wrapping : ByteArray := method_8_code
def hh_L_wrapping : zHh := [(0, 9, 12, 35), (0, 9, 15, 13)]
def rl_L_wrapping : Room := { frames := 8, cells := 1, slots := 6, locals := 183 }
def t_L_wrapping_0 : List Instr := [.aload_n 2, .iconst 0, .aload_n 0, .iload_n 1, .nop]
def t_L_wrapping_4 : List Instr := [.invokevirtual 32, .i2l, .lastore, .goto 9]
def t_L_wrapping_18 : List Instr := [.iconst 0, .ireturn]
def d_L_wrapping : Nat → List Instr := fun pc => match pc with
  | 0 => t_L_wrapping_0
  | 4 => t_L_wrapping_4
  | 18 => t_L_wrapping_18
  | _ => []
theorem d_L_wrapping_0 : d_L_wrapping 0 = t_L_wrapping_0 := rfl
theorem d_L_wrapping_4 : d_L_wrapping 4 = t_L_wrapping_4 := rfl
theorem d_L_wrapping_18 : d_L_wrapping 18 = t_L_wrapping_18 := rfl
set_option maxRecDepth 100000 in
theorem k_L_wrapping : ∀ pc, zok c_L_wrapping 4 pc (d_L_wrapping pc) = true := by
  intro pc
  unfold d_L_wrapping
  split
  · decide +kernel
  · decide +kernel
  · decide +kernel
  · rfl
def ct_L_wrapping : List (Nat × Nat × zSpec) := [(97, 2, sp_S_wrapping)]
theorem co_L_wrapping : ∀ q ∈ ct_L_wrapping, zCok "WideWordStackLaw" rl_L_wrapping q := by
  intro q hq
  unfold ct_L_wrapping at hq
  simp only [List.mem_cons, List.not_mem_nil, or_false] at hq
  subst hq
  exact Or.inr ⟨32, y_S_wrapping, c_S_wrapping, 3, (some .int), r_S_wrapping, ⟨rfl, rfl, by decide, by decide⟩, zm_S_wrapping, Or.inr ⟨rfl, 1, 4, rfl, l_L_32, sr_S_wrapping, _, _, rfl⟩⟩
theorem cq_L_wrapping : zCokX "WideWordStackLaw" rl_L_wrapping (97, 2, sx_S_wrapping) := ⟨32, y_S_wrapping, c_S_wrapping, 3, (some .int), rx_S_wrapping, ⟨rfl, rfl, by decide, by decide⟩, zt_S_wrapping, rfl, 1, 4, rfl, l_L_32, sxr_S_wrapping, _, _, rfl⟩
def hd_L_wrapping : List (String × Nat × Nat) := [(xIAE, 12, 1), (xISE, 15, 2)]
set_option maxRecDepth 100000 in
theorem hdo_L_wrapping : ∀ r ∈ hd_L_wrapping, zHnd "WideWordStackLaw" c_L_wrapping 4 hh_L_wrapping 4 r := by
  intro r hr
  unfold hd_L_wrapping at hr
  simp only [List.mem_cons, List.not_mem_nil, or_false] at hr
  rcases hr with rfl | rfl
  · exact ⟨[], [(0, 9, 15, 13)], 0, 9, 35, rfl, by decide, by decide, by decide, zwi 471 rfl rfl, List.mem_append_left _ (List.mem_filter.mpr ⟨List.mem_of_getElem? (i := 481) rfl, rfl⟩), (fun q hq => by cases hq), by decide, Or.inl ⟨3, by decide, by decide +kernel, by decide +kernel, by decide +kernel⟩⟩
  · exact ⟨[(0, 9, 12, 35)], [], 0, 9, 13, rfl, by decide, by decide, by decide, zwi 321 rfl rfl, List.mem_append_left _ (List.mem_filter.mpr ⟨List.mem_of_getElem? (i := 332) rfl, rfl⟩), (by
      intro q hq
      simp only [List.mem_cons, List.not_mem_nil, or_false] at hq
      rcases hq with rfl
      · exact ⟨by decide, _, zwi 471 rfl rfl, zxn_mem_ise_iae⟩), by decide, Or.inl ⟨3, by decide, by decide +kernel, by decide +kernel, by decide +kernel⟩⟩
def y_L_checked : MethodName := ⟨"WideWordStackLaw", "checked", "(LWideWordStack;IZ[J)I"⟩
abbrev c_L_checked : ByteArray := method_9_code
def hh_L_checked : zHh := [(0, 10, 13, 35), (0, 10, 17, 13), (0, 10, 21, 41)]
def rl_L_checked : Room := { frames := 8, cells := 1, slots := 6, locals := 158 }
def t_L_checked_0 : List Instr := [.aload_n 3, .iconst 0, .aload_n 0, .iload_n 1, .iload_n 2, .nop]
def t_L_checked_5 : List Instr := [.invokevirtual 37, .i2l, .lastore, .goto 15]
def t_L_checked_25 : List Instr := [.iconst 0, .ireturn]
def d_L_checked : Nat → List Instr := fun pc => match pc with
  | 0 => t_L_checked_0
  | 5 => t_L_checked_5
  | 25 => t_L_checked_25
  | _ => []
theorem d_L_checked_0 : d_L_checked 0 = t_L_checked_0 := rfl
theorem d_L_checked_5 : d_L_checked 5 = t_L_checked_5 := rfl
theorem d_L_checked_25 : d_L_checked 25 = t_L_checked_25 := rfl
set_option maxRecDepth 100000 in
theorem k_L_checked : ∀ pc, zok c_L_checked 5 pc (d_L_checked pc) = true := by
  intro pc
  unfold d_L_checked
  split
  · decide +kernel
  · decide +kernel
  · decide +kernel
  · rfl
def ct_L_checked : List (Nat × Nat × zSpec) := [(112, 3, sp_S_checked)]
theorem co_L_checked : ∀ q ∈ ct_L_checked, zCok "WideWordStackLaw" rl_L_checked q := by
  intro q hq
  unfold ct_L_checked at hq
  simp only [List.mem_cons, List.not_mem_nil, or_false] at hq
  subst hq
  exact Or.inr ⟨37, y_S_checked, c_S_checked, 3, (some .int), r_S_checked, ⟨rfl, rfl, by decide, by decide⟩, zm_S_checked, Or.inr ⟨rfl, 2, 4, rfl, l_L_37, sr_S_checked, _, _, rfl⟩⟩
theorem cq_L_checked : zCokX "WideWordStackLaw" rl_L_checked (112, 3, sx_S_checked) := ⟨37, y_S_checked, c_S_checked, 3, (some .int), rx_S_checked, ⟨rfl, rfl, by decide, by decide⟩, zt_S_checked, rfl, 2, 4, rfl, l_L_37, sxr_S_checked, _, _, rfl⟩
def hd_L_checked : List (String × Nat × Nat) := [(xIAE, 13, 1), (xISE, 17, 2), (xAE, 21, 3)]
set_option maxRecDepth 100000 in
theorem hdo_L_checked : ∀ r ∈ hd_L_checked, zHnd "WideWordStackLaw" c_L_checked 5 hh_L_checked 5 r := by
  intro r hr
  unfold hd_L_checked at hr
  simp only [List.mem_cons, List.not_mem_nil, or_false] at hr
  rcases hr with rfl | rfl | rfl
  · exact ⟨[], [(0, 10, 17, 13), (0, 10, 21, 41)], 0, 10, 35, rfl, by decide, by decide, by decide, zwi 471 rfl rfl, List.mem_append_left _ (List.mem_filter.mpr ⟨List.mem_of_getElem? (i := 481) rfl, rfl⟩), (fun q hq => by cases hq), by decide, Or.inr ⟨4, by decide, by decide +kernel, by decide +kernel, by decide +kernel⟩⟩
  · exact ⟨[(0, 10, 13, 35)], [(0, 10, 21, 41)], 0, 10, 13, rfl, by decide, by decide, by decide, zwi 321 rfl rfl, List.mem_append_left _ (List.mem_filter.mpr ⟨List.mem_of_getElem? (i := 332) rfl, rfl⟩), (by
      intro q hq
      simp only [List.mem_cons, List.not_mem_nil, or_false] at hq
      rcases hq with rfl
      · exact ⟨by decide, _, zwi 471 rfl rfl, zxn_mem_ise_iae⟩), by decide, Or.inr ⟨4, by decide, by decide +kernel, by decide +kernel, by decide +kernel⟩⟩
  · exact ⟨[(0, 10, 13, 35), (0, 10, 17, 13)], [], 0, 10, 41, rfl, by decide, by decide, by decide, zwi 599 rfl rfl, List.mem_append_left _ (List.mem_filter.mpr ⟨List.mem_of_getElem? (i := 611) rfl, rfl⟩), (by
      intro q hq
      simp only [List.mem_cons, List.not_mem_nil, or_false] at hq
      rcases hq with rfl | rfl
      · exact ⟨by decide, _, zwi 471 rfl rfl, zxn_mem_ae_iae⟩
      · exact ⟨by decide, _, zwi 321 rfl rfl, zxn_mem_ae_ise⟩), by decide, Or.inr ⟨4, by decide, by decide +kernel, by decide +kernel, by decide +kernel⟩⟩
def y_L_nearest : MethodName := ⟨"WideWordStackLaw", "nearest", "(LWideWordStack;IZ[J)I"⟩
abbrev c_L_nearest : ByteArray := method_10_code
def hh_L_nearest : zHh := [(0, 10, 13, 35), (0, 10, 17, 13), (0, 10, 21, 41)]
def rl_L_nearest : Room := { frames := 8, cells := 1, slots := 6, locals := 158 }
def t_L_nearest_0 : List Instr := [.aload_n 3, .iconst 0, .aload_n 0, .iload_n 1, .iload_n 2, .nop]
def t_L_nearest_5 : List Instr := [.invokevirtual 43, .i2l, .lastore, .goto 15]
def t_L_nearest_25 : List Instr := [.iconst 0, .ireturn]
def d_L_nearest : Nat → List Instr := fun pc => match pc with
  | 0 => t_L_nearest_0
  | 5 => t_L_nearest_5
  | 25 => t_L_nearest_25
  | _ => []
theorem d_L_nearest_0 : d_L_nearest 0 = t_L_nearest_0 := rfl
theorem d_L_nearest_5 : d_L_nearest 5 = t_L_nearest_5 := rfl
theorem d_L_nearest_25 : d_L_nearest 25 = t_L_nearest_25 := rfl
set_option maxRecDepth 100000 in
theorem k_L_nearest : ∀ pc, zok c_L_nearest 5 pc (d_L_nearest pc) = true := by
  intro pc
  unfold d_L_nearest
  split
  · decide +kernel
  · decide +kernel
  · decide +kernel
  · rfl
def ct_L_nearest : List (Nat × Nat × zSpec) := [(130, 3, sp_S_nearest)]
theorem co_L_nearest : ∀ q ∈ ct_L_nearest, zCok "WideWordStackLaw" rl_L_nearest q := by
  intro q hq
  unfold ct_L_nearest at hq
  simp only [List.mem_cons, List.not_mem_nil, or_false] at hq
  subst hq
  exact Or.inr ⟨43, y_S_nearest, c_S_nearest, 3, (some .int), r_S_nearest, ⟨rfl, rfl, by decide, by decide⟩, zm_S_nearest, Or.inr ⟨rfl, 2, 4, rfl, l_L_43, sr_S_nearest, _, _, rfl⟩⟩
theorem cq_L_nearest : zCokX "WideWordStackLaw" rl_L_nearest (130, 3, sx_S_nearest) := ⟨43, y_S_nearest, c_S_nearest, 3, (some .int), rx_S_nearest, ⟨rfl, rfl, by decide, by decide⟩, zt_S_nearest, rfl, 2, 4, rfl, l_L_43, sxr_S_nearest, _, _, rfl⟩
def hd_L_nearest : List (String × Nat × Nat) := [(xIAE, 13, 1), (xISE, 17, 2), (xAE, 21, 3)]
set_option maxRecDepth 100000 in
theorem hdo_L_nearest : ∀ r ∈ hd_L_nearest, zHnd "WideWordStackLaw" c_L_nearest 5 hh_L_nearest 5 r := by
  intro r hr
  unfold hd_L_nearest at hr
  simp only [List.mem_cons, List.not_mem_nil, or_false] at hr
  rcases hr with rfl | rfl | rfl
  · exact ⟨[], [(0, 10, 17, 13), (0, 10, 21, 41)], 0, 10, 35, rfl, by decide, by decide, by decide, zwi 471 rfl rfl, List.mem_append_left _ (List.mem_filter.mpr ⟨List.mem_of_getElem? (i := 481) rfl, rfl⟩), (fun q hq => by cases hq), by decide, Or.inr ⟨4, by decide, by decide +kernel, by decide +kernel, by decide +kernel⟩⟩
  · exact ⟨[(0, 10, 13, 35)], [(0, 10, 21, 41)], 0, 10, 13, rfl, by decide, by decide, by decide, zwi 321 rfl rfl, List.mem_append_left _ (List.mem_filter.mpr ⟨List.mem_of_getElem? (i := 332) rfl, rfl⟩), (by
      intro q hq
      simp only [List.mem_cons, List.not_mem_nil, or_false] at hq
      rcases hq with rfl
      · exact ⟨by decide, _, zwi 471 rfl rfl, zxn_mem_ise_iae⟩), by decide, Or.inr ⟨4, by decide, by decide +kernel, by decide +kernel, by decide +kernel⟩⟩
  · exact ⟨[(0, 10, 13, 35), (0, 10, 17, 13)], [], 0, 10, 41, rfl, by decide, by decide, by decide, zwi 599 rfl rfl, List.mem_append_left _ (List.mem_filter.mpr ⟨List.mem_of_getElem? (i := 611) rfl, rfl⟩), (by
      intro q hq
      simp only [List.mem_cons, List.not_mem_nil, or_false] at hq
      rcases hq with rfl | rfl
      · exact ⟨by decide, _, zwi 471 rfl rfl, zxn_mem_ae_iae⟩
      · exact ⟨by decide, _, zwi 321 rfl rfl, zxn_mem_ae_ise⟩), by decide, Or.inr ⟨4, by decide, by decide +kernel, by decide +kernel, by decide +kernel⟩⟩
def y_L_print : MethodName := ⟨"WideWordStackLaw", "print", "(LWideWordStack;IZ[J)I"⟩
abbrev c_L_print : ByteArray := method_11_code
def hh_L_print : zHh := [(0, 10, 13, 19)]
def rl_L_print : Room := { frames := 8, cells := 1, slots := 6, locals := 147 }
def t_L_print_0 : List Instr := [.aload_n 3, .iconst 0, .aload_n 0, .iload_n 1, .iload_n 2, .nop]
def t_L_print_5 : List Instr := [.invokevirtual 46, .i2l, .lastore, .goto 7]
def t_L_print_17 : List Instr := [.iconst 0, .ireturn]
def d_L_print : Nat → List Instr := fun pc => match pc with
  | 0 => t_L_print_0
  | 5 => t_L_print_5
  | 17 => t_L_print_17
  | _ => []
theorem d_L_print_0 : d_L_print 0 = t_L_print_0 := rfl
theorem d_L_print_5 : d_L_print 5 = t_L_print_5 := rfl
theorem d_L_print_17 : d_L_print 17 = t_L_print_17 := rfl
set_option maxRecDepth 100000 in
theorem k_L_print : ∀ pc, zok c_L_print 5 pc (d_L_print pc) = true := by
  intro pc
  unfold d_L_print
  split
  · decide +kernel
  · decide +kernel
  · decide +kernel
  · rfl
def ct_L_print : List (Nat × Nat × zSpec) := [(139, 3, sp_S_print)]
theorem co_L_print : ∀ q ∈ ct_L_print, zCok "WideWordStackLaw" rl_L_print q := by
  intro q hq
  unfold ct_L_print at hq
  simp only [List.mem_cons, List.not_mem_nil, or_false] at hq
  subst hq
  exact Or.inr ⟨46, y_S_print, c_S_print, 3, (some .int), r_S_print, ⟨rfl, rfl, by decide, by decide⟩, zm_S_print, Or.inr ⟨rfl, 2, 4, rfl, l_L_46, sr_S_print, _, _, rfl⟩⟩
theorem cq_L_print : zCokX "WideWordStackLaw" rl_L_print (139, 3, sx_S_print) := ⟨46, y_S_print, c_S_print, 3, (some .int), rx_S_print, ⟨rfl, rfl, by decide, by decide⟩, zt_S_print, rfl, 2, 4, rfl, l_L_46, sxr_S_print, _, _, rfl⟩
def hd_L_print : List (String × Nat × Nat) := [(xIOB, 13, 1)]
set_option maxRecDepth 100000 in
theorem hdo_L_print : ∀ r ∈ hd_L_print, zHnd "WideWordStackLaw" c_L_print 5 hh_L_print 5 r := by
  intro r hr
  unfold hd_L_print at hr
  simp only [List.mem_cons, List.not_mem_nil, or_false] at hr
  rcases hr with rfl
  · exact ⟨[], [], 0, 10, 19, rfl, by decide, by decide, by decide, zwi 405 rfl rfl, List.mem_append_left _ (List.mem_filter.mpr ⟨List.mem_of_getElem? (i := 416) rfl, rfl⟩), (fun q hq => by cases hq), by decide, Or.inr ⟨4, by decide, by decide +kernel, by decide +kernel, by decide +kernel⟩⟩
def y_L_parse : MethodName := ⟨"WideWordStackLaw", "parse", "(LWideWordStack;Z[J)I"⟩
abbrev c_L_parse : ByteArray := method_12_code
def hh_L_parse : zHh := [(0, 9, 12, 35), (0, 9, 15, 13)]
def rl_L_parse : Room := { frames := 9, cells := 1, slots := 6, locals := 166 }
def t_L_parse_0 : List Instr := [.aload_n 2, .iconst 0, .aload_n 0, .iload_n 1, .nop]
def t_L_parse_4 : List Instr := [.invokevirtual 49, .i2l, .lastore, .goto 9]
def t_L_parse_18 : List Instr := [.iconst 0, .ireturn]
def d_L_parse : Nat → List Instr := fun pc => match pc with
  | 0 => t_L_parse_0
  | 4 => t_L_parse_4
  | 18 => t_L_parse_18
  | _ => []
theorem d_L_parse_0 : d_L_parse 0 = t_L_parse_0 := rfl
theorem d_L_parse_4 : d_L_parse 4 = t_L_parse_4 := rfl
theorem d_L_parse_18 : d_L_parse 18 = t_L_parse_18 := rfl
set_option maxRecDepth 100000 in
theorem k_L_parse : ∀ pc, zok c_L_parse 4 pc (d_L_parse pc) = true := by
  intro pc
  unfold d_L_parse
  split
  · decide +kernel
  · decide +kernel
  · decide +kernel
  · rfl
def ct_L_parse : List (Nat × Nat × zSpec) := [(148, 2, sp_S_parse)]
theorem co_L_parse : ∀ q ∈ ct_L_parse, zCok "WideWordStackLaw" rl_L_parse q := by
  intro q hq
  unfold ct_L_parse at hq
  simp only [List.mem_cons, List.not_mem_nil, or_false] at hq
  subst hq
  exact Or.inr ⟨49, y_S_parse, c_S_parse, 3, (some .int), r_S_parse, ⟨rfl, rfl, by decide, by decide⟩, zm_S_parse, Or.inr ⟨rfl, 1, 4, rfl, l_L_49, sr_S_parse, _, _, rfl⟩⟩
theorem cq_L_parse : zCokX "WideWordStackLaw" rl_L_parse (148, 2, sx_S_parse) := ⟨49, y_S_parse, c_S_parse, 3, (some .int), rx_S_parse, ⟨rfl, rfl, by decide, by decide⟩, zt_S_parse, rfl, 1, 4, rfl, l_L_49, sxr_S_parse, _, _, rfl⟩
def hd_L_parse : List (String × Nat × Nat) := [(xIAE, 12, 1), (xISE, 15, 2)]
set_option maxRecDepth 100000 in
theorem hdo_L_parse : ∀ r ∈ hd_L_parse, zHnd "WideWordStackLaw" c_L_parse 4 hh_L_parse 4 r := by
  intro r hr
  unfold hd_L_parse at hr
  simp only [List.mem_cons, List.not_mem_nil, or_false] at hr
  rcases hr with rfl | rfl
  · exact ⟨[], [(0, 9, 15, 13)], 0, 9, 35, rfl, by decide, by decide, by decide, zwi 471 rfl rfl, List.mem_append_left _ (List.mem_filter.mpr ⟨List.mem_of_getElem? (i := 481) rfl, rfl⟩), (fun q hq => by cases hq), by decide, Or.inl ⟨3, by decide, by decide +kernel, by decide +kernel, by decide +kernel⟩⟩
  · exact ⟨[(0, 9, 12, 35)], [], 0, 9, 13, rfl, by decide, by decide, by decide, zwi 321 rfl rfl, List.mem_append_left _ (List.mem_filter.mpr ⟨List.mem_of_getElem? (i := 332) rfl, rfl⟩), (by
      intro q hq
      simp only [List.mem_cons, List.not_mem_nil, or_false] at hq
      rcases hq with rfl
      · exact ⟨by decide, _, zwi 471 rfl rfl, zxn_mem_ise_iae⟩), by decide, Or.inl ⟨3, by decide, by decide +kernel, by decide +kernel, by decide +kernel⟩⟩
def y_L_encode : MethodName := ⟨"WideWordStackLaw", "encode", "(LWideWordStack;I[J)I"⟩
abbrev c_L_encode : ByteArray := method_13_code
def hh_L_encode : zHh := [(0, 9, 12, 19)]
def rl_L_encode : Room := { frames := 8, cells := 1, slots := 6, locals := 146 }
def t_L_encode_0 : List Instr := [.aload_n 2, .iconst 0, .aload_n 0, .iload_n 1, .nop]
def t_L_encode_4 : List Instr := [.invokevirtual 53, .i2l, .lastore, .goto 6]
def t_L_encode_15 : List Instr := [.iconst 0, .ireturn]
def d_L_encode : Nat → List Instr := fun pc => match pc with
  | 0 => t_L_encode_0
  | 4 => t_L_encode_4
  | 15 => t_L_encode_15
  | _ => []
theorem d_L_encode_0 : d_L_encode 0 = t_L_encode_0 := rfl
theorem d_L_encode_4 : d_L_encode 4 = t_L_encode_4 := rfl
theorem d_L_encode_15 : d_L_encode 15 = t_L_encode_15 := rfl
set_option maxRecDepth 100000 in
theorem k_L_encode : ∀ pc, zok c_L_encode 4 pc (d_L_encode pc) = true := by
  intro pc
  unfold d_L_encode
  split
  · decide +kernel
  · decide +kernel
  · decide +kernel
  · rfl
def ct_L_encode : List (Nat × Nat × zSpec) := [(160, 2, sp_S_encode)]
theorem co_L_encode : ∀ q ∈ ct_L_encode, zCok "WideWordStackLaw" rl_L_encode q := by
  intro q hq
  unfold ct_L_encode at hq
  simp only [List.mem_cons, List.not_mem_nil, or_false] at hq
  subst hq
  exact Or.inr ⟨53, y_S_encode, c_S_encode, 2, (some .int), r_S_encode, ⟨rfl, rfl, by decide, by decide⟩, zm_S_encode, Or.inr ⟨rfl, 1, 4, rfl, l_L_53, sr_S_encode, _, _, rfl⟩⟩
theorem cq_L_encode : zCokX "WideWordStackLaw" rl_L_encode (160, 2, sx_S_encode) := ⟨53, y_S_encode, c_S_encode, 2, (some .int), rx_S_encode, ⟨rfl, rfl, by decide, by decide⟩, zt_S_encode, rfl, 1, 4, rfl, l_L_53, sxr_S_encode, _, _, rfl⟩
def hd_L_encode : List (String × Nat × Nat) := [(xIOB, 12, 1)]
set_option maxRecDepth 100000 in
theorem hdo_L_encode : ∀ r ∈ hd_L_encode, zHnd "WideWordStackLaw" c_L_encode 4 hh_L_encode 4 r := by
  intro r hr
  unfold hd_L_encode at hr
  simp only [List.mem_cons, List.not_mem_nil, or_false] at hr
  rcases hr with rfl
  · exact ⟨[], [], 0, 9, 19, rfl, by decide, by decide, by decide, zwi 405 rfl rfl, List.mem_append_left _ (List.mem_filter.mpr ⟨List.mem_of_getElem? (i := 416) rfl, rfl⟩), (fun q hq => by cases hq), by decide, Or.inl ⟨3, by decide, by decide +kernel, by decide +kernel, by decide +kernel⟩⟩
def y_L_decode : MethodName := ⟨"WideWordStackLaw", "decode", "(LWideWordStack;[J)I"⟩
abbrev c_L_decode : ByteArray := method_14_code
def hh_L_decode : zHh := [(0, 8, 11, 35), (0, 8, 14, 13)]
def rl_L_decode : Room := { frames := 9, cells := 1, slots := 6, locals := 164 }
def t_L_decode_0 : List Instr := [.aload_n 1, .iconst 0, .aload_n 0, .nop]
def t_L_decode_3 : List Instr := [.invokevirtual 56, .i2l, .lastore, .goto 9]
def t_L_decode_17 : List Instr := [.iconst 0, .ireturn]
def d_L_decode : Nat → List Instr := fun pc => match pc with
  | 0 => t_L_decode_0
  | 3 => t_L_decode_3
  | 17 => t_L_decode_17
  | _ => []
theorem d_L_decode_0 : d_L_decode 0 = t_L_decode_0 := rfl
theorem d_L_decode_3 : d_L_decode 3 = t_L_decode_3 := rfl
theorem d_L_decode_17 : d_L_decode 17 = t_L_decode_17 := rfl
set_option maxRecDepth 100000 in
theorem k_L_decode : ∀ pc, zok c_L_decode 3 pc (d_L_decode pc) = true := by
  intro pc
  unfold d_L_decode
  split
  · decide +kernel
  · decide +kernel
  · decide +kernel
  · rfl
def ct_L_decode : List (Nat × Nat × zSpec) := [(169, 1, sp_S_decode)]
theorem co_L_decode : ∀ q ∈ ct_L_decode, zCok "WideWordStackLaw" rl_L_decode q := by
  intro q hq
  unfold ct_L_decode at hq
  simp only [List.mem_cons, List.not_mem_nil, or_false] at hq
  subst hq
  exact Or.inr ⟨56, y_S_decode, c_S_decode, 1, (some .int), r_S_decode, ⟨rfl, rfl, by decide, by decide⟩, zm_S_decode, Or.inr ⟨rfl, 0, 4, rfl, l_L_56, sr_S_decode, _, _, rfl⟩⟩
theorem cq_L_decode : zCokX "WideWordStackLaw" rl_L_decode (169, 1, sx_S_decode) := ⟨56, y_S_decode, c_S_decode, 1, (some .int), rx_S_decode, ⟨rfl, rfl, by decide, by decide⟩, zt_S_decode, rfl, 0, 4, rfl, l_L_56, sxr_S_decode, _, _, rfl⟩
def hd_L_decode : List (String × Nat × Nat) := [(xIAE, 11, 1), (xISE, 14, 2)]
set_option maxRecDepth 100000 in
theorem hdo_L_decode : ∀ r ∈ hd_L_decode, zHnd "WideWordStackLaw" c_L_decode 3 hh_L_decode 3 r := by
  intro r hr
  unfold hd_L_decode at hr
  simp only [List.mem_cons, List.not_mem_nil, or_false] at hr
  rcases hr with rfl | rfl
  · exact ⟨[], [(0, 8, 14, 13)], 0, 8, 35, rfl, by decide, by decide, by decide, zwi 471 rfl rfl, List.mem_append_left _ (List.mem_filter.mpr ⟨List.mem_of_getElem? (i := 481) rfl, rfl⟩), (fun q hq => by cases hq), by decide, Or.inl ⟨2, by decide, by decide +kernel, by decide +kernel, by decide +kernel⟩⟩
  · exact ⟨[(0, 8, 11, 35)], [], 0, 8, 13, rfl, by decide, by decide, by decide, zwi 321 rfl rfl, List.mem_append_left _ (List.mem_filter.mpr ⟨List.mem_of_getElem? (i := 332) rfl, rfl⟩), (by
      intro q hq
      simp only [List.mem_cons, List.not_mem_nil, or_false] at hq
      rcases hq with rfl
      · exact ⟨by decide, _, zwi 471 rfl rfl, zxn_mem_ise_iae⟩), by decide, Or.inl ⟨2, by decide, by decide +kernel, by decide +kernel, by decide +kernel⟩⟩
