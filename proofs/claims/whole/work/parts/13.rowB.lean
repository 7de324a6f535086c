/-! Arrays.fill; Row.setSmall, isZero, isNegative, bitAt, byteAt -/
/-- a row of one digit all over -/
def sp_JA_fill : zSpec := fun vs σ K => ∃ (i n c x v : Nat), vs = [.ref i, .long (lN x)] ∧ σ[i]? = some (LR n c) ∧ n < 1000 ∧ (∀ j, j < n → dg 4294967296 v j = x) ∧ K none (σ.set i (LR n v))
def ct_JA_fill : List (Nat × Nat × zSpec) := []
set_option maxRecDepth 100000 in
theorem co_JA_fill : ∀ q ∈ ct_JA_fill, zCok "java/util/Arrays" r_JA_fill q := by
  intro q hq
  unfold ct_JA_fill at hq
  cases hq
set_option maxHeartbeats 4000000 in
set_option maxRecDepth 100000 in
theorem zm_JA_fill : ∀ l vs σ K, sp_JA_fill vs σ K → zMet l y_JA_fill c_JA_fill 5 none r_JA_fill vs σ K := by
  rintro l vs σ K ⟨i, n, c0, x, v, rfl, hi, hn, hx, h⟩
  refine zmet_of (own := "java/util/Arrays") (f := f_JA) (kk := kk_JA) (t := ct_JA_fill) (g := g_JA) (cd := d_JA_fill) (by decide +kernel) rfl fo_JA ko_JA go_JA co_JA_fill k_JA_fill (Nat.le_of_ble_eq_true rfl) ?_
  intro V hV
  show V 0 [some _, some _, none, none, none] [] _
  have loop : ∀ (m t : Nat) (d : Nat → Nat), m + t = n → (∀ j, j < t → d j = x) → V 6 [some (.ref i), some (.long (lN x)), none, some (.int (nI t)), some (.int (nI n))] [] (σ.set i (LD n d)) := by
    intro m
    induction m with
    | zero =>
      intro t d hm hd
      have ht : t = n := by omega
      subst ht
      refine hV.1 6 _ _ _ ?_
      simp -implicitDefEqProofs only [d_JA_fill_0, d_JA_fill_6, d_JA_fill_22, t_JA_fill_0, t_JA_fill_6, t_JA_fill_22, zs_aload_n, zs_aload, zs_iload_n, zs_iload, zs_lload_n, zs_lload, zs_istore_n, zs_istore, zs_lstore_n, zs_lstore, zs_astore_n, zs_astore, zs_iinc, zs_iconst, zs_bipush, zs_sipush, zs_lconst0, zs_lconst1, zs_ldc2_w, zs_ldc_w, zs_iadd, zs_isub, zs_imul, zs_iand, zs_ior, zs_ixor, zs_ishl, zs_ishr, zs_iushr, zs_idiv, zs_irem, zs_ineg, zs_ladd, zs_lsub, zs_lmul, zs_land, zs_lor, zs_lxor, zs_ldiv, zs_lrem, zs_lcmp, zs_lshl, zs_lshr, zs_lushr, zs_i2l, zs_l2i, zs_i2c, zs_dup_i, zs_pop_i, zs_dup_a, zs_pop_a, zs_dup2, zs_pop2, zs_nop, zs_goto, zs_if_eq, zs_icmp_eq, zs_if_ne, zs_icmp_ne, zs_if_lt, zs_icmp_lt, zs_if_ge, zs_icmp_ge, zs_if_gt, zs_icmp_gt, zs_if_le, zs_icmp_le, zs_getf, zs_putf, zs_gets, zs_alen, zs_iald, zs_cald, zs_lald, zs_aald, zs_iast, zs_cast, zs_last, zs_invstatic, zs_invvirtual, zs_invspecial, zs_ireturn, zs_lreturn, zs_areturn, zs_return, zs_tsw, zs_lsw, zr_zva0, zr_zvas, zr_zvai0, zr_zvais, zr_zvi0, zr_zvis, zr_zvii0, zr_zviis, zr_zvl0, zr_zvls, zr_zvli0, zr_zvlis, zr_zs1_0, zr_zs1_1n, zr_zs1_1i, zr_zs1_1a, zr_zs1_1l, zr_zs1_s, zr_zs2_0, zr_zs2_1n, zr_zs2_1i, zr_zs2_1a, zr_zs2_1l, zr_zs2_s, zr_f0, zr_f1, zr_f2, zr_f3, zr_kp, zr_k0, zr_k1, zr_km1, zr_km2, zr_km4, zr_km8, zr_km16, zr_tp, zr_tn, zr_kl, zr_ki, zr_kil, zr_kii, zr_ov, zr_is, zr_cn, zr_cfi, zr_cfl, zr_cfr, zr_cfo, zr_isi, zr_isl, zr_isc, zr_isr, zr_isn0, zr_isn1, zr_isn2, zr_iso, zr_reti, zr_ctm, zr_cat0, zr_cati, zr_cata, zr_catl, zr_cs0, zr_cs1, zr_cs2, zr_cs3, zr_cs4, zr_cs5, zr_cs6, Nat.reduceLeDiff, Option.toList_none, Option.toList_some, List.nil_append, List.cons_append, Nat.le_refl, true_and, Nat.reduceAdd, Nat.reduceSub, Nat.reduceMul, Nat.reduceEqDiff, if_true, if_false, ite_true, ite_false, reduceIte, List.getElem?_cons_zero, List.getElem?_cons_succ]
      refine ⟨fun _ => ?_, fun q => absurd (Int32.le_refl _) q⟩
      refine hV.2.2 _ _ _ _ _ _ _ ?_ (LD_sim (e := dg 4294967296 v) (fun j hj => by rw [hd j hj, hx j hj]))
      refine hV.1 22 _ _ _ ?_
      simp -implicitDefEqProofs only [d_JA_fill_0, d_JA_fill_6, d_JA_fill_22, t_JA_fill_0, t_JA_fill_6, t_JA_fill_22, zs_aload_n, zs_aload, zs_iload_n, zs_iload, zs_lload_n, zs_lload, zs_istore_n, zs_istore, zs_lstore_n, zs_lstore, zs_astore_n, zs_astore, zs_iinc, zs_iconst, zs_bipush, zs_sipush, zs_lconst0, zs_lconst1, zs_ldc2_w, zs_ldc_w, zs_iadd, zs_isub, zs_imul, zs_iand, zs_ior, zs_ixor, zs_ishl, zs_ishr, zs_iushr, zs_idiv, zs_irem, zs_ineg, zs_ladd, zs_lsub, zs_lmul, zs_land, zs_lor, zs_lxor, zs_ldiv, zs_lrem, zs_lcmp, zs_lshl, zs_lshr, zs_lushr, zs_i2l, zs_l2i, zs_i2c, zs_dup_i, zs_pop_i, zs_dup_a, zs_pop_a, zs_dup2, zs_pop2, zs_nop, zs_goto, zs_if_eq, zs_icmp_eq, zs_if_ne, zs_icmp_ne, zs_if_lt, zs_icmp_lt, zs_if_ge, zs_icmp_ge, zs_if_gt, zs_icmp_gt, zs_if_le, zs_icmp_le, zs_getf, zs_putf, zs_gets, zs_alen, zs_iald, zs_cald, zs_lald, zs_aald, zs_iast, zs_cast, zs_last, zs_invstatic, zs_invvirtual, zs_invspecial, zs_ireturn, zs_lreturn, zs_areturn, zs_return, zs_tsw, zs_lsw, zr_zva0, zr_zvas, zr_zvai0, zr_zvais, zr_zvi0, zr_zvis, zr_zvii0, zr_zviis, zr_zvl0, zr_zvls, zr_zvli0, zr_zvlis, zr_zs1_0, zr_zs1_1n, zr_zs1_1i, zr_zs1_1a, zr_zs1_1l, zr_zs1_s, zr_zs2_0, zr_zs2_1n, zr_zs2_1i, zr_zs2_1a, zr_zs2_1l, zr_zs2_s, zr_f0, zr_f1, zr_f2, zr_f3, zr_kp, zr_k0, zr_k1, zr_km1, zr_km2, zr_km4, zr_km8, zr_km16, zr_tp, zr_tn, zr_kl, zr_ki, zr_kil, zr_kii, zr_ov, zr_is, zr_cn, zr_cfi, zr_cfl, zr_cfr, zr_cfo, zr_isi, zr_isl, zr_isc, zr_isr, zr_isn0, zr_isn1, zr_isn2, zr_iso, zr_reti, zr_ctm, zr_cat0, zr_cati, zr_cata, zr_catl, zr_cs0, zr_cs1, zr_cs2, zr_cs3, zr_cs4, zr_cs5, zr_cs6, Nat.reduceLeDiff, Option.toList_none, Option.toList_some, List.nil_append, List.cons_append, Nat.le_refl, true_and, Nat.reduceAdd, Nat.reduceSub, Nat.reduceMul, Nat.reduceEqDiff, if_true, if_false, ite_true, ite_false, reduceIte, List.getElem?_cons_zero, List.getElem?_cons_succ]
      exact zk0 h
    | succ m ih =>
      intro t d hm hd
      refine hV.1 6 _ _ _ ?_
      simp -implicitDefEqProofs only [d_JA_fill_0, d_JA_fill_6, d_JA_fill_22, t_JA_fill_0, t_JA_fill_6, t_JA_fill_22, zs_aload_n, zs_aload, zs_iload_n, zs_iload, zs_lload_n, zs_lload, zs_istore_n, zs_istore, zs_lstore_n, zs_lstore, zs_astore_n, zs_astore, zs_iinc, zs_iconst, zs_bipush, zs_sipush, zs_lconst0, zs_lconst1, zs_ldc2_w, zs_ldc_w, zs_iadd, zs_isub, zs_imul, zs_iand, zs_ior, zs_ixor, zs_ishl, zs_ishr, zs_iushr, zs_idiv, zs_irem, zs_ineg, zs_ladd, zs_lsub, zs_lmul, zs_land, zs_lor, zs_lxor, zs_ldiv, zs_lrem, zs_lcmp, zs_lshl, zs_lshr, zs_lushr, zs_i2l, zs_l2i, zs_i2c, zs_dup_i, zs_pop_i, zs_dup_a, zs_pop_a, zs_dup2, zs_pop2, zs_nop, zs_goto, zs_if_eq, zs_icmp_eq, zs_if_ne, zs_icmp_ne, zs_if_lt, zs_icmp_lt, zs_if_ge, zs_icmp_ge, zs_if_gt, zs_icmp_gt, zs_if_le, zs_icmp_le, zs_getf, zs_putf, zs_gets, zs_alen, zs_iald, zs_cald, zs_lald, zs_aald, zs_iast, zs_cast, zs_last, zs_invstatic, zs_invvirtual, zs_invspecial, zs_ireturn, zs_lreturn, zs_areturn, zs_return, zs_tsw, zs_lsw, zr_zva0, zr_zvas, zr_zvai0, zr_zvais, zr_zvi0, zr_zvis, zr_zvii0, zr_zviis, zr_zvl0, zr_zvls, zr_zvli0, zr_zvlis, zr_zs1_0, zr_zs1_1n, zr_zs1_1i, zr_zs1_1a, zr_zs1_1l, zr_zs1_s, zr_zs2_0, zr_zs2_1n, zr_zs2_1i, zr_zs2_1a, zr_zs2_1l, zr_zs2_s, zr_f0, zr_f1, zr_f2, zr_f3, zr_kp, zr_k0, zr_k1, zr_km1, zr_km2, zr_km4, zr_km8, zr_km16, zr_tp, zr_tn, zr_kl, zr_ki, zr_kil, zr_kii, zr_ov, zr_is, zr_cn, zr_cfi, zr_cfl, zr_cfr, zr_cfo, zr_isi, zr_isl, zr_isc, zr_isr, zr_isn0, zr_isn1, zr_isn2, zr_iso, zr_reti, zr_ctm, zr_cat0, zr_cati, zr_cata, zr_catl, zr_cs0, zr_cs1, zr_cs2, zr_cs3, zr_cs4, zr_cs5, zr_cs6, Nat.reduceLeDiff, Option.toList_none, Option.toList_some, List.nil_append, List.cons_append, Nat.le_refl, true_and, Nat.reduceAdd, Nat.reduceSub, Nat.reduceMul, Nat.reduceEqDiff, if_true, if_false, ite_true, ite_false, reduceIte, List.getElem?_cons_zero, List.getElem?_cons_succ, zk_self hi]
      refine ⟨fun q => ?_, fun _ => ⟨zi_in (by omega) (by omega), ?_⟩⟩
      · rw [zi_le (by omega) (by omega)] at q; omega
      simp only [zi_cl (t := t) (by omega), LD_upd, nI_add, List.set_set]
      refine ih (t + 1) _ (by omega) (fun j hj => ?_)
      by_cases h1 : j = t
      · rw [h1, ud_self]
      · rw [ud_ne h1]; exact hd j (by omega)
  refine hV.1 0 _ _ _ ?_
  simp -implicitDefEqProofs only [d_JA_fill_0, d_JA_fill_6, d_JA_fill_22, t_JA_fill_0, t_JA_fill_6, t_JA_fill_22, zs_aload_n, zs_aload, zs_iload_n, zs_iload, zs_lload_n, zs_lload, zs_istore_n, zs_istore, zs_lstore_n, zs_lstore, zs_astore_n, zs_astore, zs_iinc, zs_iconst, zs_bipush, zs_sipush, zs_lconst0, zs_lconst1, zs_ldc2_w, zs_ldc_w, zs_iadd, zs_isub, zs_imul, zs_iand, zs_ior, zs_ixor, zs_ishl, zs_ishr, zs_iushr, zs_idiv, zs_irem, zs_ineg, zs_ladd, zs_lsub, zs_lmul, zs_land, zs_lor, zs_lxor, zs_ldiv, zs_lrem, zs_lcmp, zs_lshl, zs_lshr, zs_lushr, zs_i2l, zs_l2i, zs_i2c, zs_dup_i, zs_pop_i, zs_dup_a, zs_pop_a, zs_dup2, zs_pop2, zs_nop, zs_goto, zs_if_eq, zs_icmp_eq, zs_if_ne, zs_icmp_ne, zs_if_lt, zs_icmp_lt, zs_if_ge, zs_icmp_ge, zs_if_gt, zs_icmp_gt, zs_if_le, zs_icmp_le, zs_getf, zs_putf, zs_gets, zs_alen, zs_iald, zs_cald, zs_lald, zs_aald, zs_iast, zs_cast, zs_last, zs_invstatic, zs_invvirtual, zs_invspecial, zs_ireturn, zs_lreturn, zs_areturn, zs_return, zs_tsw, zs_lsw, zr_zva0, zr_zvas, zr_zvai0, zr_zvais, zr_zvi0, zr_zvis, zr_zvii0, zr_zviis, zr_zvl0, zr_zvls, zr_zvli0, zr_zvlis, zr_zs1_0, zr_zs1_1n, zr_zs1_1i, zr_zs1_1a, zr_zs1_1l, zr_zs1_s, zr_zs2_0, zr_zs2_1n, zr_zs2_1i, zr_zs2_1a, zr_zs2_1l, zr_zs2_s, zr_f0, zr_f1, zr_f2, zr_f3, zr_kp, zr_k0, zr_k1, zr_km1, zr_km2, zr_km4, zr_km8, zr_km16, zr_tp, zr_tn, zr_kl, zr_ki, zr_kil, zr_kii, zr_ov, zr_is, zr_cn, zr_cfi, zr_cfl, zr_cfr, zr_cfo, zr_isi, zr_isl, zr_isc, zr_isr, zr_isn0, zr_isn1, zr_isn2, zr_iso, zr_reti, zr_ctm, zr_cat0, zr_cati, zr_cata, zr_catl, zr_cs0, zr_cs1, zr_cs2, zr_cs3, zr_cs4, zr_cs5, zr_cs6, Nat.reduceLeDiff, Option.toList_none, Option.toList_some, List.nil_append, List.cons_append, Nat.le_refl, true_and, Nat.reduceAdd, Nat.reduceSub, Nat.reduceMul, Nat.reduceEqDiff, if_true, if_false, ite_true, ite_false, reduceIte, List.getElem?_cons_zero, List.getElem?_cons_succ, zk_in hi]
  have h0 := loop n 0 (dg 4294967296 c0) rfl (fun j hj => absurd hj (by omega))
  rw [zk_same hi] at h0
  exact h0
def sp_R_setSmall : zSpec := fun vs σ K => ∃ (i n c x : Nat), vs = [.ref i, .long (lN x)] ∧ σ[i]? = some (LR n c) ∧ 0 < n ∧ n < 1000 ∧ x < 4294967296 ∧ K none (σ.set i (LR n x))
def ct_R_setSmall : List (Nat × Nat × zSpec) := [(45, 2, sp_JA_fill)]
set_option maxRecDepth 100000 in
theorem co_R_setSmall : ∀ q ∈ ct_R_setSmall, zCok "WideWordStack$Row" r_R_setSmall q := by
  intro q hq
  unfold ct_R_setSmall at hq
  simp only [List.mem_cons, List.not_mem_nil, or_false] at hq
  rcases hq with rfl
  · exact Or.inr ⟨15, y_JA_fill, c_JA_fill, 5, none, r_JA_fill, ⟨rfl, rfl, by decide, by decide⟩, zm_JA_fill, Or.inl ⟨rfl, l_R_15⟩⟩
set_option maxHeartbeats 4000000 in
set_option maxRecDepth 100000 in
theorem zm_R_setSmall : ∀ l vs σ K, sp_R_setSmall vs σ K → zMet l y_R_setSmall c_R_setSmall 3 none r_R_setSmall vs σ K := by
  rintro l vs σ K ⟨i, n, c0, x, rfl, hi, hn0, hn, hx, h⟩
  refine zmet_of (own := "WideWordStack$Row") (f := f_R) (kk := kk_R) (t := ct_R_setSmall) (g := g_R) (cd := d_R_setSmall) (by decide +kernel) rfl fo_R ko_R go_R co_R_setSmall k_R_setSmall (Nat.le_of_ble_eq_true rfl) ?_
  intro V hV
  show V 0 [some _, some _, none] [] _
  refine hV.1 0 _ _ _ ?_
  simp -implicitDefEqProofs only [d_R_setSmall_0, t_R_setSmall_0, ct_R_setSmall, zs_aload_n, zs_aload, zs_iload_n, zs_iload, zs_lload_n, zs_lload, zs_istore_n, zs_istore, zs_lstore_n, zs_lstore, zs_astore_n, zs_astore, zs_iinc, zs_iconst, zs_bipush, zs_sipush, zs_lconst0, zs_lconst1, zs_ldc2_w, zs_ldc_w, zs_iadd, zs_isub, zs_imul, zs_iand, zs_ior, zs_ixor, zs_ishl, zs_ishr, zs_iushr, zs_idiv, zs_irem, zs_ineg, zs_ladd, zs_lsub, zs_lmul, zs_land, zs_lor, zs_lxor, zs_ldiv, zs_lrem, zs_lcmp, zs_lshl, zs_lshr, zs_lushr, zs_i2l, zs_l2i, zs_i2c, zs_dup_i, zs_pop_i, zs_dup_a, zs_pop_a, zs_dup2, zs_pop2, zs_nop, zs_goto, zs_if_eq, zs_icmp_eq, zs_if_ne, zs_icmp_ne, zs_if_lt, zs_icmp_lt, zs_if_ge, zs_icmp_ge, zs_if_gt, zs_icmp_gt, zs_if_le, zs_icmp_le, zs_getf, zs_putf, zs_gets, zs_alen, zs_iald, zs_cald, zs_lald, zs_aald, zs_iast, zs_cast, zs_last, zs_invstatic, zs_invvirtual, zs_invspecial, zs_ireturn, zs_lreturn, zs_areturn, zs_return, zs_tsw, zs_lsw, zr_zva0, zr_zvas, zr_zvai0, zr_zvais, zr_zvi0, zr_zvis, zr_zvii0, zr_zviis, zr_zvl0, zr_zvls, zr_zvli0, zr_zvlis, zr_zs1_0, zr_zs1_1n, zr_zs1_1i, zr_zs1_1a, zr_zs1_1l, zr_zs1_s, zr_zs2_0, zr_zs2_1n, zr_zs2_1i, zr_zs2_1a, zr_zs2_1l, zr_zs2_s, zr_f0, zr_f1, zr_f2, zr_f3, zr_kp, zr_k0, zr_k1, zr_km1, zr_km2, zr_km4, zr_km8, zr_km16, zr_tp, zr_tn, zr_kl, zr_ki, zr_kil, zr_kii, zr_ov, zr_is, zr_cn, zr_cfi, zr_cfl, zr_cfr, zr_cfo, zr_isi, zr_isl, zr_isc, zr_isr, zr_isn0, zr_isn1, zr_isn2, zr_iso, zr_reti, zr_ctm, zr_cat0, zr_cati, zr_cata, zr_catl, zr_cs0, zr_cs1, zr_cs2, zr_cs3, zr_cs4, zr_cs5, zr_cs6, Nat.reduceLeDiff, Option.toList_none, Option.toList_some, List.nil_append, List.cons_append, Nat.le_refl, true_and, Nat.reduceAdd, Nat.reduceSub, Nat.reduceMul, Nat.reduceEqDiff, if_true, if_false, ite_true, ite_false, reduceIte, List.getElem?_cons_zero, List.getElem?_cons_succ]
  refine ⟨i, n, c0, 0, 0, rfl, hi, hn, fun j _ => dg_zero _ _, ?_⟩
  simp -implicitDefEqProofs only [d_R_setSmall_0, t_R_setSmall_0, ct_R_setSmall, zs_aload_n, zs_aload, zs_iload_n, zs_iload, zs_lload_n, zs_lload, zs_istore_n, zs_istore, zs_lstore_n, zs_lstore, zs_astore_n, zs_astore, zs_iinc, zs_iconst, zs_bipush, zs_sipush, zs_lconst0, zs_lconst1, zs_ldc2_w, zs_ldc_w, zs_iadd, zs_isub, zs_imul, zs_iand, zs_ior, zs_ixor, zs_ishl, zs_ishr, zs_iushr, zs_idiv, zs_irem, zs_ineg, zs_ladd, zs_lsub, zs_lmul, zs_land, zs_lor, zs_lxor, zs_ldiv, zs_lrem, zs_lcmp, zs_lshl, zs_lshr, zs_lushr, zs_i2l, zs_l2i, zs_i2c, zs_dup_i, zs_pop_i, zs_dup_a, zs_pop_a, zs_dup2, zs_pop2, zs_nop, zs_goto, zs_if_eq, zs_icmp_eq, zs_if_ne, zs_icmp_ne, zs_if_lt, zs_icmp_lt, zs_if_ge, zs_icmp_ge, zs_if_gt, zs_icmp_gt, zs_if_le, zs_icmp_le, zs_getf, zs_putf, zs_gets, zs_alen, zs_iald, zs_cald, zs_lald, zs_aald, zs_iast, zs_cast, zs_last, zs_invstatic, zs_invvirtual, zs_invspecial, zs_ireturn, zs_lreturn, zs_areturn, zs_return, zs_tsw, zs_lsw, zr_zva0, zr_zvas, zr_zvai0, zr_zvais, zr_zvi0, zr_zvis, zr_zvii0, zr_zviis, zr_zvl0, zr_zvls, zr_zvli0, zr_zvlis, zr_zs1_0, zr_zs1_1n, zr_zs1_1i, zr_zs1_1a, zr_zs1_1l, zr_zs1_s, zr_zs2_0, zr_zs2_1n, zr_zs2_1i, zr_zs2_1a, zr_zs2_1l, zr_zs2_s, zr_f0, zr_f1, zr_f2, zr_f3, zr_kp, zr_k0, zr_k1, zr_km1, zr_km2, zr_km4, zr_km8, zr_km16, zr_tp, zr_tn, zr_kl, zr_ki, zr_kil, zr_kii, zr_ov, zr_is, zr_cn, zr_cfi, zr_cfl, zr_cfr, zr_cfo, zr_isi, zr_isl, zr_isc, zr_isr, zr_isn0, zr_isn1, zr_isn2, zr_iso, zr_reti, zr_ctm, zr_cat0, zr_cati, zr_cata, zr_catl, zr_cs0, zr_cs1, zr_cs2, zr_cs3, zr_cs4, zr_cs5, zr_cs6, Nat.reduceLeDiff, Option.toList_none, Option.toList_some, List.nil_append, List.cons_append, Nat.le_refl, true_and, Nat.reduceAdd, Nat.reduceSub, Nat.reduceMul, Nat.reduceEqDiff, if_true, if_false, ite_true, ite_false, reduceIte, List.getElem?_cons_zero, List.getElem?_cons_succ, zk_self hi]
  refine ⟨zi_in hn0 (by omega), ?_⟩
  simp only [zi_cl (t := 0) (by decide), LD_upd, List.set_set]
  refine zk1 (LD_sim (fun j hj => ?_)) h
  by_cases h1 : j = 0
  · subst h1; rw [ud_self]; simp [dg, Nat.mod_eq_of_lt hx]
  · rw [ud_ne h1, dg_zero]
    unfold dg
    rw [Nat.div_eq_of_lt, Nat.zero_mod]
    exact Nat.lt_of_lt_of_le hx (by
      have := Nat.pow_le_pow_right (n := 4294967296) (by decide) (show 1 ≤ j by omega)
      simpa using this)
def sp_R_isNegative : zSpec := fun vs σ K => ∃ (i v : Nat), vs = [.ref i] ∧ zlook σ i = some (LR 8 v) ∧ v < 4294967296 ^ 8 ∧ K (some (.int (if 4294967296 ^ 8 ≤ 2 * v then nI 1 else nI 0))) σ
def ct_R_isNegative : List (Nat × Nat × zSpec) := []
set_option maxRecDepth 100000 in
theorem co_R_isNegative : ∀ q ∈ ct_R_isNegative, zCok "WideWordStack$Row" r_R_isNegative q := by
  intro q hq
  unfold ct_R_isNegative at hq
  cases hq
set_option maxHeartbeats 4000000 in
set_option maxRecDepth 100000 in
theorem zm_R_isNegative : ∀ l vs σ K, sp_R_isNegative vs σ K → zMet l y_R_isNegative c_R_isNegative 1 (some .boolean) r_R_isNegative vs σ K := by
  rintro l vs σ K ⟨i, v, rfl, hi, hv, h⟩
  refine zmet_of (own := "WideWordStack$Row") (f := f_R) (kk := kk_R) (t := ct_R_isNegative) (g := g_R) (cd := d_R_isNegative) (by decide +kernel) rfl fo_R ko_R go_R co_R_isNegative k_R_isNegative (Nat.le_of_ble_eq_true rfl) ?_
  intro V hV
  show V 0 [some _] [] _
  refine hV.1 0 _ _ _ ?_
  simp -implicitDefEqProofs only [d_R_isNegative_0, d_R_isNegative_15, d_R_isNegative_16, t_R_isNegative_0, t_R_isNegative_15, t_R_isNegative_16, kk_R_23, zs_aload_n, zs_aload, zs_iload_n, zs_iload, zs_lload_n, zs_lload, zs_istore_n, zs_istore, zs_lstore_n, zs_lstore, zs_astore_n, zs_astore, zs_iinc, zs_iconst, zs_bipush, zs_sipush, zs_lconst0, zs_lconst1, zs_ldc2_w, zs_ldc_w, zs_iadd, zs_isub, zs_imul, zs_iand, zs_ior, zs_ixor, zs_ishl, zs_ishr, zs_iushr, zs_idiv, zs_irem, zs_ineg, zs_ladd, zs_lsub, zs_lmul, zs_land, zs_lor, zs_lxor, zs_ldiv, zs_lrem, zs_lcmp, zs_lshl, zs_lshr, zs_lushr, zs_i2l, zs_l2i, zs_i2c, zs_dup_i, zs_pop_i, zs_dup_a, zs_pop_a, zs_dup2, zs_pop2, zs_nop, zs_goto, zs_if_eq, zs_icmp_eq, zs_if_ne, zs_icmp_ne, zs_if_lt, zs_icmp_lt, zs_if_ge, zs_icmp_ge, zs_if_gt, zs_icmp_gt, zs_if_le, zs_icmp_le, zs_getf, zs_putf, zs_gets, zs_alen, zs_iald, zs_cald, zs_lald, zs_aald, zs_iast, zs_cast, zs_last, zs_invstatic, zs_invvirtual, zs_invspecial, zs_ireturn, zs_lreturn, zs_areturn, zs_return, zs_tsw, zs_lsw, zr_zva0, zr_zvas, zr_zvai0, zr_zvais, zr_zvi0, zr_zvis, zr_zvii0, zr_zviis, zr_zvl0, zr_zvls, zr_zvli0, zr_zvlis, zr_zs1_0, zr_zs1_1n, zr_zs1_1i, zr_zs1_1a, zr_zs1_1l, zr_zs1_s, zr_zs2_0, zr_zs2_1n, zr_zs2_1i, zr_zs2_1a, zr_zs2_1l, zr_zs2_s, zr_f0, zr_f1, zr_f2, zr_f3, zr_kp, zr_k0, zr_k1, zr_km1, zr_km2, zr_km4, zr_km8, zr_km16, zr_tp, zr_tn, zr_kl, zr_ki, zr_kil, zr_kii, zr_ov, zr_is, zr_cn, zr_cfi, zr_cfl, zr_cfr, zr_cfo, zr_isi, zr_isl, zr_isc, zr_isr, zr_isn0, zr_isn1, zr_isn2, zr_iso, zr_reti, zr_ctm, zr_cat0, zr_cati, zr_cata, zr_catl, zr_cs0, zr_cs1, zr_cs2, zr_cs3, zr_cs4, zr_cs5, zr_cs6, Nat.reduceLeDiff, Option.toList_none, Option.toList_some, List.nil_append, List.cons_append, Nat.le_refl, true_and, Nat.reduceAdd, Nat.reduceSub, Nat.reduceMul, Nat.reduceEqDiff, if_true, if_false, ite_true, ite_false, reduceIte, List.getElem?_cons_zero, List.getElem?_cons_succ, hi]
  have h7 : dg 4294967296 v 7 = v / 4294967296 ^ 7 := Nat.mod_eq_of_lt (Nat.div_lt_of_lt_mul (by rw [← Nat.pow_succ]; exact hv))
  have h8 := dg_lt (b := 4294967296) (by decide) v 7
  simp only [zi_cl (t := 7) (by decide), zl_clt (a := dg 4294967296 v 7) (b := 2147483648) (by omega) (by decide)]
  refine ⟨zi_in (by decide) (by decide), fun q => ?_, fun q => ?_⟩
  · refine hV.1 15 _ _ _ ?_
    simp -implicitDefEqProofs only [d_R_isNegative_0, d_R_isNegative_15, d_R_isNegative_16, t_R_isNegative_0, t_R_isNegative_15, t_R_isNegative_16, kk_R_23, zs_aload_n, zs_aload, zs_iload_n, zs_iload, zs_lload_n, zs_lload, zs_istore_n, zs_istore, zs_lstore_n, zs_lstore, zs_astore_n, zs_astore, zs_iinc, zs_iconst, zs_bipush, zs_sipush, zs_lconst0, zs_lconst1, zs_ldc2_w, zs_ldc_w, zs_iadd, zs_isub, zs_imul, zs_iand, zs_ior, zs_ixor, zs_ishl, zs_ishr, zs_iushr, zs_idiv, zs_irem, zs_ineg, zs_ladd, zs_lsub, zs_lmul, zs_land, zs_lor, zs_lxor, zs_ldiv, zs_lrem, zs_lcmp, zs_lshl, zs_lshr, zs_lushr, zs_i2l, zs_l2i, zs_i2c, zs_dup_i, zs_pop_i, zs_dup_a, zs_pop_a, zs_dup2, zs_pop2, zs_nop, zs_goto, zs_if_eq, zs_icmp_eq, zs_if_ne, zs_icmp_ne, zs_if_lt, zs_icmp_lt, zs_if_ge, zs_icmp_ge, zs_if_gt, zs_icmp_gt, zs_if_le, zs_icmp_le, zs_getf, zs_putf, zs_gets, zs_alen, zs_iald, zs_cald, zs_lald, zs_aald, zs_iast, zs_cast, zs_last, zs_invstatic, zs_invvirtual, zs_invspecial, zs_ireturn, zs_lreturn, zs_areturn, zs_return, zs_tsw, zs_lsw, zr_zva0, zr_zvas, zr_zvai0, zr_zvais, zr_zvi0, zr_zvis, zr_zvii0, zr_zviis, zr_zvl0, zr_zvls, zr_zvli0, zr_zvlis, zr_zs1_0, zr_zs1_1n, zr_zs1_1i, zr_zs1_1a, zr_zs1_1l, zr_zs1_s, zr_zs2_0, zr_zs2_1n, zr_zs2_1i, zr_zs2_1a, zr_zs2_1l, zr_zs2_s, zr_f0, zr_f1, zr_f2, zr_f3, zr_kp, zr_k0, zr_k1, zr_km1, zr_km2, zr_km4, zr_km8, zr_km16, zr_tp, zr_tn, zr_kl, zr_ki, zr_kil, zr_kii, zr_ov, zr_is, zr_cn, zr_cfi, zr_cfl, zr_cfr, zr_cfo, zr_isi, zr_isl, zr_isc, zr_isr, zr_isn0, zr_isn1, zr_isn2, zr_iso, zr_reti, zr_ctm, zr_cat0, zr_cati, zr_cata, zr_catl, zr_cs0, zr_cs1, zr_cs2, zr_cs3, zr_cs4, zr_cs5, zr_cs6, Nat.reduceLeDiff, Option.toList_none, Option.toList_some, List.nil_append, List.cons_append, Nat.le_refl, true_and, Nat.reduceAdd, Nat.reduceSub, Nat.reduceMul, Nat.reduceEqDiff, if_true, if_false, ite_true, ite_false, reduceIte, List.getElem?_cons_zero, List.getElem?_cons_succ]
    refine ⟨Or.inl rfl, zk0 ?_⟩
    rw [if_neg (by omega)] at h
    exact h
  · refine hV.1 16 _ _ _ ?_
    simp -implicitDefEqProofs only [d_R_isNegative_0, d_R_isNegative_15, d_R_isNegative_16, t_R_isNegative_0, t_R_isNegative_15, t_R_isNegative_16, kk_R_23, zs_aload_n, zs_aload, zs_iload_n, zs_iload, zs_lload_n, zs_lload, zs_istore_n, zs_istore, zs_lstore_n, zs_lstore, zs_astore_n, zs_astore, zs_iinc, zs_iconst, zs_bipush, zs_sipush, zs_lconst0, zs_lconst1, zs_ldc2_w, zs_ldc_w, zs_iadd, zs_isub, zs_imul, zs_iand, zs_ior, zs_ixor, zs_ishl, zs_ishr, zs_iushr, zs_idiv, zs_irem, zs_ineg, zs_ladd, zs_lsub, zs_lmul, zs_land, zs_lor, zs_lxor, zs_ldiv, zs_lrem, zs_lcmp, zs_lshl, zs_lshr, zs_lushr, zs_i2l, zs_l2i, zs_i2c, zs_dup_i, zs_pop_i, zs_dup_a, zs_pop_a, zs_dup2, zs_pop2, zs_nop, zs_goto, zs_if_eq, zs_icmp_eq, zs_if_ne, zs_icmp_ne, zs_if_lt, zs_icmp_lt, zs_if_ge, zs_icmp_ge, zs_if_gt, zs_icmp_gt, zs_if_le, zs_icmp_le, zs_getf, zs_putf, zs_gets, zs_alen, zs_iald, zs_cald, zs_lald, zs_aald, zs_iast, zs_cast, zs_last, zs_invstatic, zs_invvirtual, zs_invspecial, zs_ireturn, zs_lreturn, zs_areturn, zs_return, zs_tsw, zs_lsw, zr_zva0, zr_zvas, zr_zvai0, zr_zvais, zr_zvi0, zr_zvis, zr_zvii0, zr_zviis, zr_zvl0, zr_zvls, zr_zvli0, zr_zvlis, zr_zs1_0, zr_zs1_1n, zr_zs1_1i, zr_zs1_1a, zr_zs1_1l, zr_zs1_s, zr_zs2_0, zr_zs2_1n, zr_zs2_1i, zr_zs2_1a, zr_zs2_1l, zr_zs2_s, zr_f0, zr_f1, zr_f2, zr_f3, zr_kp, zr_k0, zr_k1, zr_km1, zr_km2, zr_km4, zr_km8, zr_km16, zr_tp, zr_tn, zr_kl, zr_ki, zr_kil, zr_kii, zr_ov, zr_is, zr_cn, zr_cfi, zr_cfl, zr_cfr, zr_cfo, zr_isi, zr_isl, zr_isc, zr_isr, zr_isn0, zr_isn1, zr_isn2, zr_iso, zr_reti, zr_ctm, zr_cat0, zr_cati, zr_cata, zr_catl, zr_cs0, zr_cs1, zr_cs2, zr_cs3, zr_cs4, zr_cs5, zr_cs6, Nat.reduceLeDiff, Option.toList_none, Option.toList_some, List.nil_append, List.cons_append, Nat.le_refl, true_and, Nat.reduceAdd, Nat.reduceSub, Nat.reduceMul, Nat.reduceEqDiff, if_true, if_false, ite_true, ite_false, reduceIte, List.getElem?_cons_zero, List.getElem?_cons_succ]
    refine ⟨Or.inr rfl, zk0 ?_⟩
    rw [if_pos (by omega)] at h
    exact h
def sp_R_bitAt : zSpec := fun vs σ K => ∃ (i n v k : Nat), vs = [.ref i, .int (nI k)] ∧ zlook σ i = some (LR n v) ∧ n < 1000 ∧ k < 32 * n ∧ K (some (.long (lN (v / 2 ^ k % 2)))) σ
def ct_R_bitAt : List (Nat × Nat × zSpec) := []
set_option maxRecDepth 100000 in
theorem co_R_bitAt : ∀ q ∈ ct_R_bitAt, zCok "WideWordStack$Row" r_R_bitAt q := by
  intro q hq
  unfold ct_R_bitAt at hq
  cases hq
set_option maxHeartbeats 4000000 in
set_option maxRecDepth 100000 in
theorem zm_R_bitAt : ∀ l vs σ K, sp_R_bitAt vs σ K → zMet l y_R_bitAt c_R_bitAt 2 (some .long) r_R_bitAt vs σ K := by
  rintro l vs σ K ⟨i, n, v, k, rfl, hi, hn, hk, h⟩
  refine zmet_of (own := "WideWordStack$Row") (f := f_R) (kk := kk_R) (t := ct_R_bitAt) (g := g_R) (cd := d_R_bitAt) (by decide +kernel) rfl fo_R ko_R go_R co_R_bitAt k_R_bitAt (Nat.le_of_ble_eq_true rfl) ?_
  intro V hV
  show V 0 [some _, some _] [] _
  refine hV.1 0 _ _ _ ?_
  simp -implicitDefEqProofs only [d_R_bitAt_0, t_R_bitAt_0, zs_aload_n, zs_aload, zs_iload_n, zs_iload, zs_lload_n, zs_lload, zs_istore_n, zs_istore, zs_lstore_n, zs_lstore, zs_astore_n, zs_astore, zs_iinc, zs_iconst, zs_bipush, zs_sipush, zs_lconst0, zs_lconst1, zs_ldc2_w, zs_ldc_w, zs_iadd, zs_isub, zs_imul, zs_iand, zs_ior, zs_ixor, zs_ishl, zs_ishr, zs_iushr, zs_idiv, zs_irem, zs_ineg, zs_ladd, zs_lsub, zs_lmul, zs_land, zs_lor, zs_lxor, zs_ldiv, zs_lrem, zs_lcmp, zs_lshl, zs_lshr, zs_lushr, zs_i2l, zs_l2i, zs_i2c, zs_dup_i, zs_pop_i, zs_dup_a, zs_pop_a, zs_dup2, zs_pop2, zs_nop, zs_goto, zs_if_eq, zs_icmp_eq, zs_if_ne, zs_icmp_ne, zs_if_lt, zs_icmp_lt, zs_if_ge, zs_icmp_ge, zs_if_gt, zs_icmp_gt, zs_if_le, zs_icmp_le, zs_getf, zs_putf, zs_gets, zs_alen, zs_iald, zs_cald, zs_lald, zs_aald, zs_iast, zs_cast, zs_last, zs_invstatic, zs_invvirtual, zs_invspecial, zs_ireturn, zs_lreturn, zs_areturn, zs_return, zs_tsw, zs_lsw, zr_zva0, zr_zvas, zr_zvai0, zr_zvais, zr_zvi0, zr_zvis, zr_zvii0, zr_zviis, zr_zvl0, zr_zvls, zr_zvli0, zr_zvlis, zr_zs1_0, zr_zs1_1n, zr_zs1_1i, zr_zs1_1a, zr_zs1_1l, zr_zs1_s, zr_zs2_0, zr_zs2_1n, zr_zs2_1i, zr_zs2_1a, zr_zs2_1l, zr_zs2_s, zr_f0, zr_f1, zr_f2, zr_f3, zr_kp, zr_k0, zr_k1, zr_km1, zr_km2, zr_km4, zr_km8, zr_km16, zr_tp, zr_tn, zr_kl, zr_ki, zr_kil, zr_kii, zr_ov, zr_is, zr_cn, zr_cfi, zr_cfl, zr_cfr, zr_cfo, zr_isi, zr_isl, zr_isc, zr_isr, zr_isn0, zr_isn1, zr_isn2, zr_iso, zr_reti, zr_ctm, zr_cat0, zr_cati, zr_cata, zr_catl, zr_cs0, zr_cs1, zr_cs2, zr_cs3, zr_cs4, zr_cs5, zr_cs6, Nat.reduceLeDiff, Option.toList_none, Option.toList_some, List.nil_append, List.cons_append, Nat.le_refl, true_and, Nat.reduceAdd, Nat.reduceSub, Nat.reduceMul, Nat.reduceEqDiff, if_true, if_false, ite_true, ite_false, reduceIte, List.getElem?_cons_zero, List.getElem?_cons_succ, hi]
  have hd := dg_lt (b := 4294967296) (by decide) v (k / 32)
  have hd2 : dg 4294967296 v (k / 32) / 2 ^ (k % 32) ≤ dg 4294967296 v (k / 32) := Nat.div_le_self _ _
  rw [zi_rem (by omega) (by decide) (by decide), zi_div (by omega) (by decide) (by decide), zi_cl (by omega), wb_shr (by omega) (by omega), zl_and1 (by omega)]
  refine ⟨by decide, zi_in (by omega) (by omega), by decide, zk0 ?_⟩
  have e := dg_pick (b := 2) (m := 32) (v := v) (q := k / 32) (r := k % 32) (by omega)
  rw [show 32 * (k / 32) + k % 32 = k by omega] at e
  rw [show dg 4294967296 v (k / 32) / 2 ^ (k % 32) % 2 = v / 2 ^ k % 2 from e]
  exact h
def sp_R_byteAt : zSpec := fun vs σ K => ∃ (i n v k : Nat), vs = [.ref i, .int (nI k)] ∧ zlook σ i = some (LR n v) ∧ n < 1000 ∧ k < 4 * n ∧ K (some (.int (nI (v / 256 ^ k % 256)))) σ
def ct_R_byteAt : List (Nat × Nat × zSpec) := []
set_option maxRecDepth 100000 in
theorem co_R_byteAt : ∀ q ∈ ct_R_byteAt, zCok "WideWordStack$Row" r_R_byteAt q := by
  intro q hq
  unfold ct_R_byteAt at hq
  cases hq
set_option maxHeartbeats 4000000 in
set_option maxRecDepth 100000 in
theorem zm_R_byteAt : ∀ l vs σ K, sp_R_byteAt vs σ K → zMet l y_R_byteAt c_R_byteAt 2 (some .int) r_R_byteAt vs σ K := by
  rintro l vs σ K ⟨i, n, v, k, rfl, hi, hn, hk, h⟩
  refine zmet_of (own := "WideWordStack$Row") (f := f_R) (kk := kk_R) (t := ct_R_byteAt) (g := g_R) (cd := d_R_byteAt) (by decide +kernel) rfl fo_R ko_R go_R co_R_byteAt k_R_byteAt (Nat.le_of_ble_eq_true rfl) ?_
  intro V hV
  show V 0 [some _, some _] [] _
  refine hV.1 0 _ _ _ ?_
  simp -implicitDefEqProofs only [d_R_byteAt_0, t_R_byteAt_0, kk_R_31, zs_aload_n, zs_aload, zs_iload_n, zs_iload, zs_lload_n, zs_lload, zs_istore_n, zs_istore, zs_lstore_n, zs_lstore, zs_astore_n, zs_astore, zs_iinc, zs_iconst, zs_bipush, zs_sipush, zs_lconst0, zs_lconst1, zs_ldc2_w, zs_ldc_w, zs_iadd, zs_isub, zs_imul, zs_iand, zs_ior, zs_ixor, zs_ishl, zs_ishr, zs_iushr, zs_idiv, zs_irem, zs_ineg, zs_ladd, zs_lsub, zs_lmul, zs_land, zs_lor, zs_lxor, zs_ldiv, zs_lrem, zs_lcmp, zs_lshl, zs_lshr, zs_lushr, zs_i2l, zs_l2i, zs_i2c, zs_dup_i, zs_pop_i, zs_dup_a, zs_pop_a, zs_dup2, zs_pop2, zs_nop, zs_goto, zs_if_eq, zs_icmp_eq, zs_if_ne, zs_icmp_ne, zs_if_lt, zs_icmp_lt, zs_if_ge, zs_icmp_ge, zs_if_gt, zs_icmp_gt, zs_if_le, zs_icmp_le, zs_getf, zs_putf, zs_gets, zs_alen, zs_iald, zs_cald, zs_lald, zs_aald, zs_iast, zs_cast, zs_last, zs_invstatic, zs_invvirtual, zs_invspecial, zs_ireturn, zs_lreturn, zs_areturn, zs_return, zs_tsw, zs_lsw, zr_zva0, zr_zvas, zr_zvai0, zr_zvais, zr_zvi0, zr_zvis, zr_zvii0, zr_zviis, zr_zvl0, zr_zvls, zr_zvli0, zr_zvlis, zr_zs1_0, zr_zs1_1n, zr_zs1_1i, zr_zs1_1a, zr_zs1_1l, zr_zs1_s, zr_zs2_0, zr_zs2_1n, zr_zs2_1i, zr_zs2_1a, zr_zs2_1l, zr_zs2_s, zr_f0, zr_f1, zr_f2, zr_f3, zr_kp, zr_k0, zr_k1, zr_km1, zr_km2, zr_km4, zr_km8, zr_km16, zr_tp, zr_tn, zr_kl, zr_ki, zr_kil, zr_kii, zr_ov, zr_is, zr_cn, zr_cfi, zr_cfl, zr_cfr, zr_cfo, zr_isi, zr_isl, zr_isc, zr_isr, zr_isn0, zr_isn1, zr_isn2, zr_iso, zr_reti, zr_ctm, zr_cat0, zr_cati, zr_cata, zr_catl, zr_cs0, zr_cs1, zr_cs2, zr_cs3, zr_cs4, zr_cs5, zr_cs6, Nat.reduceLeDiff, Option.toList_none, Option.toList_some, List.nil_append, List.cons_append, Nat.le_refl, true_and, Nat.reduceAdd, Nat.reduceSub, Nat.reduceMul, Nat.reduceEqDiff, if_true, if_false, ite_true, ite_false, reduceIte, List.getElem?_cons_zero, List.getElem?_cons_succ, hi]
  have hd := dg_lt (b := 4294967296) (by decide) v (k / 4)
  have hd2 : dg 4294967296 v (k / 4) / 2 ^ (8 * (k % 4)) ≤ dg 4294967296 v (k / 4) := Nat.div_le_self _ _
  rw [zi_rem (by omega) (by decide) (by decide), zi_div (by omega) (by decide) (by decide), zi_mul, zi_cl (by omega), wb_shr (by omega) (by omega), zl_and255 (by omega), lN_i]
  refine ⟨by decide, zi_in (by omega) (by omega), by decide, zk0 ?_⟩
  have e := dg_pick (b := 256) (m := 4) (v := v) (q := k / 4) (r := k % 4) (by omega)
  rw [show 4 * (k / 4) + k % 4 = k by omega] at e
  have e2 : (2 : Nat) ^ (8 * (k % 4)) = 256 ^ (k % 4) := by rw [Nat.pow_mul]
  rw [e2, show dg 4294967296 v (k / 4) / 256 ^ (k % 4) % 256 = v / 256 ^ k % 256 from e]
  exact h
def sp_R_isZero : zSpec := fun vs σ K => ∃ (i n v : Nat), vs = [.ref i] ∧ zlook σ i = some (LR n v) ∧ n < 1000 ∧ v < 4294967296 ^ n ∧ K (some (.int (if v = 0 then nI 1 else nI 0))) σ
def ct_R_isZero : List (Nat × Nat × zSpec) := []
set_option maxRecDepth 100000 in
theorem co_R_isZero : ∀ q ∈ ct_R_isZero, zCok "WideWordStack$Row" r_R_isZero q := by
  intro q hq
  unfold ct_R_isZero at hq
  cases hq
set_option maxHeartbeats 4000000 in
set_option maxRecDepth 100000 in
theorem zm_R_isZero : ∀ l vs σ K, sp_R_isZero vs σ K → zMet l y_R_isZero c_R_isZero 2 (some .boolean) r_R_isZero vs σ K := by
  rintro l vs σ K ⟨i, n, v, rfl, hi, hn, hv, h⟩
  refine zmet_of (own := "WideWordStack$Row") (f := f_R) (kk := kk_R) (t := ct_R_isZero) (g := g_R) (cd := d_R_isZero) (by decide +kernel) rfl fo_R ko_R go_R co_R_isZero k_R_isZero (Nat.le_of_ble_eq_true rfl) ?_
  intro V hV
  show V 0 [some _, none] [] _
  have loop : ∀ (m t : Nat), m + t = n → (∀ j, j < t → dg 4294967296 v j = 0) → V 2 [some (.ref i), some (.int (nI t))] [] σ := by
    intro m
    induction m with
    | zero =>
      intro t hm hd
      have ht : t = n := by omega
      subst ht
      refine hV.1 2 _ _ _ ?_
      simp -implicitDefEqProofs only [d_R_isZero_0, d_R_isZero_2, d_R_isZero_18, d_R_isZero_24, t_R_isZero_0, t_R_isZero_2, t_R_isZero_18, t_R_isZero_24, zs_aload_n, zs_aload, zs_iload_n, zs_iload, zs_lload_n, zs_lload, zs_istore_n, zs_istore, zs_lstore_n, zs_lstore, zs_astore_n, zs_astore, zs_iinc, zs_iconst, zs_bipush, zs_sipush, zs_lconst0, zs_lconst1, zs_ldc2_w, zs_ldc_w, zs_iadd, zs_isub, zs_imul, zs_iand, zs_ior, zs_ixor, zs_ishl, zs_ishr, zs_iushr, zs_idiv, zs_irem, zs_ineg, zs_ladd, zs_lsub, zs_lmul, zs_land, zs_lor, zs_lxor, zs_ldiv, zs_lrem, zs_lcmp, zs_lshl, zs_lshr, zs_lushr, zs_i2l, zs_l2i, zs_i2c, zs_dup_i, zs_pop_i, zs_dup_a, zs_pop_a, zs_dup2, zs_pop2, zs_nop, zs_goto, zs_if_eq, zs_icmp_eq, zs_if_ne, zs_icmp_ne, zs_if_lt, zs_icmp_lt, zs_if_ge, zs_icmp_ge, zs_if_gt, zs_icmp_gt, zs_if_le, zs_icmp_le, zs_getf, zs_putf, zs_gets, zs_alen, zs_iald, zs_cald, zs_lald, zs_aald, zs_iast, zs_cast, zs_last, zs_invstatic, zs_invvirtual, zs_invspecial, zs_ireturn, zs_lreturn, zs_areturn, zs_return, zs_tsw, zs_lsw, zr_zva0, zr_zvas, zr_zvai0, zr_zvais, zr_zvi0, zr_zvis, zr_zvii0, zr_zviis, zr_zvl0, zr_zvls, zr_zvli0, zr_zvlis, zr_zs1_0, zr_zs1_1n, zr_zs1_1i, zr_zs1_1a, zr_zs1_1l, zr_zs1_s, zr_zs2_0, zr_zs2_1n, zr_zs2_1i, zr_zs2_1a, zr_zs2_1l, zr_zs2_s, zr_f0, zr_f1, zr_f2, zr_f3, zr_kp, zr_k0, zr_k1, zr_km1, zr_km2, zr_km4, zr_km8, zr_km16, zr_tp, zr_tn, zr_kl, zr_ki, zr_kil, zr_kii, zr_ov, zr_is, zr_cn, zr_cfi, zr_cfl, zr_cfr, zr_cfo, zr_isi, zr_isl, zr_isc, zr_isr, zr_isn0, zr_isn1, zr_isn2, zr_iso, zr_reti, zr_ctm, zr_cat0, zr_cati, zr_cata, zr_catl, zr_cs0, zr_cs1, zr_cs2, zr_cs3, zr_cs4, zr_cs5, zr_cs6, Nat.reduceLeDiff, Option.toList_none, Option.toList_some, List.nil_append, List.cons_append, Nat.le_refl, true_and, Nat.reduceAdd, Nat.reduceSub, Nat.reduceMul, Nat.reduceEqDiff, if_true, if_false, ite_true, ite_false, reduceIte, List.getElem?_cons_zero, List.getElem?_cons_succ, hi]
      refine ⟨fun _ => ?_, fun q => absurd (Int32.le_refl _) q⟩
      have hz : v = 0 := dg_ext hv (Nat.pow_pos (by decide)) (fun j hj => by rw [hd j hj, dg_zero])
      refine hV.1 24 _ _ _ ?_
      simp -implicitDefEqProofs only [d_R_isZero_0, d_R_isZero_2, d_R_isZero_18, d_R_isZero_24, t_R_isZero_0, t_R_isZero_2, t_R_isZero_18, t_R_isZero_24, zs_aload_n, zs_aload, zs_iload_n, zs_iload, zs_lload_n, zs_lload, zs_istore_n, zs_istore, zs_lstore_n, zs_lstore, zs_astore_n, zs_astore, zs_iinc, zs_iconst, zs_bipush, zs_sipush, zs_lconst0, zs_lconst1, zs_ldc2_w, zs_ldc_w, zs_iadd, zs_isub, zs_imul, zs_iand, zs_ior, zs_ixor, zs_ishl, zs_ishr, zs_iushr, zs_idiv, zs_irem, zs_ineg, zs_ladd, zs_lsub, zs_lmul, zs_land, zs_lor, zs_lxor, zs_ldiv, zs_lrem, zs_lcmp, zs_lshl, zs_lshr, zs_lushr, zs_i2l, zs_l2i, zs_i2c, zs_dup_i, zs_pop_i, zs_dup_a, zs_pop_a, zs_dup2, zs_pop2, zs_nop, zs_goto, zs_if_eq, zs_icmp_eq, zs_if_ne, zs_icmp_ne, zs_if_lt, zs_icmp_lt, zs_if_ge, zs_icmp_ge, zs_if_gt, zs_icmp_gt, zs_if_le, zs_icmp_le, zs_getf, zs_putf, zs_gets, zs_alen, zs_iald, zs_cald, zs_lald, zs_aald, zs_iast, zs_cast, zs_last, zs_invstatic, zs_invvirtual, zs_invspecial, zs_ireturn, zs_lreturn, zs_areturn, zs_return, zs_tsw, zs_lsw, zr_zva0, zr_zvas, zr_zvai0, zr_zvais, zr_zvi0, zr_zvis, zr_zvii0, zr_zviis, zr_zvl0, zr_zvls, zr_zvli0, zr_zvlis, zr_zs1_0, zr_zs1_1n, zr_zs1_1i, zr_zs1_1a, zr_zs1_1l, zr_zs1_s, zr_zs2_0, zr_zs2_1n, zr_zs2_1i, zr_zs2_1a, zr_zs2_1l, zr_zs2_s, zr_f0, zr_f1, zr_f2, zr_f3, zr_kp, zr_k0, zr_k1, zr_km1, zr_km2, zr_km4, zr_km8, zr_km16, zr_tp, zr_tn, zr_kl, zr_ki, zr_kil, zr_kii, zr_ov, zr_is, zr_cn, zr_cfi, zr_cfl, zr_cfr, zr_cfo, zr_isi, zr_isl, zr_isc, zr_isr, zr_isn0, zr_isn1, zr_isn2, zr_iso, zr_reti, zr_ctm, zr_cat0, zr_cati, zr_cata, zr_catl, zr_cs0, zr_cs1, zr_cs2, zr_cs3, zr_cs4, zr_cs5, zr_cs6, Nat.reduceLeDiff, Option.toList_none, Option.toList_some, List.nil_append, List.cons_append, Nat.le_refl, true_and, Nat.reduceAdd, Nat.reduceSub, Nat.reduceMul, Nat.reduceEqDiff, if_true, if_false, ite_true, ite_false, reduceIte, List.getElem?_cons_zero, List.getElem?_cons_succ]
      refine ⟨Or.inr rfl, zk0 ?_⟩
      rw [if_pos hz] at h
      exact h
    | succ m ih =>
      intro t hm hd
      refine hV.1 2 _ _ _ ?_
      simp -implicitDefEqProofs only [d_R_isZero_0, d_R_isZero_2, d_R_isZero_18, d_R_isZero_24, t_R_isZero_0, t_R_isZero_2, t_R_isZero_18, t_R_isZero_24, zs_aload_n, zs_aload, zs_iload_n, zs_iload, zs_lload_n, zs_lload, zs_istore_n, zs_istore, zs_lstore_n, zs_lstore, zs_astore_n, zs_astore, zs_iinc, zs_iconst, zs_bipush, zs_sipush, zs_lconst0, zs_lconst1, zs_ldc2_w, zs_ldc_w, zs_iadd, zs_isub, zs_imul, zs_iand, zs_ior, zs_ixor, zs_ishl, zs_ishr, zs_iushr, zs_idiv, zs_irem, zs_ineg, zs_ladd, zs_lsub, zs_lmul, zs_land, zs_lor, zs_lxor, zs_ldiv, zs_lrem, zs_lcmp, zs_lshl, zs_lshr, zs_lushr, zs_i2l, zs_l2i, zs_i2c, zs_dup_i, zs_pop_i, zs_dup_a, zs_pop_a, zs_dup2, zs_pop2, zs_nop, zs_goto, zs_if_eq, zs_icmp_eq, zs_if_ne, zs_icmp_ne, zs_if_lt, zs_icmp_lt, zs_if_ge, zs_icmp_ge, zs_if_gt, zs_icmp_gt, zs_if_le, zs_icmp_le, zs_getf, zs_putf, zs_gets, zs_alen, zs_iald, zs_cald, zs_lald, zs_aald, zs_iast, zs_cast, zs_last, zs_invstatic, zs_invvirtual, zs_invspecial, zs_ireturn, zs_lreturn, zs_areturn, zs_return, zs_tsw, zs_lsw, zr_zva0, zr_zvas, zr_zvai0, zr_zvais, zr_zvi0, zr_zvis, zr_zvii0, zr_zviis, zr_zvl0, zr_zvls, zr_zvli0, zr_zvlis, zr_zs1_0, zr_zs1_1n, zr_zs1_1i, zr_zs1_1a, zr_zs1_1l, zr_zs1_s, zr_zs2_0, zr_zs2_1n, zr_zs2_1i, zr_zs2_1a, zr_zs2_1l, zr_zs2_s, zr_f0, zr_f1, zr_f2, zr_f3, zr_kp, zr_k0, zr_k1, zr_km1, zr_km2, zr_km4, zr_km8, zr_km16, zr_tp, zr_tn, zr_kl, zr_ki, zr_kil, zr_kii, zr_ov, zr_is, zr_cn, zr_cfi, zr_cfl, zr_cfr, zr_cfo, zr_isi, zr_isl, zr_isc, zr_isr, zr_isn0, zr_isn1, zr_isn2, zr_iso, zr_reti, zr_ctm, zr_cat0, zr_cati, zr_cata, zr_catl, zr_cs0, zr_cs1, zr_cs2, zr_cs3, zr_cs4, zr_cs5, zr_cs6, Nat.reduceLeDiff, Option.toList_none, Option.toList_some, List.nil_append, List.cons_append, Nat.le_refl, true_and, Nat.reduceAdd, Nat.reduceSub, Nat.reduceMul, Nat.reduceEqDiff, if_true, if_false, ite_true, ite_false, reduceIte, List.getElem?_cons_zero, List.getElem?_cons_succ, hi]
      have h8 := dg_lt (b := 4294967296) (by decide) v t
      simp only [zi_cl (t := t) (by omega), zl_ceq (a := dg 4294967296 v t) (b := 0) (by omega) (by decide), nI_add]
      refine ⟨fun q => ?_, fun _ => ⟨zi_in (by omega) (by omega), fun q => ?_, fun q => ?_⟩⟩
      · rw [zi_le (by omega) (by omega)] at q; omega
      · refine hV.1 18 _ _ _ ?_
        simp -implicitDefEqProofs only [d_R_isZero_0, d_R_isZero_2, d_R_isZero_18, d_R_isZero_24, t_R_isZero_0, t_R_isZero_2, t_R_isZero_18, t_R_isZero_24, zs_aload_n, zs_aload, zs_iload_n, zs_iload, zs_lload_n, zs_lload, zs_istore_n, zs_istore, zs_lstore_n, zs_lstore, zs_astore_n, zs_astore, zs_iinc, zs_iconst, zs_bipush, zs_sipush, zs_lconst0, zs_lconst1, zs_ldc2_w, zs_ldc_w, zs_iadd, zs_isub, zs_imul, zs_iand, zs_ior, zs_ixor, zs_ishl, zs_ishr, zs_iushr, zs_idiv, zs_irem, zs_ineg, zs_ladd, zs_lsub, zs_lmul, zs_land, zs_lor, zs_lxor, zs_ldiv, zs_lrem, zs_lcmp, zs_lshl, zs_lshr, zs_lushr, zs_i2l, zs_l2i, zs_i2c, zs_dup_i, zs_pop_i, zs_dup_a, zs_pop_a, zs_dup2, zs_pop2, zs_nop, zs_goto, zs_if_eq, zs_icmp_eq, zs_if_ne, zs_icmp_ne, zs_if_lt, zs_icmp_lt, zs_if_ge, zs_icmp_ge, zs_if_gt, zs_icmp_gt, zs_if_le, zs_icmp_le, zs_getf, zs_putf, zs_gets, zs_alen, zs_iald, zs_cald, zs_lald, zs_aald, zs_iast, zs_cast, zs_last, zs_invstatic, zs_invvirtual, zs_invspecial, zs_ireturn, zs_lreturn, zs_areturn, zs_return, zs_tsw, zs_lsw, zr_zva0, zr_zvas, zr_zvai0, zr_zvais, zr_zvi0, zr_zvis, zr_zvii0, zr_zviis, zr_zvl0, zr_zvls, zr_zvli0, zr_zvlis, zr_zs1_0, zr_zs1_1n, zr_zs1_1i, zr_zs1_1a, zr_zs1_1l, zr_zs1_s, zr_zs2_0, zr_zs2_1n, zr_zs2_1i, zr_zs2_1a, zr_zs2_1l, zr_zs2_s, zr_f0, zr_f1, zr_f2, zr_f3, zr_kp, zr_k0, zr_k1, zr_km1, zr_km2, zr_km4, zr_km8, zr_km16, zr_tp, zr_tn, zr_kl, zr_ki, zr_kil, zr_kii, zr_ov, zr_is, zr_cn, zr_cfi, zr_cfl, zr_cfr, zr_cfo, zr_isi, zr_isl, zr_isc, zr_isr, zr_isn0, zr_isn1, zr_isn2, zr_iso, zr_reti, zr_ctm, zr_cat0, zr_cati, zr_cata, zr_catl, zr_cs0, zr_cs1, zr_cs2, zr_cs3, zr_cs4, zr_cs5, zr_cs6, Nat.reduceLeDiff, Option.toList_none, Option.toList_some, List.nil_append, List.cons_append, Nat.le_refl, true_and, Nat.reduceAdd, Nat.reduceSub, Nat.reduceMul, Nat.reduceEqDiff, if_true, if_false, ite_true, ite_false, reduceIte, List.getElem?_cons_zero, List.getElem?_cons_succ]
        rw [nI_add]
        exact ih (t + 1) (by omega) (fun j hj => by
          by_cases h1 : j = t
          · rw [h1]; exact q
          · exact hd j (by omega))
      · refine ⟨Or.inl rfl, zk0 ?_⟩
        rw [if_neg (fun z => q (by rw [z, dg_zero]))] at h
        exact h
  refine hV.1 0 _ _ _ ?_
  simp -implicitDefEqProofs only [d_R_isZero_0, d_R_isZero_2, d_R_isZero_18, d_R_isZero_24, t_R_isZero_0, t_R_isZero_2, t_R_isZero_18, t_R_isZero_24, zs_aload_n, zs_aload, zs_iload_n, zs_iload, zs_lload_n, zs_lload, zs_istore_n, zs_istore, zs_lstore_n, zs_lstore, zs_astore_n, zs_astore, zs_iinc, zs_iconst, zs_bipush, zs_sipush, zs_lconst0, zs_lconst1, zs_ldc2_w, zs_ldc_w, zs_iadd, zs_isub, zs_imul, zs_iand, zs_ior, zs_ixor, zs_ishl, zs_ishr, zs_iushr, zs_idiv, zs_irem, zs_ineg, zs_ladd, zs_lsub, zs_lmul, zs_land, zs_lor, zs_lxor, zs_ldiv, zs_lrem, zs_lcmp, zs_lshl, zs_lshr, zs_lushr, zs_i2l, zs_l2i, zs_i2c, zs_dup_i, zs_pop_i, zs_dup_a, zs_pop_a, zs_dup2, zs_pop2, zs_nop, zs_goto, zs_if_eq, zs_icmp_eq, zs_if_ne, zs_icmp_ne, zs_if_lt, zs_icmp_lt, zs_if_ge, zs_icmp_ge, zs_if_gt, zs_icmp_gt, zs_if_le, zs_icmp_le, zs_getf, zs_putf, zs_gets, zs_alen, zs_iald, zs_cald, zs_lald, zs_aald, zs_iast, zs_cast, zs_last, zs_invstatic, zs_invvirtual, zs_invspecial, zs_ireturn, zs_lreturn, zs_areturn, zs_return, zs_tsw, zs_lsw, zr_zva0, zr_zvas, zr_zvai0, zr_zvais, zr_zvi0, zr_zvis, zr_zvii0, zr_zviis, zr_zvl0, zr_zvls, zr_zvli0, zr_zvlis, zr_zs1_0, zr_zs1_1n, zr_zs1_1i, zr_zs1_1a, zr_zs1_1l, zr_zs1_s, zr_zs2_0, zr_zs2_1n, zr_zs2_1i, zr_zs2_1a, zr_zs2_1l, zr_zs2_s, zr_f0, zr_f1, zr_f2, zr_f3, zr_kp, zr_k0, zr_k1, zr_km1, zr_km2, zr_km4, zr_km8, zr_km16, zr_tp, zr_tn, zr_kl, zr_ki, zr_kil, zr_kii, zr_ov, zr_is, zr_cn, zr_cfi, zr_cfl, zr_cfr, zr_cfo, zr_isi, zr_isl, zr_isc, zr_isr, zr_isn0, zr_isn1, zr_isn2, zr_iso, zr_reti, zr_ctm, zr_cat0, zr_cati, zr_cata, zr_catl, zr_cs0, zr_cs1, zr_cs2, zr_cs3, zr_cs4, zr_cs5, zr_cs6, Nat.reduceLeDiff, Option.toList_none, Option.toList_some, List.nil_append, List.cons_append, Nat.le_refl, true_and, Nat.reduceAdd, Nat.reduceSub, Nat.reduceMul, Nat.reduceEqDiff, if_true, if_false, ite_true, ite_false, reduceIte, List.getElem?_cons_zero, List.getElem?_cons_succ]
  exact loop n 0 rfl (fun j hj => absurd hj (by omega))
