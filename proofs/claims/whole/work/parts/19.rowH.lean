/-! Row.multiply, divide -/
theorem pv_udadd {b : Nat} {d : Nat → Nat} {k x : Nat} : ∀ {n : Nat}, k < n → pv b (ud d k x) n + d k * b ^ k = pv b d n + x * b ^ k
  | 0, h => absurd h (by omega)
  | n + 1, h => by
    show pv b (ud d k x) n + ud d k x n * b ^ n + _ = pv b d n + d n * b ^ n + _
    by_cases hk : k = n
    · subst hk
      rw [pv_ud (Nat.le_refl _), ud_self]
      omega
    · have ih := pv_udadd (b := b) (d := d) (x := x) (show k < n by omega)
      rw [ud_ne (show n ≠ k by omega)]
      omega
theorem nm_mul {a b i j n : Nat} (hn : i + j = n) : (a % 4294967296 ^ i * b % 4294967296 ^ n + dg 4294967296 a i * (b % 4294967296 ^ j) * 4294967296 ^ i) % 4294967296 ^ n = a % 4294967296 ^ (i + 1) * b % 4294967296 ^ n := by
  have e1 : a % 4294967296 ^ (i + 1) = a % 4294967296 ^ i + 4294967296 ^ i * dg 4294967296 a i := by rw [Nat.pow_succ, Nat.mod_mul]; rfl
  have e2 : b = 4294967296 ^ j * (b / 4294967296 ^ j) + b % 4294967296 ^ j := (Nat.div_add_mod _ _).symm
  rw [e1, Nat.add_mod, Nat.mod_mod, ← Nat.add_mod, Nat.add_mul]
  have e3 : 4294967296 ^ i * dg 4294967296 a i * b = dg 4294967296 a i * (b % 4294967296 ^ j) * 4294967296 ^ i + 4294967296 ^ n * (dg 4294967296 a i * (b / 4294967296 ^ j)) := by
    conv => lhs; rw [e2]
    rw [← hn, Nat.pow_add]
    generalize 4294967296 ^ i = X
    generalize 4294967296 ^ j = Y at *
    generalize dg 4294967296 a i = g
    rw [Nat.mul_add]
    have a1 : X * g * (Y * (b / Y)) = X * Y * (g * (b / Y)) := by
      rw [Nat.mul_assoc, Nat.mul_assoc, Nat.mul_left_comm g Y]
    have a2 : X * g * (b % Y) = g * (b % Y) * X := by rw [Nat.mul_comm X g, Nat.mul_right_comm]
    omega
  rw [e3, ← Nat.add_assoc, Nat.add_mul_mod_self_left]
def sp_R_multiply : zSpec := fun vs σ K => ∃ (i j k n a b c : Nat), vs = [.ref i, .ref j, .ref k] ∧ σ[i]? = some (LR n a) ∧ σ[j]? = some (LR n b) ∧ σ[k]? = some (LR n c) ∧ k ≠ i ∧ k ≠ j ∧ n < 1000 ∧ a < 4294967296 ^ n ∧ K none (σ.set k (LR n (a * b % 4294967296 ^ n)))
def ct_R_multiply : List (Nat × Nat × zSpec) := [(45, 2, sp_JA_fill)]
set_option maxRecDepth 100000 in
theorem co_R_multiply : ∀ q ∈ ct_R_multiply, zCok "WideWordStack$Row" r_R_multiply q := by
  intro q hq
  unfold ct_R_multiply at hq
  simp only [List.mem_cons, List.not_mem_nil, or_false] at hq
  rcases hq with rfl
  · exact Or.inr ⟨15, y_JA_fill, c_JA_fill, 5, none, r_JA_fill, ⟨rfl, rfl, by decide, by decide⟩, zm_JA_fill, Or.inl ⟨rfl, l_R_15⟩⟩
set_option maxHeartbeats 4000000 in
set_option maxRecDepth 100000 in
theorem zm_R_multiply : ∀ l vs σ K, sp_R_multiply vs σ K → zMet l y_R_multiply c_R_multiply 9 none r_R_multiply vs σ K := by
  rintro l vs σ K ⟨ia, ib, k, n, a, b, c0, rfl, hi, hj, hk, hki, hkj, hn, ha, h⟩
  refine zmet_of (own := "WideWordStack$Row") (f := f_R) (kk := kk_R) (t := ct_R_multiply) (g := g_R) (cd := d_R_multiply) (by decide +kernel) rfl fo_R ko_R go_R co_R_multiply k_R_multiply (Nat.le_of_ble_eq_true rfl) ?_
  intro V hV
  show V 0 [some _, some _, some _, none, none, none, none, none, none] [] _
  have outer : ∀ (m i : Nat), m + i = n → V 7 [some (.ref ia), some (.ref ib), some (.ref k), some (.int (nI i)), none, none, none, none, none] [] (σ.set k (LR n (a % 4294967296 ^ i * b % 4294967296 ^ n))) := by
    intro m
    induction m with
    | zero =>
      intro i hm
      have ht : i = n := by omega
      subst ht
      refine hV.1 7 _ _ _ ?_
      simp -implicitDefEqProofs only [d_R_multiply_0, d_R_multiply_7, d_R_multiply_19, d_R_multiply_73, d_R_multiply_79, t_R_multiply_0, t_R_multiply_7, t_R_multiply_19, t_R_multiply_73, t_R_multiply_79, ct_R_multiply, kk_R_21, zs_aload_n, zs_aload, zs_iload_n, zs_iload, zs_lload_n, zs_lload, zs_istore_n, zs_istore, zs_lstore_n, zs_lstore, zs_astore_n, zs_astore, zs_iinc, zs_iconst, zs_bipush, zs_sipush, zs_lconst0, zs_lconst1, zs_ldc2_w, zs_ldc_w, zs_iadd, zs_isub, zs_imul, zs_iand, zs_ior, zs_ixor, zs_ishl, zs_ishr, zs_iushr, zs_idiv, zs_irem, zs_ineg, zs_ladd, zs_lsub, zs_lmul, zs_land, zs_lor, zs_lxor, zs_ldiv, zs_lrem, zs_lcmp, zs_lshl, zs_lshr, zs_lushr, zs_i2l, zs_l2i, zs_i2c, zs_dup_i, zs_pop_i, zs_dup_a, zs_pop_a, zs_dup2, zs_pop2, zs_nop, zs_goto, zs_if_eq, zs_icmp_eq, zs_if_ne, zs_icmp_ne, zs_if_lt, zs_icmp_lt, zs_if_ge, zs_icmp_ge, zs_if_gt, zs_icmp_gt, zs_if_le, zs_icmp_le, zs_getf, zs_putf, zs_gets, zs_alen, zs_iald, zs_cald, zs_lald, zs_aald, zs_iast, zs_cast, zs_last, zs_invstatic, zs_invvirtual, zs_invspecial, zs_ireturn, zs_lreturn, zs_areturn, zs_return, zs_tsw, zs_lsw, zr_zva0, zr_zvas, zr_zvai0, zr_zvais, zr_zvi0, zr_zvis, zr_zvii0, zr_zviis, zr_zvl0, zr_zvls, zr_zvli0, zr_zvlis, zr_zs1_0, zr_zs1_1n, zr_zs1_1i, zr_zs1_1a, zr_zs1_1l, zr_zs1_s, zr_zs2_0, zr_zs2_1n, zr_zs2_1i, zr_zs2_1a, zr_zs2_1l, zr_zs2_s, zr_f0, zr_f1, zr_f2, zr_f3, zr_kp, zr_k0, zr_k1, zr_km1, zr_km2, zr_km4, zr_km8, zr_km16, zr_tp, zr_tn, zr_kl, zr_ki, zr_kil, zr_kii, zr_ov, zr_is, zr_cn, zr_cfi, zr_cfl, zr_cfr, zr_cfo, zr_isi, zr_isl, zr_isc, zr_isr, zr_isn0, zr_isn1, zr_isn2, zr_iso, zr_reti, zr_ctm, zr_cat0, zr_cati, zr_cata, zr_catl, zr_cs0, zr_cs1, zr_cs2, zr_cs3, zr_cs4, zr_cs5, zr_cs6, Nat.reduceLeDiff, Option.toList_none, Option.toList_some, List.nil_append, List.cons_append, Nat.le_refl, true_and, Nat.reduceAdd, Nat.reduceSub, Nat.reduceMul, Nat.reduceEqDiff, if_true, if_false, ite_true, ite_false, reduceIte, List.getElem?_cons_zero, List.getElem?_cons_succ, zk_selfL hk]
      refine ⟨fun _ => ?_, fun q => absurd (Int32.le_refl _) q⟩
      refine hV.1 79 _ _ _ ?_
      simp -implicitDefEqProofs only [d_R_multiply_0, d_R_multiply_7, d_R_multiply_19, d_R_multiply_73, d_R_multiply_79, t_R_multiply_0, t_R_multiply_7, t_R_multiply_19, t_R_multiply_73, t_R_multiply_79, ct_R_multiply, kk_R_21, zs_aload_n, zs_aload, zs_iload_n, zs_iload, zs_lload_n, zs_lload, zs_istore_n, zs_istore, zs_lstore_n, zs_lstore, zs_astore_n, zs_astore, zs_iinc, zs_iconst, zs_bipush, zs_sipush, zs_lconst0, zs_lconst1, zs_ldc2_w, zs_ldc_w, zs_iadd, zs_isub, zs_imul, zs_iand, zs_ior, zs_ixor, zs_ishl, zs_ishr, zs_iushr, zs_idiv, zs_irem, zs_ineg, zs_ladd, zs_lsub, zs_lmul, zs_land, zs_lor, zs_lxor, zs_ldiv, zs_lrem, zs_lcmp, zs_lshl, zs_lshr, zs_lushr, zs_i2l, zs_l2i, zs_i2c, zs_dup_i, zs_pop_i, zs_dup_a, zs_pop_a, zs_dup2, zs_pop2, zs_nop, zs_goto, zs_if_eq, zs_icmp_eq, zs_if_ne, zs_icmp_ne, zs_if_lt, zs_icmp_lt, zs_if_ge, zs_icmp_ge, zs_if_gt, zs_icmp_gt, zs_if_le, zs_icmp_le, zs_getf, zs_putf, zs_gets, zs_alen, zs_iald, zs_cald, zs_lald, zs_aald, zs_iast, zs_cast, zs_last, zs_invstatic, zs_invvirtual, zs_invspecial, zs_ireturn, zs_lreturn, zs_areturn, zs_return, zs_tsw, zs_lsw, zr_zva0, zr_zvas, zr_zvai0, zr_zvais, zr_zvi0, zr_zvis, zr_zvii0, zr_zviis, zr_zvl0, zr_zvls, zr_zvli0, zr_zvlis, zr_zs1_0, zr_zs1_1n, zr_zs1_1i, zr_zs1_1a, zr_zs1_1l, zr_zs1_s, zr_zs2_0, zr_zs2_1n, zr_zs2_1i, zr_zs2_1a, zr_zs2_1l, zr_zs2_s, zr_f0, zr_f1, zr_f2, zr_f3, zr_kp, zr_k0, zr_k1, zr_km1, zr_km2, zr_km4, zr_km8, zr_km16, zr_tp, zr_tn, zr_kl, zr_ki, zr_kil, zr_kii, zr_ov, zr_is, zr_cn, zr_cfi, zr_cfl, zr_cfr, zr_cfo, zr_isi, zr_isl, zr_isc, zr_isr, zr_isn0, zr_isn1, zr_isn2, zr_iso, zr_reti, zr_ctm, zr_cat0, zr_cati, zr_cata, zr_catl, zr_cs0, zr_cs1, zr_cs2, zr_cs3, zr_cs4, zr_cs5, zr_cs6, Nat.reduceLeDiff, Option.toList_none, Option.toList_some, List.nil_append, List.cons_append, Nat.le_refl, true_and, Nat.reduceAdd, Nat.reduceSub, Nat.reduceMul, Nat.reduceEqDiff, if_true, if_false, ite_true, ite_false, reduceIte, List.getElem?_cons_zero, List.getElem?_cons_succ]
      rw [Nat.mod_eq_of_lt ha]
      exact zk0 h
    | succ m ih =>
      intro i hm
      obtain ⟨P, hP⟩ : ∃ P, P = a % 4294967296 ^ i * b % 4294967296 ^ n := ⟨_, rfl⟩
      have hPlt : P < 4294967296 ^ n := by rw [hP]; exact Nat.mod_lt _ (Nat.pow_pos (by decide))
      rw [← hP]
      have inner : ∀ (w j c : Nat) (d : Nat → Nat), w + (i + j) = n → c < 4294967296 → (∀ x, x < i + j → d x < 4294967296) → (∀ x, i + j ≤ x → d x = dg 4294967296 P x) → pv 4294967296 d (i + j) + c * 4294967296 ^ (i + j) = pv 4294967296 (dg 4294967296 P) (i + j) + dg 4294967296 a i * pv 4294967296 (dg 4294967296 b) j * 4294967296 ^ i → V 19 [some (.ref ia), some (.ref ib), some (.ref k), some (.int (nI i)), some (.long (lN c)), none, some (.int (nI j)), none, none] [] (σ.set k (LD n d)) := by
        intro w
        induction w with
        | zero =>
          intro j c d hw hc hd hd2 hp
          have hij : i + j = n := by omega
          refine hV.1 19 _ _ _ ?_
          simp -implicitDefEqProofs only [d_R_multiply_0, d_R_multiply_7, d_R_multiply_19, d_R_multiply_73, d_R_multiply_79, t_R_multiply_0, t_R_multiply_7, t_R_multiply_19, t_R_multiply_73, t_R_multiply_79, ct_R_multiply, kk_R_21, zs_aload_n, zs_aload, zs_iload_n, zs_iload, zs_lload_n, zs_lload, zs_istore_n, zs_istore, zs_lstore_n, zs_lstore, zs_astore_n, zs_astore, zs_iinc, zs_iconst, zs_bipush, zs_sipush, zs_lconst0, zs_lconst1, zs_ldc2_w, zs_ldc_w, zs_iadd, zs_isub, zs_imul, zs_iand, zs_ior, zs_ixor, zs_ishl, zs_ishr, zs_iushr, zs_idiv, zs_irem, zs_ineg, zs_ladd, zs_lsub, zs_lmul, zs_land, zs_lor, zs_lxor, zs_ldiv, zs_lrem, zs_lcmp, zs_lshl, zs_lshr, zs_lushr, zs_i2l, zs_l2i, zs_i2c, zs_dup_i, zs_pop_i, zs_dup_a, zs_pop_a, zs_dup2, zs_pop2, zs_nop, zs_goto, zs_if_eq, zs_icmp_eq, zs_if_ne, zs_icmp_ne, zs_if_lt, zs_icmp_lt, zs_if_ge, zs_icmp_ge, zs_if_gt, zs_icmp_gt, zs_if_le, zs_icmp_le, zs_getf, zs_putf, zs_gets, zs_alen, zs_iald, zs_cald, zs_lald, zs_aald, zs_iast, zs_cast, zs_last, zs_invstatic, zs_invvirtual, zs_invspecial, zs_ireturn, zs_lreturn, zs_areturn, zs_return, zs_tsw, zs_lsw, zr_zva0, zr_zvas, zr_zvai0, zr_zvais, zr_zvi0, zr_zvis, zr_zvii0, zr_zviis, zr_zvl0, zr_zvls, zr_zvli0, zr_zvlis, zr_zs1_0, zr_zs1_1n, zr_zs1_1i, zr_zs1_1a, zr_zs1_1l, zr_zs1_s, zr_zs2_0, zr_zs2_1n, zr_zs2_1i, zr_zs2_1a, zr_zs2_1l, zr_zs2_s, zr_f0, zr_f1, zr_f2, zr_f3, zr_kp, zr_k0, zr_k1, zr_km1, zr_km2, zr_km4, zr_km8, zr_km16, zr_tp, zr_tn, zr_kl, zr_ki, zr_kil, zr_kii, zr_ov, zr_is, zr_cn, zr_cfi, zr_cfl, zr_cfr, zr_cfo, zr_isi, zr_isl, zr_isc, zr_isr, zr_isn0, zr_isn1, zr_isn2, zr_iso, zr_reti, zr_ctm, zr_cat0, zr_cati, zr_cata, zr_catl, zr_cs0, zr_cs1, zr_cs2, zr_cs3, zr_cs4, zr_cs5, zr_cs6, Nat.reduceLeDiff, Option.toList_none, Option.toList_some, List.nil_append, List.cons_append, Nat.le_refl, true_and, Nat.reduceAdd, Nat.reduceSub, Nat.reduceMul, Nat.reduceEqDiff, if_true, if_false, ite_true, ite_false, reduceIte, List.getElem?_cons_zero, List.getElem?_cons_succ, zk_selfL hk]
          rw [nI_add, zi_le (by omega) (by omega)]
          refine ⟨fun _ => ?_, fun q => absurd (by omega) q⟩
          refine hV.1 73 _ _ _ ?_
          simp -implicitDefEqProofs only [d_R_multiply_0, d_R_multiply_7, d_R_multiply_19, d_R_multiply_73, d_R_multiply_79, t_R_multiply_0, t_R_multiply_7, t_R_multiply_19, t_R_multiply_73, t_R_multiply_79, ct_R_multiply, kk_R_21, zs_aload_n, zs_aload, zs_iload_n, zs_iload, zs_lload_n, zs_lload, zs_istore_n, zs_istore, zs_lstore_n, zs_lstore, zs_astore_n, zs_astore, zs_iinc, zs_iconst, zs_bipush, zs_sipush, zs_lconst0, zs_lconst1, zs_ldc2_w, zs_ldc_w, zs_iadd, zs_isub, zs_imul, zs_iand, zs_ior, zs_ixor, zs_ishl, zs_ishr, zs_iushr, zs_idiv, zs_irem, zs_ineg, zs_ladd, zs_lsub, zs_lmul, zs_land, zs_lor, zs_lxor, zs_ldiv, zs_lrem, zs_lcmp, zs_lshl, zs_lshr, zs_lushr, zs_i2l, zs_l2i, zs_i2c, zs_dup_i, zs_pop_i, zs_dup_a, zs_pop_a, zs_dup2, zs_pop2, zs_nop, zs_goto, zs_if_eq, zs_icmp_eq, zs_if_ne, zs_icmp_ne, zs_if_lt, zs_icmp_lt, zs_if_ge, zs_icmp_ge, zs_if_gt, zs_icmp_gt, zs_if_le, zs_icmp_le, zs_getf, zs_putf, zs_gets, zs_alen, zs_iald, zs_cald, zs_lald, zs_aald, zs_iast, zs_cast, zs_last, zs_invstatic, zs_invvirtual, zs_invspecial, zs_ireturn, zs_lreturn, zs_areturn, zs_return, zs_tsw, zs_lsw, zr_zva0, zr_zvas, zr_zvai0, zr_zvais, zr_zvi0, zr_zvis, zr_zvii0, zr_zviis, zr_zvl0, zr_zvls, zr_zvli0, zr_zvlis, zr_zs1_0, zr_zs1_1n, zr_zs1_1i, zr_zs1_1a, zr_zs1_1l, zr_zs1_s, zr_zs2_0, zr_zs2_1n, zr_zs2_1i, zr_zs2_1a, zr_zs2_1l, zr_zs2_s, zr_f0, zr_f1, zr_f2, zr_f3, zr_kp, zr_k0, zr_k1, zr_km1, zr_km2, zr_km4, zr_km8, zr_km16, zr_tp, zr_tn, zr_kl, zr_ki, zr_kil, zr_kii, zr_ov, zr_is, zr_cn, zr_cfi, zr_cfl, zr_cfr, zr_cfo, zr_isi, zr_isl, zr_isc, zr_isr, zr_isn0, zr_isn1, zr_isn2, zr_iso, zr_reti, zr_ctm, zr_cat0, zr_cati, zr_cata, zr_catl, zr_cs0, zr_cs1, zr_cs2, zr_cs3, zr_cs4, zr_cs5, zr_cs6, Nat.reduceLeDiff, Option.toList_none, Option.toList_some, List.nil_append, List.cons_append, Nat.le_refl, true_and, Nat.reduceAdd, Nat.reduceSub, Nat.reduceMul, Nat.reduceEqDiff, if_true, if_false, ite_true, ite_false, reduceIte, List.getElem?_cons_zero, List.getElem?_cons_succ]
          rw [nI_add]
          rw [hij, pv_dg, pv_dg, Nat.mod_eq_of_lt hPlt] at hp
          have h1 := nm_row (n := n) (fun x hx => hd x (by omega)) hp
          rw [hP, nm_mul hij] at h1
          exact hV.2.2 _ _ _ _ _ _ _ (hV.2.1 _ _ _ _ _ (ih (i + 1) (by omega)) (by simp only [zle, and_self])) (LD_sim h1)
        | succ w ihw =>
          intro j c d hw hc hd hd2 hp
          have h1 := dg_lt (b := 4294967296) (by decide) a i
          have h2 := dg_lt (b := 4294967296) (by decide) b j
          have h3 := dg_lt (b := 4294967296) (by decide) P (i + j)
          have hmul : dg 4294967296 a i * dg 4294967296 b j ≤ 4294967295 * 4294967295 := Nat.mul_le_mul (by omega) (by omega)
          have hin : vp_in (nI (i + j)) n := zi_in (by omega) (by omega)
          have hA : zlook (σ.set k (LD n d)) ia = some (LR n a) := by rw [zk_neL hki]; exact zk_in hi
          have hB : zlook (σ.set k (LD n d)) ib = some (LR n b) := by rw [zk_neL hkj]; exact zk_in hj
          have hdt := hd2 (i + j) (Nat.le_refl _)
          refine hV.1 19 _ _ _ ?_
          simp -implicitDefEqProofs only [d_R_multiply_0, d_R_multiply_7, d_R_multiply_19, d_R_multiply_73, d_R_multiply_79, t_R_multiply_0, t_R_multiply_7, t_R_multiply_19, t_R_multiply_73, t_R_multiply_79, ct_R_multiply, kk_R_21, zs_aload_n, zs_aload, zs_iload_n, zs_iload, zs_lload_n, zs_lload, zs_istore_n, zs_istore, zs_lstore_n, zs_lstore, zs_astore_n, zs_astore, zs_iinc, zs_iconst, zs_bipush, zs_sipush, zs_lconst0, zs_lconst1, zs_ldc2_w, zs_ldc_w, zs_iadd, zs_isub, zs_imul, zs_iand, zs_ior, zs_ixor, zs_ishl, zs_ishr, zs_iushr, zs_idiv, zs_irem, zs_ineg, zs_ladd, zs_lsub, zs_lmul, zs_land, zs_lor, zs_lxor, zs_ldiv, zs_lrem, zs_lcmp, zs_lshl, zs_lshr, zs_lushr, zs_i2l, zs_l2i, zs_i2c, zs_dup_i, zs_pop_i, zs_dup_a, zs_pop_a, zs_dup2, zs_pop2, zs_nop, zs_goto, zs_if_eq, zs_icmp_eq, zs_if_ne, zs_icmp_ne, zs_if_lt, zs_icmp_lt, zs_if_ge, zs_icmp_ge, zs_if_gt, zs_icmp_gt, zs_if_le, zs_icmp_le, zs_getf, zs_putf, zs_gets, zs_alen, zs_iald, zs_cald, zs_lald, zs_aald, zs_iast, zs_cast, zs_last, zs_invstatic, zs_invvirtual, zs_invspecial, zs_ireturn, zs_lreturn, zs_areturn, zs_return, zs_tsw, zs_lsw, zr_zva0, zr_zvas, zr_zvai0, zr_zvais, zr_zvi0, zr_zvis, zr_zvii0, zr_zviis, zr_zvl0, zr_zvls, zr_zvli0, zr_zvlis, zr_zs1_0, zr_zs1_1n, zr_zs1_1i, zr_zs1_1a, zr_zs1_1l, zr_zs1_s, zr_zs2_0, zr_zs2_1n, zr_zs2_1i, zr_zs2_1a, zr_zs2_1l, zr_zs2_s, zr_f0, zr_f1, zr_f2, zr_f3, zr_kp, zr_k0, zr_k1, zr_km1, zr_km2, zr_km4, zr_km8, zr_km16, zr_tp, zr_tn, zr_kl, zr_ki, zr_kil, zr_kii, zr_ov, zr_is, zr_cn, zr_cfi, zr_cfl, zr_cfr, zr_cfo, zr_isi, zr_isl, zr_isc, zr_isr, zr_isn0, zr_isn1, zr_isn2, zr_iso, zr_reti, zr_ctm, zr_cat0, zr_cati, zr_cata, zr_catl, zr_cs0, zr_cs1, zr_cs2, zr_cs3, zr_cs4, zr_cs5, zr_cs6, Nat.reduceLeDiff, Option.toList_none, Option.toList_some, List.nil_append, List.cons_append, Nat.le_refl, true_and, Nat.reduceAdd, Nat.reduceSub, Nat.reduceMul, Nat.reduceEqDiff, if_true, if_false, ite_true, ite_false, reduceIte, List.getElem?_cons_zero, List.getElem?_cons_succ, zk_selfL hk, zk_self hk, hA, hB]
          simp only [nI_add, zi_cl (t := i) (by omega), zi_cl (t := j) (by omega), zi_cl (t := i + j) (by omega), hdt, lN_mul, lN_add, zl_mask (a := dg 4294967296 a i * dg 4294967296 b j + dg 4294967296 P (i + j) + c) (by omega), zl_hi (a := dg 4294967296 a i * dg 4294967296 b j + dg 4294967296 P (i + j) + c) (by omega), LD_upd, List.set_set]
          refine ⟨fun q => ?_, fun _ => ⟨zi_in (by omega) (by omega), zi_in (by omega) (by omega), hin, hin, ?_⟩⟩
          · rw [zi_le (by omega) (by omega)] at q; omega
          refine hV.2.1 _ _ _ _ _ (ihw (j + 1) ((dg 4294967296 a i * dg 4294967296 b j + dg 4294967296 P (i + j) + c) / 4294967296) _ (by omega) (by omega) (nm_dlt (by decide) hd) (fun x hx => ?_) ?_) (by simp only [zle, and_self])
          · rw [ud_ne (by omega)]; exact hd2 x (by omega)
          · show pv _ (ud d (i + j) _) (i + j + 1) + _ * _ ^ (i + j + 1) = (pv _ _ (i + j) + dg 4294967296 P (i + j) * 4294967296 ^ (i + j)) + dg 4294967296 a i * (pv _ _ j + dg 4294967296 b j * 4294967296 ^ j) * 4294967296 ^ i
            rw [nm_digit]
            have e1 : (4294967296 : Nat) ^ (i + j) = 4294967296 ^ j * 4294967296 ^ i := by rw [Nat.pow_add, Nat.mul_comm]
            rw [e1] at hp ⊢
            generalize (4294967296 : Nat) ^ i = X at *
            generalize (4294967296 : Nat) ^ j = Y at *
            rw [Nat.add_mul, Nat.add_mul, Nat.mul_add, Nat.add_mul]
            have e2 : dg 4294967296 a i * dg 4294967296 b j * (Y * X) = dg 4294967296 a i * (dg 4294967296 b j * Y) * X := by
              rw [Nat.mul_assoc, Nat.mul_assoc, Nat.mul_assoc]
            omega
      refine hV.1 7 _ _ _ ?_
      simp -implicitDefEqProofs only [d_R_multiply_0, d_R_multiply_7, d_R_multiply_19, d_R_multiply_73, d_R_multiply_79, t_R_multiply_0, t_R_multiply_7, t_R_multiply_19, t_R_multiply_73, t_R_multiply_79, ct_R_multiply, kk_R_21, zs_aload_n, zs_aload, zs_iload_n, zs_iload, zs_lload_n, zs_lload, zs_istore_n, zs_istore, zs_lstore_n, zs_lstore, zs_astore_n, zs_astore, zs_iinc, zs_iconst, zs_bipush, zs_sipush, zs_lconst0, zs_lconst1, zs_ldc2_w, zs_ldc_w, zs_iadd, zs_isub, zs_imul, zs_iand, zs_ior, zs_ixor, zs_ishl, zs_ishr, zs_iushr, zs_idiv, zs_irem, zs_ineg, zs_ladd, zs_lsub, zs_lmul, zs_land, zs_lor, zs_lxor, zs_ldiv, zs_lrem, zs_lcmp, zs_lshl, zs_lshr, zs_lushr, zs_i2l, zs_l2i, zs_i2c, zs_dup_i, zs_pop_i, zs_dup_a, zs_pop_a, zs_dup2, zs_pop2, zs_nop, zs_goto, zs_if_eq, zs_icmp_eq, zs_if_ne, zs_icmp_ne, zs_if_lt, zs_icmp_lt, zs_if_ge, zs_icmp_ge, zs_if_gt, zs_icmp_gt, zs_if_le, zs_icmp_le, zs_getf, zs_putf, zs_gets, zs_alen, zs_iald, zs_cald, zs_lald, zs_aald, zs_iast, zs_cast, zs_last, zs_invstatic, zs_invvirtual, zs_invspecial, zs_ireturn, zs_lreturn, zs_areturn, zs_return, zs_tsw, zs_lsw, zr_zva0, zr_zvas, zr_zvai0, zr_zvais, zr_zvi0, zr_zvis, zr_zvii0, zr_zviis, zr_zvl0, zr_zvls, zr_zvli0, zr_zvlis, zr_zs1_0, zr_zs1_1n, zr_zs1_1i, zr_zs1_1a, zr_zs1_1l, zr_zs1_s, zr_zs2_0, zr_zs2_1n, zr_zs2_1i, zr_zs2_1a, zr_zs2_1l, zr_zs2_s, zr_f0, zr_f1, zr_f2, zr_f3, zr_kp, zr_k0, zr_k1, zr_km1, zr_km2, zr_km4, zr_km8, zr_km16, zr_tp, zr_tn, zr_kl, zr_ki, zr_kil, zr_kii, zr_ov, zr_is, zr_cn, zr_cfi, zr_cfl, zr_cfr, zr_cfo, zr_isi, zr_isl, zr_isc, zr_isr, zr_isn0, zr_isn1, zr_isn2, zr_iso, zr_reti, zr_ctm, zr_cat0, zr_cati, zr_cata, zr_catl, zr_cs0, zr_cs1, zr_cs2, zr_cs3, zr_cs4, zr_cs5, zr_cs6, Nat.reduceLeDiff, Option.toList_none, Option.toList_some, List.nil_append, List.cons_append, Nat.le_refl, true_and, Nat.reduceAdd, Nat.reduceSub, Nat.reduceMul, Nat.reduceEqDiff, if_true, if_false, ite_true, ite_false, reduceIte, List.getElem?_cons_zero, List.getElem?_cons_succ, zk_selfL hk]
      refine ⟨fun q => ?_, fun _ => ?_⟩
      · rw [zi_le (by omega) (by omega)] at q; omega
      exact inner (m + 1) 0 0 (dg 4294967296 P) (by omega) (by decide) (fun x _ => dg_lt (by decide) _ _) (fun x _ => rfl) (by simp [pv])
  refine hV.1 0 _ _ _ ?_
  simp -implicitDefEqProofs only [d_R_multiply_0, d_R_multiply_7, d_R_multiply_19, d_R_multiply_73, d_R_multiply_79, t_R_multiply_0, t_R_multiply_7, t_R_multiply_19, t_R_multiply_73, t_R_multiply_79, ct_R_multiply, kk_R_21, zs_aload_n, zs_aload, zs_iload_n, zs_iload, zs_lload_n, zs_lload, zs_istore_n, zs_istore, zs_lstore_n, zs_lstore, zs_astore_n, zs_astore, zs_iinc, zs_iconst, zs_bipush, zs_sipush, zs_lconst0, zs_lconst1, zs_ldc2_w, zs_ldc_w, zs_iadd, zs_isub, zs_imul, zs_iand, zs_ior, zs_ixor, zs_ishl, zs_ishr, zs_iushr, zs_idiv, zs_irem, zs_ineg, zs_ladd, zs_lsub, zs_lmul, zs_land, zs_lor, zs_lxor, zs_ldiv, zs_lrem, zs_lcmp, zs_lshl, zs_lshr, zs_lushr, zs_i2l, zs_l2i, zs_i2c, zs_dup_i, zs_pop_i, zs_dup_a, zs_pop_a, zs_dup2, zs_pop2, zs_nop, zs_goto, zs_if_eq, zs_icmp_eq, zs_if_ne, zs_icmp_ne, zs_if_lt, zs_icmp_lt, zs_if_ge, zs_icmp_ge, zs_if_gt, zs_icmp_gt, zs_if_le, zs_icmp_le, zs_getf, zs_putf, zs_gets, zs_alen, zs_iald, zs_cald, zs_lald, zs_aald, zs_iast, zs_cast, zs_last, zs_invstatic, zs_invvirtual, zs_invspecial, zs_ireturn, zs_lreturn, zs_areturn, zs_return, zs_tsw, zs_lsw, zr_zva0, zr_zvas, zr_zvai0, zr_zvais, zr_zvi0, zr_zvis, zr_zvii0, zr_zviis, zr_zvl0, zr_zvls, zr_zvli0, zr_zvlis, zr_zs1_0, zr_zs1_1n, zr_zs1_1i, zr_zs1_1a, zr_zs1_1l, zr_zs1_s, zr_zs2_0, zr_zs2_1n, zr_zs2_1i, zr_zs2_1a, zr_zs2_1l, zr_zs2_s, zr_f0, zr_f1, zr_f2, zr_f3, zr_kp, zr_k0, zr_k1, zr_km1, zr_km2, zr_km4, zr_km8, zr_km16, zr_tp, zr_tn, zr_kl, zr_ki, zr_kil, zr_kii, zr_ov, zr_is, zr_cn, zr_cfi, zr_cfl, zr_cfr, zr_cfo, zr_isi, zr_isl, zr_isc, zr_isr, zr_isn0, zr_isn1, zr_isn2, zr_iso, zr_reti, zr_ctm, zr_cat0, zr_cati, zr_cata, zr_catl, zr_cs0, zr_cs1, zr_cs2, zr_cs3, zr_cs4, zr_cs5, zr_cs6, Nat.reduceLeDiff, Option.toList_none, Option.toList_some, List.nil_append, List.cons_append, Nat.le_refl, true_and, Nat.reduceAdd, Nat.reduceSub, Nat.reduceMul, Nat.reduceEqDiff, if_true, if_false, ite_true, ite_false, reduceIte, List.getElem?_cons_zero, List.getElem?_cons_succ]
  refine ⟨k, n, c0, 0, 0, rfl, hk, hn, fun j _ => dg_zero _ _, ?_⟩
  simp -implicitDefEqProofs only [d_R_multiply_0, d_R_multiply_7, d_R_multiply_19, d_R_multiply_73, d_R_multiply_79, t_R_multiply_0, t_R_multiply_7, t_R_multiply_19, t_R_multiply_73, t_R_multiply_79, ct_R_multiply, kk_R_21, zs_aload_n, zs_aload, zs_iload_n, zs_iload, zs_lload_n, zs_lload, zs_istore_n, zs_istore, zs_lstore_n, zs_lstore, zs_astore_n, zs_astore, zs_iinc, zs_iconst, zs_bipush, zs_sipush, zs_lconst0, zs_lconst1, zs_ldc2_w, zs_ldc_w, zs_iadd, zs_isub, zs_imul, zs_iand, zs_ior, zs_ixor, zs_ishl, zs_ishr, zs_iushr, zs_idiv, zs_irem, zs_ineg, zs_ladd, zs_lsub, zs_lmul, zs_land, zs_lor, zs_lxor, zs_ldiv, zs_lrem, zs_lcmp, zs_lshl, zs_lshr, zs_lushr, zs_i2l, zs_l2i, zs_i2c, zs_dup_i, zs_pop_i, zs_dup_a, zs_pop_a, zs_dup2, zs_pop2, zs_nop, zs_goto, zs_if_eq, zs_icmp_eq, zs_if_ne, zs_icmp_ne, zs_if_lt, zs_icmp_lt, zs_if_ge, zs_icmp_ge, zs_if_gt, zs_icmp_gt, zs_if_le, zs_icmp_le, zs_getf, zs_putf, zs_gets, zs_alen, zs_iald, zs_cald, zs_lald, zs_aald, zs_iast, zs_cast, zs_last, zs_invstatic, zs_invvirtual, zs_invspecial, zs_ireturn, zs_lreturn, zs_areturn, zs_return, zs_tsw, zs_lsw, zr_zva0, zr_zvas, zr_zvai0, zr_zvais, zr_zvi0, zr_zvis, zr_zvii0, zr_zviis, zr_zvl0, zr_zvls, zr_zvli0, zr_zvlis, zr_zs1_0, zr_zs1_1n, zr_zs1_1i, zr_zs1_1a, zr_zs1_1l, zr_zs1_s, zr_zs2_0, zr_zs2_1n, zr_zs2_1i, zr_zs2_1a, zr_zs2_1l, zr_zs2_s, zr_f0, zr_f1, zr_f2, zr_f3, zr_kp, zr_k0, zr_k1, zr_km1, zr_km2, zr_km4, zr_km8, zr_km16, zr_tp, zr_tn, zr_kl, zr_ki, zr_kil, zr_kii, zr_ov, zr_is, zr_cn, zr_cfi, zr_cfl, zr_cfr, zr_cfo, zr_isi, zr_isl, zr_isc, zr_isr, zr_isn0, zr_isn1, zr_isn2, zr_iso, zr_reti, zr_ctm, zr_cat0, zr_cati, zr_cata, zr_catl, zr_cs0, zr_cs1, zr_cs2, zr_cs3, zr_cs4, zr_cs5, zr_cs6, Nat.reduceLeDiff, Option.toList_none, Option.toList_some, List.nil_append, List.cons_append, Nat.le_refl, true_and, Nat.reduceAdd, Nat.reduceSub, Nat.reduceMul, Nat.reduceEqDiff, if_true, if_false, ite_true, ite_false, reduceIte, List.getElem?_cons_zero, List.getElem?_cons_succ]
  have h0 := outer n 0 rfl
  rw [Nat.pow_zero, Nat.mod_one, Nat.zero_mul, Nat.zero_mod] at h0
  exact h0
theorem cmpI_lt (a b : Nat) : (cmpI a b < nI 0) = (a < b) := by
  unfold cmpI
  apply propext
  by_cases h : a < b
  · rw [if_pos h]; exact ⟨fun _ => h, fun _ => by decide⟩
  · rw [if_neg h]
    by_cases h2 : a = b
    · rw [if_pos h2]; exact ⟨fun q => absurd q (by decide), fun q => absurd q h⟩
    · rw [if_neg h2]; exact ⟨fun q => absurd q (by decide), fun q => absurd q h⟩
theorem cmpI_ge (a b : Nat) : (nI 0 ≤ cmpI a b) = (b ≤ a) := by
  unfold cmpI
  apply propext
  by_cases h : a < b
  · rw [if_pos h]; exact ⟨fun q => absurd q (by decide), fun q => by omega⟩
  · rw [if_neg h]
    by_cases h2 : a = b
    · rw [if_pos h2]; exact ⟨fun _ => by omega, fun _ => by decide⟩
    · rw [if_neg h2]; exact ⟨fun _ => by omega, fun _ => by decide⟩
theorem cmpI_eq (a b : Nat) : (cmpI a b = nI 0) = (a = b) := by
  unfold cmpI
  apply propext
  by_cases h : a < b
  · rw [if_pos h]; exact ⟨fun q => absurd q (by decide), fun q => by omega⟩
  · rw [if_neg h]
    by_cases h2 : a = b
    · rw [if_pos h2]; exact ⟨fun _ => h2, fun _ => rfl⟩
    · rw [if_neg h2]; exact ⟨fun q => absurd q (by decide), fun q => absurd q h2⟩
theorem cmpI_le (a b : Nat) : (cmpI a b ≤ nI 0) = (a ≤ b) := by
  unfold cmpI
  apply propext
  by_cases h : a < b
  · rw [if_pos h]; exact ⟨fun _ => by omega, fun _ => by decide⟩
  · rw [if_neg h]
    by_cases h2 : a = b
    · rw [if_pos h2]; exact ⟨fun _ => by omega, fun _ => by decide⟩
    · rw [if_neg h2]; exact ⟨fun q => absurd q (by decide), fun q => by omega⟩
/-- long division, one bit more -/
theorem nm_divstep {u w m : Nat} (hw : 0 < w) : u / 2 ^ m / w = 2 * (u / 2 ^ (m + 1) / w) + (if w ≤ 2 * (u / 2 ^ (m + 1) % w) + u / 2 ^ m % 2 then 1 else 0) ∧ u / 2 ^ m % w = 2 * (u / 2 ^ (m + 1) % w) + u / 2 ^ m % 2 - (if w ≤ 2 * (u / 2 ^ (m + 1) % w) + u / 2 ^ m % 2 then w else 0) := by
  have e1 : u / 2 ^ (m + 1) = u / 2 ^ m / 2 := by rw [Nat.pow_succ, Nat.div_div_eq_div_mul]
  rw [e1]
  generalize u / 2 ^ m = x
  have h1 := Nat.div_add_mod (x / 2) w
  have h2 := Nat.mod_lt (x / 2) hw
  have h3 : x = 2 * (x / 2) + x % 2 := by omega
  have h4 : x % 2 < 2 := Nat.mod_lt _ (by decide)
  generalize x / 2 / w = Q at *
  generalize x / 2 % w = R at *
  generalize x % 2 = t at *
  have h5 : x = w * (2 * Q) + (2 * R + t) := by
    rw [h3, ← h1, Nat.mul_left_comm w 2 Q]
    omega
  by_cases hc : w ≤ 2 * R + t
  · rw [if_pos hc, if_pos hc]
    have h6 : x = w * (2 * Q + 1) + (2 * R + t - w) := by
      rw [Nat.mul_add, Nat.mul_one]
      omega
    have h7 : 2 * R + t - w < w := by omega
    constructor
    · rw [h6, Nat.mul_add_div hw, Nat.div_eq_of_lt h7, Nat.add_zero]
    · rw [h6, Nat.mul_add_mod, Nat.mod_eq_of_lt h7]
  · rw [if_neg hc, if_neg hc]
    have h7 : 2 * R + t < w := by omega
    constructor
    · rw [h5, Nat.mul_add_div hw, Nat.div_eq_of_lt h7]
    · rw [h5, Nat.mul_add_mod, Nat.mod_eq_of_lt h7, Nat.sub_zero]
/-- a bit that is not set in a multiple of 2^(m+1) -/
theorem nm_setbit {Q m : Nat} : ∃ b, dg 4294967296 (Q * 2 ^ (m + 1)) (m / 32) = b * 2 ^ (m % 32 + 1) := by
  refine ⟨Q % 2 ^ (31 - m % 32), ?_⟩
  unfold dg
  have e1 : (4294967296 : Nat) ^ (m / 32) = 2 ^ (32 * (m / 32)) := by rw [Nat.pow_mul]
  have e2 : m + 1 = 32 * (m / 32) + (m % 32 + 1) := by omega
  have e3 : (4294967296 : Nat) = 2 ^ (m % 32 + 1) * 2 ^ (31 - m % 32) := by
    rw [← Nat.pow_add, show m % 32 + 1 + (31 - m % 32) = 32 by omega]
  rw [e1]
  conv => lhs; rw [e2, Nat.pow_add, ← Nat.mul_assoc, Nat.mul_comm Q, Nat.mul_assoc, Nat.mul_div_cancel_left _ (Nat.pow_pos (by decide)), e3]
  rw [Nat.mul_comm Q, Nat.mul_mod_mul_left, Nat.mul_comm]
def sp_R_divide : zSpec := fun vs σ K => ∃ (i j q r a b c d : Nat), vs = [.ref i, .ref j, .ref q, .ref r] ∧ σ[i]? = some (LR 16 a) ∧ σ[j]? = some (LR 16 b) ∧ σ[q]? = some (LR 16 c) ∧ σ[r]? = some (LR 16 d) ∧ q ≠ i ∧ q ≠ j ∧ r ≠ i ∧ r ≠ j ∧ q ≠ r ∧ a < 4294967296 ^ 16 ∧ b < 4294967296 ^ 8 ∧ (if b = 0 then K (some (.int (nI 0))) ((σ.set q (LR 16 0)).set r (LR 16 0)) else K (some (.int (nI 1))) ((σ.set q (LR 16 (a / b))).set r (LR 16 (a % b))))
def ct_R_divide : List (Nat × Nat × zSpec) := [(45, 2, sp_JA_fill), (129, 1, sp_R_isZero), (138, 1, sp_R_bitLength), (156, 2, sp_R_bitAt), (168, 3, sp_R_multiplyAdd), (117, 2, sp_R_compareRows), (180, 3, sp_R_subtract)]
set_option maxRecDepth 100000 in
theorem co_R_divide : ∀ q ∈ ct_R_divide, zCok "WideWordStack$Row" r_R_divide q := by
  intro q hq
  unfold ct_R_divide at hq
  simp only [List.mem_cons, List.not_mem_nil, or_false] at hq
  rcases hq with rfl | rfl | rfl | rfl | rfl | rfl | rfl
  · exact Or.inr ⟨15, y_JA_fill, c_JA_fill, 5, none, r_JA_fill, ⟨rfl, rfl, by decide, by decide⟩, zm_JA_fill, Or.inl ⟨rfl, l_R_15⟩⟩
  · exact Or.inr ⟨43, y_R_isZero, c_R_isZero, 2, (some .boolean), r_R_isZero, ⟨rfl, rfl, by decide, by decide⟩, zm_R_isZero, Or.inl ⟨rfl, l_R_43⟩⟩
  · exact Or.inr ⟨46, y_R_bitLength, c_R_bitLength, 2, (some .int), r_R_bitLength, ⟨rfl, rfl, by decide, by decide⟩, zm_R_bitLength, Or.inl ⟨rfl, l_R_46⟩⟩
  · exact Or.inr ⟨52, y_R_bitAt, c_R_bitAt, 2, (some .long), r_R_bitAt, ⟨rfl, rfl, by decide, by decide⟩, zm_R_bitAt, Or.inl ⟨rfl, l_R_52⟩⟩
  · exact Or.inr ⟨56, y_R_multiplyAdd, c_R_multiplyAdd, 10, (some .long), r_R_multiplyAdd, ⟨rfl, rfl, by decide, by decide⟩, zm_R_multiplyAdd, Or.inl ⟨rfl, l_R_56⟩⟩
  · exact Or.inr ⟨39, y_R_compareRows, c_R_compareRows, 3, (some .int), r_R_compareRows, ⟨rfl, rfl, by decide, by decide⟩, zm_R_compareRows, Or.inl ⟨rfl, l_R_39⟩⟩
  · exact Or.inr ⟨60, y_R_subtract, c_R_subtract, 8, none, r_R_subtract, ⟨rfl, rfl, by decide, by decide⟩, zm_R_subtract, Or.inl ⟨rfl, l_R_60⟩⟩
set_option maxHeartbeats 4000000 in
set_option maxRecDepth 100000 in
theorem zm_R_divide : ∀ l vs σ K, sp_R_divide vs σ K → zMet l y_R_divide c_R_divide 5 (some .boolean) r_R_divide vs σ K := by
  rintro l vs σ K ⟨i, j, q, r, a, b, c, d, rfl, hi, hj, hq, hr, hqi, hqj, hri, hrj, hqr, ha, hb, h⟩
  refine zmet_of (own := "WideWordStack$Row") (f := f_R) (kk := kk_R) (t := ct_R_divide) (g := g_R) (cd := d_R_divide) (by decide +kernel) rfl fo_R ko_R go_R co_R_divide k_R_divide (Nat.le_of_ble_eq_true rfl) ?_
  intro V hV
  show V 0 [some _, some _, some _, some _, none] [] _
  have hrq : r ≠ q := fun z => hqr z.symm
  have atI : ∀ x y, ((σ.set q x).set r y)[i]? = some (LR 16 a) := fun x y => by rw [zk_ne hri, zk_ne hqi]; exact hi
  have atJ : ∀ x y, ((σ.set q x).set r y)[j]? = some (LR 16 b) := fun x y => by rw [zk_ne hrj, zk_ne hqj]; exact hj
  have atQ : ∀ x y, ((σ.set q x).set r y)[q]? = some x := fun x y => by rw [zk_ne hrq]; exact zk_self hq
  have atR : ∀ x y, ((σ.set q x).set r y)[r]? = some y := fun x y => zk_self (q0 := LR 16 d) (by rw [zk_ne hqr]; exact hr)
  have hb16 : b < 4294967296 ^ 16 := Nat.lt_of_lt_of_le hb (Nat.pow_le_pow_right (by decide) (by decide))
  refine hV.1 0 _ _ _ ?_
  simp -implicitDefEqProofs only [d_R_divide_0, d_R_divide_19, d_R_divide_27, d_R_divide_77, d_R_divide_83, t_R_divide_0, t_R_divide_19, t_R_divide_27, t_R_divide_77, t_R_divide_83, ct_R_divide, kk_R_50, zs_aload_n, zs_aload, zs_iload_n, zs_iload, zs_lload_n, zs_lload, zs_istore_n, zs_istore, zs_lstore_n, zs_lstore, zs_astore_n, zs_astore, zs_iinc, zs_iconst, zs_bipush, zs_sipush, zs_lconst0, zs_lconst1, zs_ldc2_w, zs_ldc_w, zs_iadd, zs_isub, zs_imul, zs_iand, zs_ior, zs_ixor, zs_ishl, zs_ishr, zs_iushr, zs_idiv, zs_irem, zs_ineg, zs_ladd, zs_lsub, zs_lmul, zs_land, zs_lor, zs_lxor, zs_ldiv, zs_lrem, zs_lcmp, zs_lshl, zs_lshr, zs_lushr, zs_i2l, zs_l2i, zs_i2c, zs_dup_i, zs_pop_i, zs_dup_a, zs_pop_a, zs_dup2, zs_pop2, zs_nop, zs_goto, zs_if_eq, zs_icmp_eq, zs_if_ne, zs_icmp_ne, zs_if_lt, zs_icmp_lt, zs_if_ge, zs_icmp_ge, zs_if_gt, zs_icmp_gt, zs_if_le, zs_icmp_le, zs_getf, zs_putf, zs_gets, zs_alen, zs_iald, zs_cald, zs_lald, zs_aald, zs_iast, zs_cast, zs_last, zs_invstatic, zs_invvirtual, zs_invspecial, zs_ireturn, zs_lreturn, zs_areturn, zs_return, zs_tsw, zs_lsw, zr_zva0, zr_zvas, zr_zvai0, zr_zvais, zr_zvi0, zr_zvis, zr_zvii0, zr_zviis, zr_zvl0, zr_zvls, zr_zvli0, zr_zvlis, zr_zs1_0, zr_zs1_1n, zr_zs1_1i, zr_zs1_1a, zr_zs1_1l, zr_zs1_s, zr_zs2_0, zr_zs2_1n, zr_zs2_1i, zr_zs2_1a, zr_zs2_1l, zr_zs2_s, zr_f0, zr_f1, zr_f2, zr_f3, zr_kp, zr_k0, zr_k1, zr_km1, zr_km2, zr_km4, zr_km8, zr_km16, zr_tp, zr_tn, zr_kl, zr_ki, zr_kil, zr_kii, zr_ov, zr_is, zr_cn, zr_cfi, zr_cfl, zr_cfr, zr_cfo, zr_isi, zr_isl, zr_isc, zr_isr, zr_isn0, zr_isn1, zr_isn2, zr_iso, zr_reti, zr_ctm, zr_cat0, zr_cati, zr_cata, zr_catl, zr_cs0, zr_cs1, zr_cs2, zr_cs3, zr_cs4, zr_cs5, zr_cs6, Nat.reduceLeDiff, Option.toList_none, Option.toList_some, List.nil_append, List.cons_append, Nat.le_refl, true_and, Nat.reduceAdd, Nat.reduceSub, Nat.reduceMul, Nat.reduceEqDiff, if_true, if_false, ite_true, ite_false, reduceIte, List.getElem?_cons_zero, List.getElem?_cons_succ]
  refine ⟨q, 16, c, 0, 0, rfl, hq, by decide, fun x _ => dg_zero _ _, ?_⟩
  simp -implicitDefEqProofs only [d_R_divide_0, d_R_divide_19, d_R_divide_27, d_R_divide_77, d_R_divide_83, t_R_divide_0, t_R_divide_19, t_R_divide_27, t_R_divide_77, t_R_divide_83, ct_R_divide, kk_R_50, zs_aload_n, zs_aload, zs_iload_n, zs_iload, zs_lload_n, zs_lload, zs_istore_n, zs_istore, zs_lstore_n, zs_lstore, zs_astore_n, zs_astore, zs_iinc, zs_iconst, zs_bipush, zs_sipush, zs_lconst0, zs_lconst1, zs_ldc2_w, zs_ldc_w, zs_iadd, zs_isub, zs_imul, zs_iand, zs_ior, zs_ixor, zs_ishl, zs_ishr, zs_iushr, zs_idiv, zs_irem, zs_ineg, zs_ladd, zs_lsub, zs_lmul, zs_land, zs_lor, zs_lxor, zs_ldiv, zs_lrem, zs_lcmp, zs_lshl, zs_lshr, zs_lushr, zs_i2l, zs_l2i, zs_i2c, zs_dup_i, zs_pop_i, zs_dup_a, zs_pop_a, zs_dup2, zs_pop2, zs_nop, zs_goto, zs_if_eq, zs_icmp_eq, zs_if_ne, zs_icmp_ne, zs_if_lt, zs_icmp_lt, zs_if_ge, zs_icmp_ge, zs_if_gt, zs_icmp_gt, zs_if_le, zs_icmp_le, zs_getf, zs_putf, zs_gets, zs_alen, zs_iald, zs_cald, zs_lald, zs_aald, zs_iast, zs_cast, zs_last, zs_invstatic, zs_invvirtual, zs_invspecial, zs_ireturn, zs_lreturn, zs_areturn, zs_return, zs_tsw, zs_lsw, zr_zva0, zr_zvas, zr_zvai0, zr_zvais, zr_zvi0, zr_zvis, zr_zvii0, zr_zviis, zr_zvl0, zr_zvls, zr_zvli0, zr_zvlis, zr_zs1_0, zr_zs1_1n, zr_zs1_1i, zr_zs1_1a, zr_zs1_1l, zr_zs1_s, zr_zs2_0, zr_zs2_1n, zr_zs2_1i, zr_zs2_1a, zr_zs2_1l, zr_zs2_s, zr_f0, zr_f1, zr_f2, zr_f3, zr_kp, zr_k0, zr_k1, zr_km1, zr_km2, zr_km4, zr_km8, zr_km16, zr_tp, zr_tn, zr_kl, zr_ki, zr_kil, zr_kii, zr_ov, zr_is, zr_cn, zr_cfi, zr_cfl, zr_cfr, zr_cfo, zr_isi, zr_isl, zr_isc, zr_isr, zr_isn0, zr_isn1, zr_isn2, zr_iso, zr_reti, zr_ctm, zr_cat0, zr_cati, zr_cata, zr_catl, zr_cs0, zr_cs1, zr_cs2, zr_cs3, zr_cs4, zr_cs5, zr_cs6, Nat.reduceLeDiff, Option.toList_none, Option.toList_some, List.nil_append, List.cons_append, Nat.le_refl, true_and, Nat.reduceAdd, Nat.reduceSub, Nat.reduceMul, Nat.reduceEqDiff, if_true, if_false, ite_true, ite_false, reduceIte, List.getElem?_cons_zero, List.getElem?_cons_succ]
  refine ⟨r, 16, d, 0, 0, rfl, by rw [zk_ne hqr]; exact hr, by decide, fun x _ => dg_zero _ _, ?_⟩
  simp -implicitDefEqProofs only [d_R_divide_0, d_R_divide_19, d_R_divide_27, d_R_divide_77, d_R_divide_83, t_R_divide_0, t_R_divide_19, t_R_divide_27, t_R_divide_77, t_R_divide_83, ct_R_divide, kk_R_50, zs_aload_n, zs_aload, zs_iload_n, zs_iload, zs_lload_n, zs_lload, zs_istore_n, zs_istore, zs_lstore_n, zs_lstore, zs_astore_n, zs_astore, zs_iinc, zs_iconst, zs_bipush, zs_sipush, zs_lconst0, zs_lconst1, zs_ldc2_w, zs_ldc_w, zs_iadd, zs_isub, zs_imul, zs_iand, zs_ior, zs_ixor, zs_ishl, zs_ishr, zs_iushr, zs_idiv, zs_irem, zs_ineg, zs_ladd, zs_lsub, zs_lmul, zs_land, zs_lor, zs_lxor, zs_ldiv, zs_lrem, zs_lcmp, zs_lshl, zs_lshr, zs_lushr, zs_i2l, zs_l2i, zs_i2c, zs_dup_i, zs_pop_i, zs_dup_a, zs_pop_a, zs_dup2, zs_pop2, zs_nop, zs_goto, zs_if_eq, zs_icmp_eq, zs_if_ne, zs_icmp_ne, zs_if_lt, zs_icmp_lt, zs_if_ge, zs_icmp_ge, zs_if_gt, zs_icmp_gt, zs_if_le, zs_icmp_le, zs_getf, zs_putf, zs_gets, zs_alen, zs_iald, zs_cald, zs_lald, zs_aald, zs_iast, zs_cast, zs_last, zs_invstatic, zs_invvirtual, zs_invspecial, zs_ireturn, zs_lreturn, zs_areturn, zs_return, zs_tsw, zs_lsw, zr_zva0, zr_zvas, zr_zvai0, zr_zvais, zr_zvi0, zr_zvis, zr_zvii0, zr_zviis, zr_zvl0, zr_zvls, zr_zvli0, zr_zvlis, zr_zs1_0, zr_zs1_1n, zr_zs1_1i, zr_zs1_1a, zr_zs1_1l, zr_zs1_s, zr_zs2_0, zr_zs2_1n, zr_zs2_1i, zr_zs2_1a, zr_zs2_1l, zr_zs2_s, zr_f0, zr_f1, zr_f2, zr_f3, zr_kp, zr_k0, zr_k1, zr_km1, zr_km2, zr_km4, zr_km8, zr_km16, zr_tp, zr_tn, zr_kl, zr_ki, zr_kil, zr_kii, zr_ov, zr_is, zr_cn, zr_cfi, zr_cfl, zr_cfr, zr_cfo, zr_isi, zr_isl, zr_isc, zr_isr, zr_isn0, zr_isn1, zr_isn2, zr_iso, zr_reti, zr_ctm, zr_cat0, zr_cati, zr_cata, zr_catl, zr_cs0, zr_cs1, zr_cs2, zr_cs3, zr_cs4, zr_cs5, zr_cs6, Nat.reduceLeDiff, Option.toList_none, Option.toList_some, List.nil_append, List.cons_append, Nat.le_refl, true_and, Nat.reduceAdd, Nat.reduceSub, Nat.reduceMul, Nat.reduceEqDiff, if_true, if_false, ite_true, ite_false, reduceIte, List.getElem?_cons_zero, List.getElem?_cons_succ]
  refine ⟨j, 16, b, rfl, zk_in (atJ _ _), by decide, hb16, ?_⟩
  simp -implicitDefEqProofs only [d_R_divide_0, d_R_divide_19, d_R_divide_27, d_R_divide_77, d_R_divide_83, t_R_divide_0, t_R_divide_19, t_R_divide_27, t_R_divide_77, t_R_divide_83, ct_R_divide, kk_R_50, zs_aload_n, zs_aload, zs_iload_n, zs_iload, zs_lload_n, zs_lload, zs_istore_n, zs_istore, zs_lstore_n, zs_lstore, zs_astore_n, zs_astore, zs_iinc, zs_iconst, zs_bipush, zs_sipush, zs_lconst0, zs_lconst1, zs_ldc2_w, zs_ldc_w, zs_iadd, zs_isub, zs_imul, zs_iand, zs_ior, zs_ixor, zs_ishl, zs_ishr, zs_iushr, zs_idiv, zs_irem, zs_ineg, zs_ladd, zs_lsub, zs_lmul, zs_land, zs_lor, zs_lxor, zs_ldiv, zs_lrem, zs_lcmp, zs_lshl, zs_lshr, zs_lushr, zs_i2l, zs_l2i, zs_i2c, zs_dup_i, zs_pop_i, zs_dup_a, zs_pop_a, zs_dup2, zs_pop2, zs_nop, zs_goto, zs_if_eq, zs_icmp_eq, zs_if_ne, zs_icmp_ne, zs_if_lt, zs_icmp_lt, zs_if_ge, zs_icmp_ge, zs_if_gt, zs_icmp_gt, zs_if_le, zs_icmp_le, zs_getf, zs_putf, zs_gets, zs_alen, zs_iald, zs_cald, zs_lald, zs_aald, zs_iast, zs_cast, zs_last, zs_invstatic, zs_invvirtual, zs_invspecial, zs_ireturn, zs_lreturn, zs_areturn, zs_return, zs_tsw, zs_lsw, zr_zva0, zr_zvas, zr_zvai0, zr_zvais, zr_zvi0, zr_zvis, zr_zvii0, zr_zviis, zr_zvl0, zr_zvls, zr_zvli0, zr_zvlis, zr_zs1_0, zr_zs1_1n, zr_zs1_1i, zr_zs1_1a, zr_zs1_1l, zr_zs1_s, zr_zs2_0, zr_zs2_1n, zr_zs2_1i, zr_zs2_1a, zr_zs2_1l, zr_zs2_s, zr_f0, zr_f1, zr_f2, zr_f3, zr_kp, zr_k0, zr_k1, zr_km1, zr_km2, zr_km4, zr_km8, zr_km16, zr_tp, zr_tn, zr_kl, zr_ki, zr_kil, zr_kii, zr_ov, zr_is, zr_cn, zr_cfi, zr_cfl, zr_cfr, zr_cfo, zr_isi, zr_isl, zr_isc, zr_isr, zr_isn0, zr_isn1, zr_isn2, zr_iso, zr_reti, zr_ctm, zr_cat0, zr_cati, zr_cata, zr_catl, zr_cs0, zr_cs1, zr_cs2, zr_cs3, zr_cs4, zr_cs5, zr_cs6, Nat.reduceLeDiff, Option.toList_none, Option.toList_some, List.nil_append, List.cons_append, Nat.le_refl, true_and, Nat.reduceAdd, Nat.reduceSub, Nat.reduceMul, Nat.reduceEqDiff, if_true, if_false, ite_true, ite_false, reduceIte, List.getElem?_cons_zero, List.getElem?_cons_succ]
  by_cases hb0 : b = 0
  · rw [if_pos hb0] at h ⊢
    refine ⟨fun z => absurd z (by decide), fun _ => ⟨Or.inl rfl, zk0 h⟩⟩
  rw [if_neg hb0] at h ⊢
  refine ⟨fun _ => ?_, fun z => absurd rfl z⟩
  have hbp : 0 < b := by omega
  have loop : ∀ m, m ≤ 512 → V 27 [some (.ref i), some (.ref j), some (.ref q), some (.ref r), some (.int (nI m - nI 1))] [] ((σ.set q (LR 16 (a / 2 ^ m / b * 2 ^ m))).set r (LR 16 (a / 2 ^ m % b))) := by
    intro m
    induction m with
    | zero =>
      intro _
      refine hV.1 27 _ _ _ ?_
      simp -implicitDefEqProofs only [d_R_divide_0, d_R_divide_19, d_R_divide_27, d_R_divide_77, d_R_divide_83, t_R_divide_0, t_R_divide_19, t_R_divide_27, t_R_divide_77, t_R_divide_83, ct_R_divide, kk_R_50, zs_aload_n, zs_aload, zs_iload_n, zs_iload, zs_lload_n, zs_lload, zs_istore_n, zs_istore, zs_lstore_n, zs_lstore, zs_astore_n, zs_astore, zs_iinc, zs_iconst, zs_bipush, zs_sipush, zs_lconst0, zs_lconst1, zs_ldc2_w, zs_ldc_w, zs_iadd, zs_isub, zs_imul, zs_iand, zs_ior, zs_ixor, zs_ishl, zs_ishr, zs_iushr, zs_idiv, zs_irem, zs_ineg, zs_ladd, zs_lsub, zs_lmul, zs_land, zs_lor, zs_lxor, zs_ldiv, zs_lrem, zs_lcmp, zs_lshl, zs_lshr, zs_lushr, zs_i2l, zs_l2i, zs_i2c, zs_dup_i, zs_pop_i, zs_dup_a, zs_pop_a, zs_dup2, zs_pop2, zs_nop, zs_goto, zs_if_eq, zs_icmp_eq, zs_if_ne, zs_icmp_ne, zs_if_lt, zs_icmp_lt, zs_if_ge, zs_icmp_ge, zs_if_gt, zs_icmp_gt, zs_if_le, zs_icmp_le, zs_getf, zs_putf, zs_gets, zs_alen, zs_iald, zs_cald, zs_lald, zs_aald, zs_iast, zs_cast, zs_last, zs_invstatic, zs_invvirtual, zs_invspecial, zs_ireturn, zs_lreturn, zs_areturn, zs_return, zs_tsw, zs_lsw, zr_zva0, zr_zvas, zr_zvai0, zr_zvais, zr_zvi0, zr_zvis, zr_zvii0, zr_zviis, zr_zvl0, zr_zvls, zr_zvli0, zr_zvlis, zr_zs1_0, zr_zs1_1n, zr_zs1_1i, zr_zs1_1a, zr_zs1_1l, zr_zs1_s, zr_zs2_0, zr_zs2_1n, zr_zs2_1i, zr_zs2_1a, zr_zs2_1l, zr_zs2_s, zr_f0, zr_f1, zr_f2, zr_f3, zr_kp, zr_k0, zr_k1, zr_km1, zr_km2, zr_km4, zr_km8, zr_km16, zr_tp, zr_tn, zr_kl, zr_ki, zr_kil, zr_kii, zr_ov, zr_is, zr_cn, zr_cfi, zr_cfl, zr_cfr, zr_cfo, zr_isi, zr_isl, zr_isc, zr_isr, zr_isn0, zr_isn1, zr_isn2, zr_iso, zr_reti, zr_ctm, zr_cat0, zr_cati, zr_cata, zr_catl, zr_cs0, zr_cs1, zr_cs2, zr_cs3, zr_cs4, zr_cs5, zr_cs6, Nat.reduceLeDiff, Option.toList_none, Option.toList_some, List.nil_append, List.cons_append, Nat.le_refl, true_and, Nat.reduceAdd, Nat.reduceSub, Nat.reduceMul, Nat.reduceEqDiff, if_true, if_false, ite_true, ite_false, reduceIte, List.getElem?_cons_zero, List.getElem?_cons_succ]
      refine ⟨fun _ => ?_, fun z => absurd zi_neg0 z⟩
      refine hV.1 83 _ _ _ ?_
      simp -implicitDefEqProofs only [d_R_divide_0, d_R_divide_19, d_R_divide_27, d_R_divide_77, d_R_divide_83, t_R_divide_0, t_R_divide_19, t_R_divide_27, t_R_divide_77, t_R_divide_83, ct_R_divide, kk_R_50, zs_aload_n, zs_aload, zs_iload_n, zs_iload, zs_lload_n, zs_lload, zs_istore_n, zs_istore, zs_lstore_n, zs_lstore, zs_astore_n, zs_astore, zs_iinc, zs_iconst, zs_bipush, zs_sipush, zs_lconst0, zs_lconst1, zs_ldc2_w, zs_ldc_w, zs_iadd, zs_isub, zs_imul, zs_iand, zs_ior, zs_ixor, zs_ishl, zs_ishr, zs_iushr, zs_idiv, zs_irem, zs_ineg, zs_ladd, zs_lsub, zs_lmul, zs_land, zs_lor, zs_lxor, zs_ldiv, zs_lrem, zs_lcmp, zs_lshl, zs_lshr, zs_lushr, zs_i2l, zs_l2i, zs_i2c, zs_dup_i, zs_pop_i, zs_dup_a, zs_pop_a, zs_dup2, zs_pop2, zs_nop, zs_goto, zs_if_eq, zs_icmp_eq, zs_if_ne, zs_icmp_ne, zs_if_lt, zs_icmp_lt, zs_if_ge, zs_icmp_ge, zs_if_gt, zs_icmp_gt, zs_if_le, zs_icmp_le, zs_getf, zs_putf, zs_gets, zs_alen, zs_iald, zs_cald, zs_lald, zs_aald, zs_iast, zs_cast, zs_last, zs_invstatic, zs_invvirtual, zs_invspecial, zs_ireturn, zs_lreturn, zs_areturn, zs_return, zs_tsw, zs_lsw, zr_zva0, zr_zvas, zr_zvai0, zr_zvais, zr_zvi0, zr_zvis, zr_zvii0, zr_zviis, zr_zvl0, zr_zvls, zr_zvli0, zr_zvlis, zr_zs1_0, zr_zs1_1n, zr_zs1_1i, zr_zs1_1a, zr_zs1_1l, zr_zs1_s, zr_zs2_0, zr_zs2_1n, zr_zs2_1i, zr_zs2_1a, zr_zs2_1l, zr_zs2_s, zr_f0, zr_f1, zr_f2, zr_f3, zr_kp, zr_k0, zr_k1, zr_km1, zr_km2, zr_km4, zr_km8, zr_km16, zr_tp, zr_tn, zr_kl, zr_ki, zr_kil, zr_kii, zr_ov, zr_is, zr_cn, zr_cfi, zr_cfl, zr_cfr, zr_cfo, zr_isi, zr_isl, zr_isc, zr_isr, zr_isn0, zr_isn1, zr_isn2, zr_iso, zr_reti, zr_ctm, zr_cat0, zr_cati, zr_cata, zr_catl, zr_cs0, zr_cs1, zr_cs2, zr_cs3, zr_cs4, zr_cs5, zr_cs6, Nat.reduceLeDiff, Option.toList_none, Option.toList_some, List.nil_append, List.cons_append, Nat.le_refl, true_and, Nat.reduceAdd, Nat.reduceSub, Nat.reduceMul, Nat.reduceEqDiff, if_true, if_false, ite_true, ite_false, reduceIte, List.getElem?_cons_zero, List.getElem?_cons_succ]
      rw [Nat.pow_zero, Nat.div_one, Nat.mul_one]
      exact ⟨Or.inr rfl, zk0 h⟩
    | succ m ih =>
      intro hm
      rw [zi_m1]
      obtain ⟨s1, s2⟩ := nm_divstep (u := a) (m := m) hbp
      have hR : a / 2 ^ (m + 1) % b < b := Nat.mod_lt _ hbp
      have ht : a / 2 ^ m % 2 < 2 := Nat.mod_lt _ (by decide)
      have hB : (4294967296 : Nat) ^ 8 * 4294967296 ^ 8 = 4294967296 ^ 16 := by rw [← Nat.pow_add]
      have hR16 : a / 2 ^ (m + 1) % b * 2 + a / 2 ^ m % 2 < 4294967296 ^ 16 := by omega
      have hle : a / 2 ^ m / b * 2 ^ m ≤ a := Nat.le_trans (Nat.mul_le_mul_right _ (Nat.div_le_self _ _)) (Nat.div_mul_le_self _ _)
      refine hV.1 27 _ _ _ ?_
      simp -implicitDefEqProofs only [d_R_divide_0, d_R_divide_19, d_R_divide_27, d_R_divide_77, d_R_divide_83, t_R_divide_0, t_R_divide_19, t_R_divide_27, t_R_divide_77, t_R_divide_83, ct_R_divide, kk_R_50, zs_aload_n, zs_aload, zs_iload_n, zs_iload, zs_lload_n, zs_lload, zs_istore_n, zs_istore, zs_lstore_n, zs_lstore, zs_astore_n, zs_astore, zs_iinc, zs_iconst, zs_bipush, zs_sipush, zs_lconst0, zs_lconst1, zs_ldc2_w, zs_ldc_w, zs_iadd, zs_isub, zs_imul, zs_iand, zs_ior, zs_ixor, zs_ishl, zs_ishr, zs_iushr, zs_idiv, zs_irem, zs_ineg, zs_ladd, zs_lsub, zs_lmul, zs_land, zs_lor, zs_lxor, zs_ldiv, zs_lrem, zs_lcmp, zs_lshl, zs_lshr, zs_lushr, zs_i2l, zs_l2i, zs_i2c, zs_dup_i, zs_pop_i, zs_dup_a, zs_pop_a, zs_dup2, zs_pop2, zs_nop, zs_goto, zs_if_eq, zs_icmp_eq, zs_if_ne, zs_icmp_ne, zs_if_lt, zs_icmp_lt, zs_if_ge, zs_icmp_ge, zs_if_gt, zs_icmp_gt, zs_if_le, zs_icmp_le, zs_getf, zs_putf, zs_gets, zs_alen, zs_iald, zs_cald, zs_lald, zs_aald, zs_iast, zs_cast, zs_last, zs_invstatic, zs_invvirtual, zs_invspecial, zs_ireturn, zs_lreturn, zs_areturn, zs_return, zs_tsw, zs_lsw, zr_zva0, zr_zvas, zr_zvai0, zr_zvais, zr_zvi0, zr_zvis, zr_zvii0, zr_zviis, zr_zvl0, zr_zvls, zr_zvli0, zr_zvlis, zr_zs1_0, zr_zs1_1n, zr_zs1_1i, zr_zs1_1a, zr_zs1_1l, zr_zs1_s, zr_zs2_0, zr_zs2_1n, zr_zs2_1i, zr_zs2_1a, zr_zs2_1l, zr_zs2_s, zr_f0, zr_f1, zr_f2, zr_f3, zr_kp, zr_k0, zr_k1, zr_km1, zr_km2, zr_km4, zr_km8, zr_km16, zr_tp, zr_tn, zr_kl, zr_ki, zr_kil, zr_kii, zr_ov, zr_is, zr_cn, zr_cfi, zr_cfl, zr_cfr, zr_cfo, zr_isi, zr_isl, zr_isc, zr_isr, zr_isn0, zr_isn1, zr_isn2, zr_iso, zr_reti, zr_ctm, zr_cat0, zr_cati, zr_cata, zr_catl, zr_cs0, zr_cs1, zr_cs2, zr_cs3, zr_cs4, zr_cs5, zr_cs6, Nat.reduceLeDiff, Option.toList_none, Option.toList_some, List.nil_append, List.cons_append, Nat.le_refl, true_and, Nat.reduceAdd, Nat.reduceSub, Nat.reduceMul, Nat.reduceEqDiff, if_true, if_false, ite_true, ite_false, reduceIte, List.getElem?_cons_zero, List.getElem?_cons_succ]
      refine ⟨fun z => absurd z (zi_nn (by omega)), fun _ => ?_⟩
      refine ⟨i, 16, a, m, rfl, zk_in (atI _ _), by decide, by omega, ?_⟩
      simp -implicitDefEqProofs only [d_R_divide_0, d_R_divide_19, d_R_divide_27, d_R_divide_77, d_R_divide_83, t_R_divide_0, t_R_divide_19, t_R_divide_27, t_R_divide_77, t_R_divide_83, ct_R_divide, kk_R_50, zs_aload_n, zs_aload, zs_iload_n, zs_iload, zs_lload_n, zs_lload, zs_istore_n, zs_istore, zs_lstore_n, zs_lstore, zs_astore_n, zs_astore, zs_iinc, zs_iconst, zs_bipush, zs_sipush, zs_lconst0, zs_lconst1, zs_ldc2_w, zs_ldc_w, zs_iadd, zs_isub, zs_imul, zs_iand, zs_ior, zs_ixor, zs_ishl, zs_ishr, zs_iushr, zs_idiv, zs_irem, zs_ineg, zs_ladd, zs_lsub, zs_lmul, zs_land, zs_lor, zs_lxor, zs_ldiv, zs_lrem, zs_lcmp, zs_lshl, zs_lshr, zs_lushr, zs_i2l, zs_l2i, zs_i2c, zs_dup_i, zs_pop_i, zs_dup_a, zs_pop_a, zs_dup2, zs_pop2, zs_nop, zs_goto, zs_if_eq, zs_icmp_eq, zs_if_ne, zs_icmp_ne, zs_if_lt, zs_icmp_lt, zs_if_ge, zs_icmp_ge, zs_if_gt, zs_icmp_gt, zs_if_le, zs_icmp_le, zs_getf, zs_putf, zs_gets, zs_alen, zs_iald, zs_cald, zs_lald, zs_aald, zs_iast, zs_cast, zs_last, zs_invstatic, zs_invvirtual, zs_invspecial, zs_ireturn, zs_lreturn, zs_areturn, zs_return, zs_tsw, zs_lsw, zr_zva0, zr_zvas, zr_zvai0, zr_zvais, zr_zvi0, zr_zvis, zr_zvii0, zr_zviis, zr_zvl0, zr_zvls, zr_zvli0, zr_zvlis, zr_zs1_0, zr_zs1_1n, zr_zs1_1i, zr_zs1_1a, zr_zs1_1l, zr_zs1_s, zr_zs2_0, zr_zs2_1n, zr_zs2_1i, zr_zs2_1a, zr_zs2_1l, zr_zs2_s, zr_f0, zr_f1, zr_f2, zr_f3, zr_kp, zr_k0, zr_k1, zr_km1, zr_km2, zr_km4, zr_km8, zr_km16, zr_tp, zr_tn, zr_kl, zr_ki, zr_kil, zr_kii, zr_ov, zr_is, zr_cn, zr_cfi, zr_cfl, zr_cfr, zr_cfo, zr_isi, zr_isl, zr_isc, zr_isr, zr_isn0, zr_isn1, zr_isn2, zr_iso, zr_reti, zr_ctm, zr_cat0, zr_cati, zr_cata, zr_catl, zr_cs0, zr_cs1, zr_cs2, zr_cs3, zr_cs4, zr_cs5, zr_cs6, Nat.reduceLeDiff, Option.toList_none, Option.toList_some, List.nil_append, List.cons_append, Nat.le_refl, true_and, Nat.reduceAdd, Nat.reduceSub, Nat.reduceMul, Nat.reduceEqDiff, if_true, if_false, ite_true, ite_false, reduceIte, List.getElem?_cons_zero, List.getElem?_cons_succ]
      refine ⟨r, 16, _, 2, a / 2 ^ m % 2, rfl, atR _ _, by decide, by omega, by decide, by omega, ?_⟩
      simp -implicitDefEqProofs only [d_R_divide_0, d_R_divide_19, d_R_divide_27, d_R_divide_77, d_R_divide_83, t_R_divide_0, t_R_divide_19, t_R_divide_27, t_R_divide_77, t_R_divide_83, ct_R_divide, kk_R_50, zs_aload_n, zs_aload, zs_iload_n, zs_iload, zs_lload_n, zs_lload, zs_istore_n, zs_istore, zs_lstore_n, zs_lstore, zs_astore_n, zs_astore, zs_iinc, zs_iconst, zs_bipush, zs_sipush, zs_lconst0, zs_lconst1, zs_ldc2_w, zs_ldc_w, zs_iadd, zs_isub, zs_imul, zs_iand, zs_ior, zs_ixor, zs_ishl, zs_ishr, zs_iushr, zs_idiv, zs_irem, zs_ineg, zs_ladd, zs_lsub, zs_lmul, zs_land, zs_lor, zs_lxor, zs_ldiv, zs_lrem, zs_lcmp, zs_lshl, zs_lshr, zs_lushr, zs_i2l, zs_l2i, zs_i2c, zs_dup_i, zs_pop_i, zs_dup_a, zs_pop_a, zs_dup2, zs_pop2, zs_nop, zs_goto, zs_if_eq, zs_icmp_eq, zs_if_ne, zs_icmp_ne, zs_if_lt, zs_icmp_lt, zs_if_ge, zs_icmp_ge, zs_if_gt, zs_icmp_gt, zs_if_le, zs_icmp_le, zs_getf, zs_putf, zs_gets, zs_alen, zs_iald, zs_cald, zs_lald, zs_aald, zs_iast, zs_cast, zs_last, zs_invstatic, zs_invvirtual, zs_invspecial, zs_ireturn, zs_lreturn, zs_areturn, zs_return, zs_tsw, zs_lsw, zr_zva0, zr_zvas, zr_zvai0, zr_zvais, zr_zvi0, zr_zvis, zr_zvii0, zr_zviis, zr_zvl0, zr_zvls, zr_zvli0, zr_zvlis, zr_zs1_0, zr_zs1_1n, zr_zs1_1i, zr_zs1_1a, zr_zs1_1l, zr_zs1_s, zr_zs2_0, zr_zs2_1n, zr_zs2_1i, zr_zs2_1a, zr_zs2_1l, zr_zs2_s, zr_f0, zr_f1, zr_f2, zr_f3, zr_kp, zr_k0, zr_k1, zr_km1, zr_km2, zr_km4, zr_km8, zr_km16, zr_tp, zr_tn, zr_kl, zr_ki, zr_kil, zr_kii, zr_ov, zr_is, zr_cn, zr_cfi, zr_cfl, zr_cfr, zr_cfo, zr_isi, zr_isl, zr_isc, zr_isr, zr_isn0, zr_isn1, zr_isn2, zr_iso, zr_reti, zr_ctm, zr_cat0, zr_cati, zr_cata, zr_catl, zr_cs0, zr_cs1, zr_cs2, zr_cs3, zr_cs4, zr_cs5, zr_cs6, Nat.reduceLeDiff, Option.toList_none, Option.toList_some, List.nil_append, List.cons_append, Nat.le_refl, true_and, Nat.reduceAdd, Nat.reduceSub, Nat.reduceMul, Nat.reduceEqDiff, if_true, if_false, ite_true, ite_false, reduceIte, List.getElem?_cons_zero, List.getElem?_cons_succ, List.set_set]
      rw [Nat.mod_eq_of_lt hR16, Nat.mul_comm _ 2]
      refine ⟨r, j, 16, _, b, rfl, zk_in (atR _ _), zk_in (atJ _ _), by decide, by omega, hb16, ?_⟩
      simp -implicitDefEqProofs only [d_R_divide_0, d_R_divide_19, d_R_divide_27, d_R_divide_77, d_R_divide_83, t_R_divide_0, t_R_divide_19, t_R_divide_27, t_R_divide_77, t_R_divide_83, ct_R_divide, kk_R_50, zs_aload_n, zs_aload, zs_iload_n, zs_iload, zs_lload_n, zs_lload, zs_istore_n, zs_istore, zs_lstore_n, zs_lstore, zs_astore_n, zs_astore, zs_iinc, zs_iconst, zs_bipush, zs_sipush, zs_lconst0, zs_lconst1, zs_ldc2_w, zs_ldc_w, zs_iadd, zs_isub, zs_imul, zs_iand, zs_ior, zs_ixor, zs_ishl, zs_ishr, zs_iushr, zs_idiv, zs_irem, zs_ineg, zs_ladd, zs_lsub, zs_lmul, zs_land, zs_lor, zs_lxor, zs_ldiv, zs_lrem, zs_lcmp, zs_lshl, zs_lshr, zs_lushr, zs_i2l, zs_l2i, zs_i2c, zs_dup_i, zs_pop_i, zs_dup_a, zs_pop_a, zs_dup2, zs_pop2, zs_nop, zs_goto, zs_if_eq, zs_icmp_eq, zs_if_ne, zs_icmp_ne, zs_if_lt, zs_icmp_lt, zs_if_ge, zs_icmp_ge, zs_if_gt, zs_icmp_gt, zs_if_le, zs_icmp_le, zs_getf, zs_putf, zs_gets, zs_alen, zs_iald, zs_cald, zs_lald, zs_aald, zs_iast, zs_cast, zs_last, zs_invstatic, zs_invvirtual, zs_invspecial, zs_ireturn, zs_lreturn, zs_areturn, zs_return, zs_tsw, zs_lsw, zr_zva0, zr_zvas, zr_zvai0, zr_zvais, zr_zvi0, zr_zvis, zr_zvii0, zr_zviis, zr_zvl0, zr_zvls, zr_zvli0, zr_zvlis, zr_zs1_0, zr_zs1_1n, zr_zs1_1i, zr_zs1_1a, zr_zs1_1l, zr_zs1_s, zr_zs2_0, zr_zs2_1n, zr_zs2_1i, zr_zs2_1a, zr_zs2_1l, zr_zs2_s, zr_f0, zr_f1, zr_f2, zr_f3, zr_kp, zr_k0, zr_k1, zr_km1, zr_km2, zr_km4, zr_km8, zr_km16, zr_tp, zr_tn, zr_kl, zr_ki, zr_kil, zr_kii, zr_ov, zr_is, zr_cn, zr_cfi, zr_cfl, zr_cfr, zr_cfo, zr_isi, zr_isl, zr_isc, zr_isr, zr_isn0, zr_isn1, zr_isn2, zr_iso, zr_reti, zr_ctm, zr_cat0, zr_cati, zr_cata, zr_catl, zr_cs0, zr_cs1, zr_cs2, zr_cs3, zr_cs4, zr_cs5, zr_cs6, Nat.reduceLeDiff, Option.toList_none, Option.toList_some, List.nil_append, List.cons_append, Nat.le_refl, true_and, Nat.reduceAdd, Nat.reduceSub, Nat.reduceMul, Nat.reduceEqDiff, if_true, if_false, ite_true, ite_false, reduceIte, List.getElem?_cons_zero, List.getElem?_cons_succ]
      rw [cmpI_lt]
      have dec : ∀ x y, V 27 [some (.ref i), some (.ref j), some (.ref q), some (.ref r), some (.int (nI m - nI 1))] [] ((σ.set q x).set r y) → V 77 [some (.ref i), some (.ref j), some (.ref q), some (.ref r), some (.int (nI m))] [] ((σ.set q x).set r y) := by
        intro x y hxy
        refine hV.1 77 _ _ _ ?_
        simp -implicitDefEqProofs only [d_R_divide_0, d_R_divide_19, d_R_divide_27, d_R_divide_77, d_R_divide_83, t_R_divide_0, t_R_divide_19, t_R_divide_27, t_R_divide_77, t_R_divide_83, ct_R_divide, kk_R_50, zs_aload_n, zs_aload, zs_iload_n, zs_iload, zs_lload_n, zs_lload, zs_istore_n, zs_istore, zs_lstore_n, zs_lstore, zs_astore_n, zs_astore, zs_iinc, zs_iconst, zs_bipush, zs_sipush, zs_lconst0, zs_lconst1, zs_ldc2_w, zs_ldc_w, zs_iadd, zs_isub, zs_imul, zs_iand, zs_ior, zs_ixor, zs_ishl, zs_ishr, zs_iushr, zs_idiv, zs_irem, zs_ineg, zs_ladd, zs_lsub, zs_lmul, zs_land, zs_lor, zs_lxor, zs_ldiv, zs_lrem, zs_lcmp, zs_lshl, zs_lshr, zs_lushr, zs_i2l, zs_l2i, zs_i2c, zs_dup_i, zs_pop_i, zs_dup_a, zs_pop_a, zs_dup2, zs_pop2, zs_nop, zs_goto, zs_if_eq, zs_icmp_eq, zs_if_ne, zs_icmp_ne, zs_if_lt, zs_icmp_lt, zs_if_ge, zs_icmp_ge, zs_if_gt, zs_icmp_gt, zs_if_le, zs_icmp_le, zs_getf, zs_putf, zs_gets, zs_alen, zs_iald, zs_cald, zs_lald, zs_aald, zs_iast, zs_cast, zs_last, zs_invstatic, zs_invvirtual, zs_invspecial, zs_ireturn, zs_lreturn, zs_areturn, zs_return, zs_tsw, zs_lsw, zr_zva0, zr_zvas, zr_zvai0, zr_zvais, zr_zvi0, zr_zvis, zr_zvii0, zr_zviis, zr_zvl0, zr_zvls, zr_zvli0, zr_zvlis, zr_zs1_0, zr_zs1_1n, zr_zs1_1i, zr_zs1_1a, zr_zs1_1l, zr_zs1_s, zr_zs2_0, zr_zs2_1n, zr_zs2_1i, zr_zs2_1a, zr_zs2_1l, zr_zs2_s, zr_f0, zr_f1, zr_f2, zr_f3, zr_kp, zr_k0, zr_k1, zr_km1, zr_km2, zr_km4, zr_km8, zr_km16, zr_tp, zr_tn, zr_kl, zr_ki, zr_kil, zr_kii, zr_ov, zr_is, zr_cn, zr_cfi, zr_cfl, zr_cfr, zr_cfo, zr_isi, zr_isl, zr_isc, zr_isr, zr_isn0, zr_isn1, zr_isn2, zr_iso, zr_reti, zr_ctm, zr_cat0, zr_cati, zr_cata, zr_catl, zr_cs0, zr_cs1, zr_cs2, zr_cs3, zr_cs4, zr_cs5, zr_cs6, Nat.reduceLeDiff, Option.toList_none, Option.toList_some, List.nil_append, List.cons_append, Nat.le_refl, true_and, Nat.reduceAdd, Nat.reduceSub, Nat.reduceMul, Nat.reduceEqDiff, if_true, if_false, ite_true, ite_false, reduceIte, List.getElem?_cons_zero, List.getElem?_cons_succ]
        rw [zi_pm]
        exact hxy
      refine ⟨fun hc => ?_, fun hc => ?_⟩
      · rw [if_neg (by omega)] at s1 s2
        refine dec _ _ ?_
        have := ih (by omega)
        rw [s1, s2, Nat.add_zero, Nat.sub_zero, show 2 * (a / 2 ^ (m + 1) / b) * 2 ^ m = a / 2 ^ (m + 1) / b * 2 ^ (m + 1) by rw [Nat.pow_succ, Nat.mul_comm 2, Nat.mul_assoc, Nat.mul_comm 2]] at this
        exact this
      · rw [if_pos (by omega)] at s1 s2
        refine ⟨r, j, r, 16, _, b, _, rfl, atR _ _, atJ _ _, atR _ _, hrj, by decide, by omega, by omega, ?_⟩
        simp -implicitDefEqProofs only [d_R_divide_0, d_R_divide_19, d_R_divide_27, d_R_divide_77, d_R_divide_83, t_R_divide_0, t_R_divide_19, t_R_divide_27, t_R_divide_77, t_R_divide_83, ct_R_divide, kk_R_50, zs_aload_n, zs_aload, zs_iload_n, zs_iload, zs_lload_n, zs_lload, zs_istore_n, zs_istore, zs_lstore_n, zs_lstore, zs_astore_n, zs_astore, zs_iinc, zs_iconst, zs_bipush, zs_sipush, zs_lconst0, zs_lconst1, zs_ldc2_w, zs_ldc_w, zs_iadd, zs_isub, zs_imul, zs_iand, zs_ior, zs_ixor, zs_ishl, zs_ishr, zs_iushr, zs_idiv, zs_irem, zs_ineg, zs_ladd, zs_lsub, zs_lmul, zs_land, zs_lor, zs_lxor, zs_ldiv, zs_lrem, zs_lcmp, zs_lshl, zs_lshr, zs_lushr, zs_i2l, zs_l2i, zs_i2c, zs_dup_i, zs_pop_i, zs_dup_a, zs_pop_a, zs_dup2, zs_pop2, zs_nop, zs_goto, zs_if_eq, zs_icmp_eq, zs_if_ne, zs_icmp_ne, zs_if_lt, zs_icmp_lt, zs_if_ge, zs_icmp_ge, zs_if_gt, zs_icmp_gt, zs_if_le, zs_icmp_le, zs_getf, zs_putf, zs_gets, zs_alen, zs_iald, zs_cald, zs_lald, zs_aald, zs_iast, zs_cast, zs_last, zs_invstatic, zs_invvirtual, zs_invspecial, zs_ireturn, zs_lreturn, zs_areturn, zs_return, zs_tsw, zs_lsw, zr_zva0, zr_zvas, zr_zvai0, zr_zvais, zr_zvi0, zr_zvis, zr_zvii0, zr_zviis, zr_zvl0, zr_zvls, zr_zvli0, zr_zvlis, zr_zs1_0, zr_zs1_1n, zr_zs1_1i, zr_zs1_1a, zr_zs1_1l, zr_zs1_s, zr_zs2_0, zr_zs2_1n, zr_zs2_1i, zr_zs2_1a, zr_zs2_1l, zr_zs2_s, zr_f0, zr_f1, zr_f2, zr_f3, zr_kp, zr_k0, zr_k1, zr_km1, zr_km2, zr_km4, zr_km8, zr_km16, zr_tp, zr_tn, zr_kl, zr_ki, zr_kil, zr_kii, zr_ov, zr_is, zr_cn, zr_cfi, zr_cfl, zr_cfr, zr_cfo, zr_isi, zr_isl, zr_isc, zr_isr, zr_isn0, zr_isn1, zr_isn2, zr_iso, zr_reti, zr_ctm, zr_cat0, zr_cati, zr_cata, zr_catl, zr_cs0, zr_cs1, zr_cs2, zr_cs3, zr_cs4, zr_cs5, zr_cs6, Nat.reduceLeDiff, Option.toList_none, Option.toList_some, List.nil_append, List.cons_append, Nat.le_refl, true_and, Nat.reduceAdd, Nat.reduceSub, Nat.reduceMul, Nat.reduceEqDiff, if_true, if_false, ite_true, ite_false, reduceIte, List.getElem?_cons_zero, List.getElem?_cons_succ, List.set_set, atQ, zk_in (atQ _ _)]
        obtain ⟨y, hy⟩ := nm_setbit (Q := a / 2 ^ (m + 1) / b) (m := m)
        have hdl := dg_lt (b := 4294967296) (by decide) (a / 2 ^ (m + 1) / b * 2 ^ (m + 1)) (m / 32)
        have hp32 : 2 ^ (m % 32 + 1) * 2 ^ (31 - m % 32) = 4294967296 := by
          rw [← Nat.pow_add, show m % 32 + 1 + (31 - m % 32) = 32 by omega]
        have hpl : 2 ^ (m % 32) < 2 ^ (m % 32 + 1) := Nat.pow_lt_pow_right (by decide) (by omega)
        have hsum : dg 4294967296 (a / 2 ^ (m + 1) / b * 2 ^ (m + 1)) (m / 32) + 2 ^ (m % 32) < 4294967296 := by
          rw [hy] at hdl ⊢
          rw [← hp32, Nat.mul_comm (2 ^ (m % 32 + 1))] at hdl
          have h5 : y < 2 ^ (31 - m % 32) := Nat.lt_of_mul_lt_mul_right hdl
          have h6 : (y + 1) * 2 ^ (m % 32 + 1) ≤ 2 ^ (31 - m % 32) * 2 ^ (m % 32 + 1) := Nat.mul_le_mul_right _ h5
          rw [Nat.add_mul, Nat.one_mul, Nat.mul_comm (2 ^ (31 - m % 32)), hp32] at h6
          omega
        have hor : lN (dg 4294967296 (a / 2 ^ (m + 1) / b * 2 ^ (m + 1)) (m / 32)) ||| lN (1 * 2 ^ (m % 32)) = lN (dg 4294967296 (a / 2 ^ (m + 1) / b * 2 ^ (m + 1)) (m / 32) + 2 ^ (m % 32)) := by
          rw [Nat.one_mul, hy]
          rw [hy] at hsum
          exact g_or (k := m % 32 + 1) rfl hpl (by omega)
        rw [zi_rem (by omega) (by decide) (by decide), zi_div (by omega) (by decide) (by decide), zi_cl (by omega), wb_shl _ (by omega), hor]
        have hin : vp_in (nI (m / 32)) 16 := zi_in (by omega) (by decide)
        refine ⟨by decide, hin, by decide, hin, ?_⟩
        rw [LD_upd, List.set_comm _ _ hrq, List.set_set]
        rw [List.set_comm _ _ hqr]
        refine hV.2.2 _ _ _ _ _ _ (LR 16 (a / 2 ^ m / b * 2 ^ m)) ?_ (LD_sim (fun x hx => ?_))
        · rw [List.set_comm _ _ hrq]
          refine dec _ _ ?_
          have := ih (by omega)
          rw [s2] at this
          exact this
        · have e1 := pv_udadd (b := 4294967296) (d := dg 4294967296 (a / 2 ^ (m + 1) / b * 2 ^ (m + 1))) (k := m / 32) (x := dg 4294967296 (a / 2 ^ (m + 1) / b * 2 ^ (m + 1)) (m / 32) + 2 ^ (m % 32)) (n := 16) (by omega)
          have e2 : 2 ^ (m % 32) * 4294967296 ^ (m / 32) = 2 ^ m := by
            rw [show (4294967296 : Nat) ^ (m / 32) = 2 ^ (32 * (m / 32)) by rw [Nat.pow_mul], ← Nat.pow_add, show m % 32 + 32 * (m / 32) = m by omega]
          have e3 : a / 2 ^ m / b * 2 ^ m = a / 2 ^ (m + 1) / b * 2 ^ (m + 1) + 2 ^ m := by
            rw [s1, Nat.add_mul, Nat.one_mul, Nat.pow_succ, Nat.mul_comm 2, Nat.mul_assoc, Nat.mul_comm 2]
          rw [pv_dg, Nat.mod_eq_of_lt (a := a / 2 ^ (m + 1) / b * 2 ^ (m + 1)) (b := 4294967296 ^ 16) (by omega), Nat.add_mul, e2] at e1
          rw [show a / 2 ^ m / b * 2 ^ m = pv 4294967296 (ud (dg 4294967296 (a / 2 ^ (m + 1) / b * 2 ^ (m + 1))) (m / 32) (dg 4294967296 (a / 2 ^ (m + 1) / b * 2 ^ (m + 1)) (m / 32) + 2 ^ (m % 32))) 16 by omega]
          refine (dg_pv (by decide) (fun z hz => ?_) hx).symm
          by_cases hz2 : z = m / 32
          · rw [hz2, ud_self]; exact hsum
          · rw [ud_ne hz2]; exact dg_lt (by decide) _ _
  refine hV.1 19 _ _ _ ?_
  simp -implicitDefEqProofs only [d_R_divide_0, d_R_divide_19, d_R_divide_27, d_R_divide_77, d_R_divide_83, t_R_divide_0, t_R_divide_19, t_R_divide_27, t_R_divide_77, t_R_divide_83, ct_R_divide, kk_R_50, zs_aload_n, zs_aload, zs_iload_n, zs_iload, zs_lload_n, zs_lload, zs_istore_n, zs_istore, zs_lstore_n, zs_lstore, zs_astore_n, zs_astore, zs_iinc, zs_iconst, zs_bipush, zs_sipush, zs_lconst0, zs_lconst1, zs_ldc2_w, zs_ldc_w, zs_iadd, zs_isub, zs_imul, zs_iand, zs_ior, zs_ixor, zs_ishl, zs_ishr, zs_iushr, zs_idiv, zs_irem, zs_ineg, zs_ladd, zs_lsub, zs_lmul, zs_land, zs_lor, zs_lxor, zs_ldiv, zs_lrem, zs_lcmp, zs_lshl, zs_lshr, zs_lushr, zs_i2l, zs_l2i, zs_i2c, zs_dup_i, zs_pop_i, zs_dup_a, zs_pop_a, zs_dup2, zs_pop2, zs_nop, zs_goto, zs_if_eq, zs_icmp_eq, zs_if_ne, zs_icmp_ne, zs_if_lt, zs_icmp_lt, zs_if_ge, zs_icmp_ge, zs_if_gt, zs_icmp_gt, zs_if_le, zs_icmp_le, zs_getf, zs_putf, zs_gets, zs_alen, zs_iald, zs_cald, zs_lald, zs_aald, zs_iast, zs_cast, zs_last, zs_invstatic, zs_invvirtual, zs_invspecial, zs_ireturn, zs_lreturn, zs_areturn, zs_return, zs_tsw, zs_lsw, zr_zva0, zr_zvas, zr_zvai0, zr_zvais, zr_zvi0, zr_zvis, zr_zvii0, zr_zviis, zr_zvl0, zr_zvls, zr_zvli0, zr_zvlis, zr_zs1_0, zr_zs1_1n, zr_zs1_1i, zr_zs1_1a, zr_zs1_1l, zr_zs1_s, zr_zs2_0, zr_zs2_1n, zr_zs2_1i, zr_zs2_1a, zr_zs2_1l, zr_zs2_s, zr_f0, zr_f1, zr_f2, zr_f3, zr_kp, zr_k0, zr_k1, zr_km1, zr_km2, zr_km4, zr_km8, zr_km16, zr_tp, zr_tn, zr_kl, zr_ki, zr_kil, zr_kii, zr_ov, zr_is, zr_cn, zr_cfi, zr_cfl, zr_cfr, zr_cfo, zr_isi, zr_isl, zr_isc, zr_isr, zr_isn0, zr_isn1, zr_isn2, zr_iso, zr_reti, zr_ctm, zr_cat0, zr_cati, zr_cata, zr_catl, zr_cs0, zr_cs1, zr_cs2, zr_cs3, zr_cs4, zr_cs5, zr_cs6, Nat.reduceLeDiff, Option.toList_none, Option.toList_some, List.nil_append, List.cons_append, Nat.le_refl, true_and, Nat.reduceAdd, Nat.reduceSub, Nat.reduceMul, Nat.reduceEqDiff, if_true, if_false, ite_true, ite_false, reduceIte, List.getElem?_cons_zero, List.getElem?_cons_succ]
  refine ⟨i, 16, a, rfl, zk_in (atI _ _), by decide, ha, ?_⟩
  simp -implicitDefEqProofs only [d_R_divide_0, d_R_divide_19, d_R_divide_27, d_R_divide_77, d_R_divide_83, t_R_divide_0, t_R_divide_19, t_R_divide_27, t_R_divide_77, t_R_divide_83, ct_R_divide, kk_R_50, zs_aload_n, zs_aload, zs_iload_n, zs_iload, zs_lload_n, zs_lload, zs_istore_n, zs_istore, zs_lstore_n, zs_lstore, zs_astore_n, zs_astore, zs_iinc, zs_iconst, zs_bipush, zs_sipush, zs_lconst0, zs_lconst1, zs_ldc2_w, zs_ldc_w, zs_iadd, zs_isub, zs_imul, zs_iand, zs_ior, zs_ixor, zs_ishl, zs_ishr, zs_iushr, zs_idiv, zs_irem, zs_ineg, zs_ladd, zs_lsub, zs_lmul, zs_land, zs_lor, zs_lxor, zs_ldiv, zs_lrem, zs_lcmp, zs_lshl, zs_lshr, zs_lushr, zs_i2l, zs_l2i, zs_i2c, zs_dup_i, zs_pop_i, zs_dup_a, zs_pop_a, zs_dup2, zs_pop2, zs_nop, zs_goto, zs_if_eq, zs_icmp_eq, zs_if_ne, zs_icmp_ne, zs_if_lt, zs_icmp_lt, zs_if_ge, zs_icmp_ge, zs_if_gt, zs_icmp_gt, zs_if_le, zs_icmp_le, zs_getf, zs_putf, zs_gets, zs_alen, zs_iald, zs_cald, zs_lald, zs_aald, zs_iast, zs_cast, zs_last, zs_invstatic, zs_invvirtual, zs_invspecial, zs_ireturn, zs_lreturn, zs_areturn, zs_return, zs_tsw, zs_lsw, zr_zva0, zr_zvas, zr_zvai0, zr_zvais, zr_zvi0, zr_zvis, zr_zvii0, zr_zviis, zr_zvl0, zr_zvls, zr_zvli0, zr_zvlis, zr_zs1_0, zr_zs1_1n, zr_zs1_1i, zr_zs1_1a, zr_zs1_1l, zr_zs1_s, zr_zs2_0, zr_zs2_1n, zr_zs2_1i, zr_zs2_1a, zr_zs2_1l, zr_zs2_s, zr_f0, zr_f1, zr_f2, zr_f3, zr_kp, zr_k0, zr_k1, zr_km1, zr_km2, zr_km4, zr_km8, zr_km16, zr_tp, zr_tn, zr_kl, zr_ki, zr_kil, zr_kii, zr_ov, zr_is, zr_cn, zr_cfi, zr_cfl, zr_cfr, zr_cfo, zr_isi, zr_isl, zr_isc, zr_isr, zr_isn0, zr_isn1, zr_isn2, zr_iso, zr_reti, zr_ctm, zr_cat0, zr_cati, zr_cata, zr_catl, zr_cs0, zr_cs1, zr_cs2, zr_cs3, zr_cs4, zr_cs5, zr_cs6, Nat.reduceLeDiff, Option.toList_none, Option.toList_some, List.nil_append, List.cons_append, Nat.le_refl, true_and, Nat.reduceAdd, Nat.reduceSub, Nat.reduceMul, Nat.reduceEqDiff, if_true, if_false, ite_true, ite_false, reduceIte, List.getElem?_cons_zero, List.getElem?_cons_succ]
  have hbl : blen a ≤ 512 := blen_lt.mpr (by rw [show (2 : Nat) ^ 512 = 4294967296 ^ 16 by decide]; exact ha)
  have h0 := loop (blen a) hbl
  rw [Nat.div_eq_of_lt (blen_lt.mp (Nat.le_refl _)), Nat.zero_div, Nat.zero_mul, Nat.zero_mod] at h0
  exact h0
