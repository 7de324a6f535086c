/-! Row: add, subtract, negateWord, multiplyAdd, fill -/
theorem nm_digit {b t x : Nat} {d : Nat → Nat} : pv b (ud d t (x % b)) (t + 1) + x / b * b ^ (t + 1) = pv b d t + x * b ^ t := by
  show pv b (ud d t (x % b)) t + ud d t (x % b) t * b ^ t + x / b * b ^ (t + 1) = _
  rw [pv_ud (Nat.le_refl t), ud_self, Nat.pow_succ, Nat.add_assoc, show x / b * (b ^ t * b) = b * (x / b) * b ^ t by rw [Nat.mul_comm b, Nat.mul_assoc, Nat.mul_comm b], ← Nat.add_mul, Nat.mod_add_div]
theorem nm_dlt {b t x : Nat} {d : Nat → Nat} (hb : 0 < b) (h : ∀ j, j < t → d j < b) : ∀ j, j < t + 1 → ud d t (x % b) j < b := by
  intro j hj
  by_cases h1 : j = t
  · subst h1; rw [ud_self]; exact Nat.mod_lt _ hb
  · rw [ud_ne h1]; exact h j (by omega)
/-- a row of digits is the row of its number -/
theorem nm_row {n v c : Nat} {d : Nat → Nat} (h : ∀ j, j < n → d j < 4294967296) (hp : pv 4294967296 d n + c * 4294967296 ^ n = v) : ∀ j, j < n → d j = dg 4294967296 (v % 4294967296 ^ n) j := by
  intro j hj
  have h1 : v % 4294967296 ^ n = pv 4294967296 d n := by
    rw [← hp, Nat.add_mul_mod_self_right, Nat.mod_eq_of_lt (pv_lt h)]
  rw [h1, dg_pv (by decide) h hj]
def sp_R_add : zSpec := fun vs σ K => ∃ (i j k n a b c : Nat), vs = [.ref i, .ref j, .ref k] ∧ zlook σ i = some (LR n a) ∧ zlook σ j = some (LR n b) ∧ σ[k]? = some (LR n c) ∧ k ≠ i ∧ k ≠ j ∧ n < 1000 ∧ a < 4294967296 ^ n ∧ b < 4294967296 ^ n ∧ K none (σ.set k (LR n ((a + b) % 4294967296 ^ n)))
def ct_R_add : List (Nat × Nat × zSpec) := []
set_option maxRecDepth 100000 in
theorem co_R_add : ∀ q ∈ ct_R_add, zCok "WideWordStack$Row" r_R_add q := by
  intro q hq
  unfold ct_R_add at hq
  cases hq
set_option maxHeartbeats 4000000 in
set_option maxRecDepth 100000 in
theorem zm_R_add : ∀ l vs σ K, sp_R_add vs σ K → zMet l y_R_add c_R_add 8 none r_R_add vs σ K := by
  rintro l vs σ K ⟨i, j, k, n, a, b, c0, rfl, hi, hj, hk, hki, hkj, hn, ha, hb, h⟩
  refine zmet_of (own := "WideWordStack$Row") (f := f_R) (kk := kk_R) (t := ct_R_add) (g := g_R) (cd := d_R_add) (by decide +kernel) rfl fo_R ko_R go_R co_R_add k_R_add (Nat.le_of_ble_eq_true rfl) ?_
  intro V hV
  show V 0 [some _, some _, some _, none, none, none, none, none] [] _
  have loop : ∀ (m t c : Nat) (d : Nat → Nat), m + t = n → c ≤ 1 → (∀ x, x < t → d x < 4294967296) → pv 4294967296 d t + c * 4294967296 ^ t = pv 4294967296 (dg 4294967296 a) t + pv 4294967296 (dg 4294967296 b) t → V 5 [some (.ref i), some (.ref j), some (.ref k), some (.long (lN c)), none, some (.int (nI t)), none, none] [] (σ.set k (LD n d)) := by
    intro m
    induction m with
    | zero =>
      intro t c d hm hc hd hp
      have ht : t = n := by omega
      subst ht
      refine hV.1 5 _ _ _ ?_
      simp -implicitDefEqProofs only [d_R_add_0, d_R_add_5, d_R_add_47, t_R_add_0, t_R_add_5, t_R_add_47, kk_R_21, zs_aload_n, zs_aload, zs_iload_n, zs_iload, zs_lload_n, zs_lload, zs_istore_n, zs_istore, zs_lstore_n, zs_lstore, zs_astore_n, zs_astore, zs_iinc, zs_iconst, zs_bipush, zs_sipush, zs_lconst0, zs_lconst1, zs_ldc2_w, zs_ldc_w, zs_iadd, zs_isub, zs_imul, zs_iand, zs_ior, zs_ixor, zs_ishl, zs_ishr, zs_iushr, zs_idiv, zs_irem, zs_ineg, zs_ladd, zs_lsub, zs_lmul, zs_land, zs_lor, zs_lxor, zs_ldiv, zs_lrem, zs_lcmp, zs_lshl, zs_lshr, zs_lushr, zs_i2l, zs_l2i, zs_i2c, zs_dup_i, zs_pop_i, zs_dup_a, zs_pop_a, zs_dup2, zs_pop2, zs_nop, zs_goto, zs_if_eq, zs_icmp_eq, zs_if_ne, zs_icmp_ne, zs_if_lt, zs_icmp_lt, zs_if_ge, zs_icmp_ge, zs_if_gt, zs_icmp_gt, zs_if_le, zs_icmp_le, zs_getf, zs_putf, zs_gets, zs_alen, zs_iald, zs_cald, zs_lald, zs_aald, zs_iast, zs_cast, zs_last, zs_invstatic, zs_invvirtual, zs_invspecial, zs_ireturn, zs_lreturn, zs_areturn, zs_return, zs_tsw, zs_lsw, zr_zva0, zr_zvas, zr_zvai0, zr_zvais, zr_zvi0, zr_zvis, zr_zvii0, zr_zviis, zr_zvl0, zr_zvls, zr_zvli0, zr_zvlis, zr_zs1_0, zr_zs1_1n, zr_zs1_1i, zr_zs1_1a, zr_zs1_1l, zr_zs1_s, zr_zs2_0, zr_zs2_1n, zr_zs2_1i, zr_zs2_1a, zr_zs2_1l, zr_zs2_s, zr_f0, zr_f1, zr_f2, zr_f3, zr_kp, zr_k0, zr_k1, zr_km1, zr_km2, zr_km4, zr_km8, zr_km16, zr_tp, zr_tn, zr_kl, zr_ki, zr_kil, zr_kii, zr_ov, zr_is, zr_cn, zr_cfi, zr_cfl, zr_cfr, zr_cfo, zr_isi, zr_isl, zr_isc, zr_isr, zr_isn0, zr_isn1, zr_isn2, zr_iso, zr_reti, zr_ctm, zr_cat0, zr_cati, zr_cata, zr_catl, zr_cs0, zr_cs1, zr_cs2, zr_cs3, zr_cs4, zr_cs5, zr_cs6, Nat.reduceLeDiff, Option.toList_none, Option.toList_some, List.nil_append, List.cons_append, Nat.le_refl, true_and, Nat.reduceAdd, Nat.reduceSub, Nat.reduceMul, Nat.reduceEqDiff, if_true, if_false, ite_true, ite_false, reduceIte, List.getElem?_cons_zero, List.getElem?_cons_succ, zk_selfL hk, zk_neL hki, zk_neL hkj, hi, hj, zk_self hk]
      refine ⟨fun _ => ?_, fun q => absurd (Int32.le_refl _) q⟩
      rw [pv_dg, pv_dg, Nat.mod_eq_of_lt ha, Nat.mod_eq_of_lt hb] at hp
      refine hV.2.2 _ _ _ _ _ _ _ ?_ (LD_sim (nm_row hd hp))
      refine hV.1 47 _ _ _ ?_
      simp -implicitDefEqProofs only [d_R_add_0, d_R_add_5, d_R_add_47, t_R_add_0, t_R_add_5, t_R_add_47, kk_R_21, zs_aload_n, zs_aload, zs_iload_n, zs_iload, zs_lload_n, zs_lload, zs_istore_n, zs_istore, zs_lstore_n, zs_lstore, zs_astore_n, zs_astore, zs_iinc, zs_iconst, zs_bipush, zs_sipush, zs_lconst0, zs_lconst1, zs_ldc2_w, zs_ldc_w, zs_iadd, zs_isub, zs_imul, zs_iand, zs_ior, zs_ixor, zs_ishl, zs_ishr, zs_iushr, zs_idiv, zs_irem, zs_ineg, zs_ladd, zs_lsub, zs_lmul, zs_land, zs_lor, zs_lxor, zs_ldiv, zs_lrem, zs_lcmp, zs_lshl, zs_lshr, zs_lushr, zs_i2l, zs_l2i, zs_i2c, zs_dup_i, zs_pop_i, zs_dup_a, zs_pop_a, zs_dup2, zs_pop2, zs_nop, zs_goto, zs_if_eq, zs_icmp_eq, zs_if_ne, zs_icmp_ne, zs_if_lt, zs_icmp_lt, zs_if_ge, zs_icmp_ge, zs_if_gt, zs_icmp_gt, zs_if_le, zs_icmp_le, zs_getf, zs_putf, zs_gets, zs_alen, zs_iald, zs_cald, zs_lald, zs_aald, zs_iast, zs_cast, zs_last, zs_invstatic, zs_invvirtual, zs_invspecial, zs_ireturn, zs_lreturn, zs_areturn, zs_return, zs_tsw, zs_lsw, zr_zva0, zr_zvas, zr_zvai0, zr_zvais, zr_zvi0, zr_zvis, zr_zvii0, zr_zviis, zr_zvl0, zr_zvls, zr_zvli0, zr_zvlis, zr_zs1_0, zr_zs1_1n, zr_zs1_1i, zr_zs1_1a, zr_zs1_1l, zr_zs1_s, zr_zs2_0, zr_zs2_1n, zr_zs2_1i, zr_zs2_1a, zr_zs2_1l, zr_zs2_s, zr_f0, zr_f1, zr_f2, zr_f3, zr_kp, zr_k0, zr_k1, zr_km1, zr_km2, zr_km4, zr_km8, zr_km16, zr_tp, zr_tn, zr_kl, zr_ki, zr_kil, zr_kii, zr_ov, zr_is, zr_cn, zr_cfi, zr_cfl, zr_cfr, zr_cfo, zr_isi, zr_isl, zr_isc, zr_isr, zr_isn0, zr_isn1, zr_isn2, zr_iso, zr_reti, zr_ctm, zr_cat0, zr_cati, zr_cata, zr_catl, zr_cs0, zr_cs1, zr_cs2, zr_cs3, zr_cs4, zr_cs5, zr_cs6, Nat.reduceLeDiff, Option.toList_none, Option.toList_some, List.nil_append, List.cons_append, Nat.le_refl, true_and, Nat.reduceAdd, Nat.reduceSub, Nat.reduceMul, Nat.reduceEqDiff, if_true, if_false, ite_true, ite_false, reduceIte, List.getElem?_cons_zero, List.getElem?_cons_succ]
      exact zk0 h
    | succ m ih =>
      intro t c d hm hc hd hp
      refine hV.1 5 _ _ _ ?_
      simp -implicitDefEqProofs only [d_R_add_0, d_R_add_5, d_R_add_47, t_R_add_0, t_R_add_5, t_R_add_47, kk_R_21, zs_aload_n, zs_aload, zs_iload_n, zs_iload, zs_lload_n, zs_lload, zs_istore_n, zs_istore, zs_lstore_n, zs_lstore, zs_astore_n, zs_astore, zs_iinc, zs_iconst, zs_bipush, zs_sipush, zs_lconst0, zs_lconst1, zs_ldc2_w, zs_ldc_w, zs_iadd, zs_isub, zs_imul, zs_iand, zs_ior, zs_ixor, zs_ishl, zs_ishr, zs_iushr, zs_idiv, zs_irem, zs_ineg, zs_ladd, zs_lsub, zs_lmul, zs_land, zs_lor, zs_lxor, zs_ldiv, zs_lrem, zs_lcmp, zs_lshl, zs_lshr, zs_lushr, zs_i2l, zs_l2i, zs_i2c, zs_dup_i, zs_pop_i, zs_dup_a, zs_pop_a, zs_dup2, zs_pop2, zs_nop, zs_goto, zs_if_eq, zs_icmp_eq, zs_if_ne, zs_icmp_ne, zs_if_lt, zs_icmp_lt, zs_if_ge, zs_icmp_ge, zs_if_gt, zs_icmp_gt, zs_if_le, zs_icmp_le, zs_getf, zs_putf, zs_gets, zs_alen, zs_iald, zs_cald, zs_lald, zs_aald, zs_iast, zs_cast, zs_last, zs_invstatic, zs_invvirtual, zs_invspecial, zs_ireturn, zs_lreturn, zs_areturn, zs_return, zs_tsw, zs_lsw, zr_zva0, zr_zvas, zr_zvai0, zr_zvais, zr_zvi0, zr_zvis, zr_zvii0, zr_zviis, zr_zvl0, zr_zvls, zr_zvli0, zr_zvlis, zr_zs1_0, zr_zs1_1n, zr_zs1_1i, zr_zs1_1a, zr_zs1_1l, zr_zs1_s, zr_zs2_0, zr_zs2_1n, zr_zs2_1i, zr_zs2_1a, zr_zs2_1l, zr_zs2_s, zr_f0, zr_f1, zr_f2, zr_f3, zr_kp, zr_k0, zr_k1, zr_km1, zr_km2, zr_km4, zr_km8, zr_km16, zr_tp, zr_tn, zr_kl, zr_ki, zr_kil, zr_kii, zr_ov, zr_is, zr_cn, zr_cfi, zr_cfl, zr_cfr, zr_cfo, zr_isi, zr_isl, zr_isc, zr_isr, zr_isn0, zr_isn1, zr_isn2, zr_iso, zr_reti, zr_ctm, zr_cat0, zr_cati, zr_cata, zr_catl, zr_cs0, zr_cs1, zr_cs2, zr_cs3, zr_cs4, zr_cs5, zr_cs6, Nat.reduceLeDiff, Option.toList_none, Option.toList_some, List.nil_append, List.cons_append, Nat.le_refl, true_and, Nat.reduceAdd, Nat.reduceSub, Nat.reduceMul, Nat.reduceEqDiff, if_true, if_false, ite_true, ite_false, reduceIte, List.getElem?_cons_zero, List.getElem?_cons_succ, zk_selfL hk, zk_neL hki, zk_neL hkj, hi, hj, zk_self hk]
      have ha := dg_lt (b := 4294967296) (by decide) a t
      have hb := dg_lt (b := 4294967296) (by decide) b t
      refine ⟨fun q => ?_, fun _ => ⟨zi_in (by omega) (by omega), zi_in (by omega) (by omega), zi_in (by omega) (by omega), ?_⟩⟩
      · rw [zi_le (by omega) (by omega)] at q; omega
      simp only [zi_cl (t := t) (by omega), lN_add, zl_mask (a := dg 4294967296 a t + dg 4294967296 b t + c) (by omega), zl_hi (a := dg 4294967296 a t + dg 4294967296 b t + c) (by omega), LD_upd, nI_add, List.set_set]
      refine hV.2.1 _ _ _ _ _ (ih (t + 1) ((dg 4294967296 a t + dg 4294967296 b t + c) / 4294967296) _ (by omega) (by omega) (nm_dlt (by decide) hd) ?_) (by simp only [zle, and_self])
      rw [nm_digit, Nat.add_mul, Nat.add_mul]
      show _ = pv _ _ t + dg 4294967296 a t * _ + (pv _ _ t + dg 4294967296 b t * _)
      omega
  refine hV.1 0 _ _ _ ?_
  simp -implicitDefEqProofs only [d_R_add_0, d_R_add_5, d_R_add_47, t_R_add_0, t_R_add_5, t_R_add_47, kk_R_21, zs_aload_n, zs_aload, zs_iload_n, zs_iload, zs_lload_n, zs_lload, zs_istore_n, zs_istore, zs_lstore_n, zs_lstore, zs_astore_n, zs_astore, zs_iinc, zs_iconst, zs_bipush, zs_sipush, zs_lconst0, zs_lconst1, zs_ldc2_w, zs_ldc_w, zs_iadd, zs_isub, zs_imul, zs_iand, zs_ior, zs_ixor, zs_ishl, zs_ishr, zs_iushr, zs_idiv, zs_irem, zs_ineg, zs_ladd, zs_lsub, zs_lmul, zs_land, zs_lor, zs_lxor, zs_ldiv, zs_lrem, zs_lcmp, zs_lshl, zs_lshr, zs_lushr, zs_i2l, zs_l2i, zs_i2c, zs_dup_i, zs_pop_i, zs_dup_a, zs_pop_a, zs_dup2, zs_pop2, zs_nop, zs_goto, zs_if_eq, zs_icmp_eq, zs_if_ne, zs_icmp_ne, zs_if_lt, zs_icmp_lt, zs_if_ge, zs_icmp_ge, zs_if_gt, zs_icmp_gt, zs_if_le, zs_icmp_le, zs_getf, zs_putf, zs_gets, zs_alen, zs_iald, zs_cald, zs_lald, zs_aald, zs_iast, zs_cast, zs_last, zs_invstatic, zs_invvirtual, zs_invspecial, zs_ireturn, zs_lreturn, zs_areturn, zs_return, zs_tsw, zs_lsw, zr_zva0, zr_zvas, zr_zvai0, zr_zvais, zr_zvi0, zr_zvis, zr_zvii0, zr_zviis, zr_zvl0, zr_zvls, zr_zvli0, zr_zvlis, zr_zs1_0, zr_zs1_1n, zr_zs1_1i, zr_zs1_1a, zr_zs1_1l, zr_zs1_s, zr_zs2_0, zr_zs2_1n, zr_zs2_1i, zr_zs2_1a, zr_zs2_1l, zr_zs2_s, zr_f0, zr_f1, zr_f2, zr_f3, zr_kp, zr_k0, zr_k1, zr_km1, zr_km2, zr_km4, zr_km8, zr_km16, zr_tp, zr_tn, zr_kl, zr_ki, zr_kil, zr_kii, zr_ov, zr_is, zr_cn, zr_cfi, zr_cfl, zr_cfr, zr_cfo, zr_isi, zr_isl, zr_isc, zr_isr, zr_isn0, zr_isn1, zr_isn2, zr_iso, zr_reti, zr_ctm, zr_cat0, zr_cati, zr_cata, zr_catl, zr_cs0, zr_cs1, zr_cs2, zr_cs3, zr_cs4, zr_cs5, zr_cs6, Nat.reduceLeDiff, Option.toList_none, Option.toList_some, List.nil_append, List.cons_append, Nat.le_refl, true_and, Nat.reduceAdd, Nat.reduceSub, Nat.reduceMul, Nat.reduceEqDiff, if_true, if_false, ite_true, ite_false, reduceIte, List.getElem?_cons_zero, List.getElem?_cons_succ]
  have h0 := loop n 0 0 (dg 4294967296 c0) rfl (by decide) (fun x hx => absurd hx (by omega)) (by simp [pv])
  rw [zk_same hk] at h0
  exact h0
