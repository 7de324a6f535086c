/-! Row.setLimb, limbOf, exchange, assign, compareRows, compareSigned, atMost -/
theorem zi_m1 (m : Nat) : nI (m + 1) - nI 1 = nI m := by rw [zi_sub (by omega)]; rfl
theorem zi_neg0 : nI 0 - nI 1 < nI 0 := by decide
theorem zi_pm (a b : Nat) : nI a + -(nI b) = nI a - nI b := (Int32.sub_eq_add_neg _ _).symm
theorem zi_nn {m : Nat} (h : m < 2147483648) : ¬ nI m < nI 0 := by rw [zi_lt h (by decide)]; omega
/-- a number with one digit in another's place -/
def sd (b n v k x : Nat) : Nat := pv b (ud (dg b v) k x) n
theorem sd_dg {b n v k x j : Nat} (hb : 0 < b) (hx : x < b) (hj : j < n) : dg b (sd b n v k x) j = ud (dg b v) k x j := by
  refine dg_pv hb (fun i hi => ?_) hj
  by_cases h : i = k
  · rw [h, ud_self]; exact hx
  · rw [ud_ne h]; exact dg_lt hb _ _
theorem sd_lt {b n v k x : Nat} (hb : 0 < b) (hx : x < b) : sd b n v k x < b ^ n := by
  refine pv_lt (fun i hi => ?_)
  by_cases h : i = k
  · rw [h, ud_self]; exact hx
  · rw [ud_ne h]; exact dg_lt hb _ _
/-- limbs: digits of 64 bits -/
theorem dg64_lo (v k : Nat) : dg 18446744073709551616 v k % 4294967296 = dg 4294967296 v (2 * k) := by
  have e := dg_pick (b := 4294967296) (m := 2) (v := v) (q := k) (r := 0) (by decide)
  simpa using e
theorem dg64_hi (v k : Nat) : dg 18446744073709551616 v k / 4294967296 = dg 4294967296 v (2 * k + 1) := by
  have e := dg_pick (b := 4294967296) (m := 2) (v := v) (q := k) (r := 1) (by decide)
  have h := dg_lt (b := 18446744073709551616) (by decide) v k
  rw [← e, Nat.pow_one]
  rw [Nat.mod_eq_of_lt (a := dg (4294967296 ^ 2) v k / 4294967296)]
  exact Nat.div_lt_of_lt_mul h
def sp_R_setLimb : zSpec := fun vs σ K => ∃ (i v k w : Nat), vs = [.ref i, .int (nI k), .long (lN w)] ∧ σ[i]? = some (LR 8 v) ∧ k < 4 ∧ w < 18446744073709551616 ∧ K none (σ.set i (LR 8 (sd 18446744073709551616 4 v (3 - k) w)))
def ct_R_setLimb : List (Nat × Nat × zSpec) := []
set_option maxRecDepth 100000 in
theorem co_R_setLimb : ∀ q ∈ ct_R_setLimb, zCok "WideWordStack$Row" r_R_setLimb q := by
  intro q hq
  unfold ct_R_setLimb at hq
  cases hq
set_option maxHeartbeats 4000000 in
set_option maxRecDepth 100000 in
theorem zm_R_setLimb : ∀ l vs σ K, sp_R_setLimb vs σ K → zMet l y_R_setLimb c_R_setLimb 5 none r_R_setLimb vs σ K := by
  rintro l vs σ K ⟨i, v, k, w, rfl, hi, hk, hw, h⟩
  refine zmet_of (own := "WideWordStack$Row") (f := f_R) (kk := kk_R) (t := ct_R_setLimb) (g := g_R) (cd := d_R_setLimb) (by decide +kernel) rfl fo_R ko_R go_R co_R_setLimb k_R_setLimb (Nat.le_of_ble_eq_true rfl) ?_
  intro V hV
  show V 0 [some _, some _, some _, none, none] [] _
  refine hV.1 0 _ _ _ ?_
  simp -implicitDefEqProofs only [d_R_setLimb_0, t_R_setLimb_0, kk_R_21, zs_aload_n, zs_aload, zs_iload_n, zs_iload, zs_lload_n, zs_lload, zs_istore_n, zs_istore, zs_lstore_n, zs_lstore, zs_astore_n, zs_astore, zs_iinc, zs_iconst, zs_bipush, zs_sipush, zs_lconst0, zs_lconst1, zs_ldc2_w, zs_ldc_w, zs_iadd, zs_isub, zs_imul, zs_iand, zs_ior, zs_ixor, zs_ishl, zs_ishr, zs_iushr, zs_idiv, zs_irem, zs_ineg, zs_ladd, zs_lsub, zs_lmul, zs_land, zs_lor, zs_lxor, zs_ldiv, zs_lrem, zs_lcmp, zs_lshl, zs_lshr, zs_lushr, zs_i2l, zs_l2i, zs_i2c, zs_dup_i, zs_pop_i, zs_dup_a, zs_pop_a, zs_dup2, zs_pop2, zs_nop, zs_goto, zs_if_eq, zs_icmp_eq, zs_if_ne, zs_icmp_ne, zs_if_lt, zs_icmp_lt, zs_if_ge, zs_icmp_ge, zs_if_gt, zs_icmp_gt, zs_if_le, zs_icmp_le, zs_getf, zs_putf, zs_gets, zs_alen, zs_iald, zs_cald, zs_lald, zs_aald, zs_iast, zs_cast, zs_last, zs_invstatic, zs_invvirtual, zs_invspecial, zs_ireturn, zs_lreturn, zs_areturn, zs_return, zs_tsw, zs_lsw, zr_zva0, zr_zvas, zr_zvai0, zr_zvais, zr_zvi0, zr_zvis, zr_zvii0, zr_zviis, zr_zvl0, zr_zvls, zr_zvli0, zr_zvlis, zr_zs1_0, zr_zs1_1n, zr_zs1_1i, zr_zs1_1a, zr_zs1_1l, zr_zs1_s, zr_zs2_0, zr_zs2_1n, zr_zs2_1i, zr_zs2_1a, zr_zs2_1l, zr_zs2_s, zr_f0, zr_f1, zr_f2, zr_f3, zr_kp, zr_k0, zr_k1, zr_km1, zr_km2, zr_km4, zr_km8, zr_km16, zr_tp, zr_tn, zr_kl, zr_ki, zr_kil, zr_kii, zr_ov, zr_is, zr_cn, zr_cfi, zr_cfl, zr_cfr, zr_cfo, zr_isi, zr_isl, zr_isc, zr_isr, zr_isn0, zr_isn1, zr_isn2, zr_iso, zr_reti, zr_ctm, zr_cat0, zr_cati, zr_cata, zr_catl, zr_cs0, zr_cs1, zr_cs2, zr_cs3, zr_cs4, zr_cs5, zr_cs6, Nat.reduceLeDiff, Option.toList_none, Option.toList_some, List.nil_append, List.cons_append, Nat.le_refl, true_and, Nat.reduceAdd, Nat.reduceSub, Nat.reduceMul, Nat.reduceEqDiff, if_true, if_false, ite_true, ite_false, reduceIte, List.getElem?_cons_zero, List.getElem?_cons_succ, hi, zk_self hi]
  rw [zi_mul, zi_sub (by omega), nI_add, zi_cl (by omega), zi_cl (by omega), zl_mask hw, zl_hi hw]
  refine ⟨zi_in (by omega) (by decide), zi_in (by omega) (by decide), ?_⟩
  simp only [LD_upd, List.set_set]
  refine zk1 (LD_sim (fun j hj => ?_)) h
  have hj2 : 2 * (j / 2) + j % 2 = j := by omega
  rcases (show j % 2 = 0 ∨ j % 2 = 1 by omega) with h2 | h2
  · rw [show dg 4294967296 (sd 18446744073709551616 4 v (3 - k) w) j = dg 4294967296 (sd 18446744073709551616 4 v (3 - k) w) (2 * (j / 2)) by congr 1; omega, ← dg64_lo, sd_dg (by decide) hw (by omega), ud_ne (by omega)]
    by_cases h3 : j = 6 - 2 * k
    · rw [h3, ud_self, show (6 - 2 * k) / 2 = 3 - k by omega, ud_self]
    · rw [ud_ne h3, ud_ne (by omega), dg64_lo]; congr 1; omega
  · rw [show dg 4294967296 (sd 18446744073709551616 4 v (3 - k) w) j = dg 4294967296 (sd 18446744073709551616 4 v (3 - k) w) (2 * (j / 2) + 1) by congr 1; omega, ← dg64_hi, sd_dg (by decide) hw (by omega)]
    by_cases h3 : j = 6 - 2 * k + 1
    · rw [h3, ud_self, show (6 - 2 * k + 1) / 2 = 3 - k by omega, ud_self]
    · rw [ud_ne h3, ud_ne (by omega), ud_ne (by omega), dg64_hi]; congr 1; omega
def sp_R_limbOf : zSpec := fun vs σ K => ∃ (i v k : Nat), vs = [.ref i, .int (nI k)] ∧ zlook σ i = some (LR 8 v) ∧ k < 4 ∧ K (some (.long (lN (dg 18446744073709551616 v (3 - k))))) σ
def ct_R_limbOf : List (Nat × Nat × zSpec) := []
set_option maxRecDepth 100000 in
theorem co_R_limbOf : ∀ q ∈ ct_R_limbOf, zCok "WideWordStack$Row" r_R_limbOf q := by
  intro q hq
  unfold ct_R_limbOf at hq
  cases hq
set_option maxHeartbeats 4000000 in
set_option maxRecDepth 100000 in
theorem zm_R_limbOf : ∀ l vs σ K, sp_R_limbOf vs σ K → zMet l y_R_limbOf c_R_limbOf 3 (some .long) r_R_limbOf vs σ K := by
  rintro l vs σ K ⟨i, v, k, rfl, hi, hk, h⟩
  refine zmet_of (own := "WideWordStack$Row") (f := f_R) (kk := kk_R) (t := ct_R_limbOf) (g := g_R) (cd := d_R_limbOf) (by decide +kernel) rfl fo_R ko_R go_R co_R_limbOf k_R_limbOf (Nat.le_of_ble_eq_true rfl) ?_
  intro V hV
  show V 0 [some _, some _, none] [] _
  refine hV.1 0 _ _ _ ?_
  simp -implicitDefEqProofs only [d_R_limbOf_0, t_R_limbOf_0, zs_aload_n, zs_aload, zs_iload_n, zs_iload, zs_lload_n, zs_lload, zs_istore_n, zs_istore, zs_lstore_n, zs_lstore, zs_astore_n, zs_astore, zs_iinc, zs_iconst, zs_bipush, zs_sipush, zs_lconst0, zs_lconst1, zs_ldc2_w, zs_ldc_w, zs_iadd, zs_isub, zs_imul, zs_iand, zs_ior, zs_ixor, zs_ishl, zs_ishr, zs_iushr, zs_idiv, zs_irem, zs_ineg, zs_ladd, zs_lsub, zs_lmul, zs_land, zs_lor, zs_lxor, zs_ldiv, zs_lrem, zs_lcmp, zs_lshl, zs_lshr, zs_lushr, zs_i2l, zs_l2i, zs_i2c, zs_dup_i, zs_pop_i, zs_dup_a, zs_pop_a, zs_dup2, zs_pop2, zs_nop, zs_goto, zs_if_eq, zs_icmp_eq, zs_if_ne, zs_icmp_ne, zs_if_lt, zs_icmp_lt, zs_if_ge, zs_icmp_ge, zs_if_gt, zs_icmp_gt, zs_if_le, zs_icmp_le, zs_getf, zs_putf, zs_gets, zs_alen, zs_iald, zs_cald, zs_lald, zs_aald, zs_iast, zs_cast, zs_last, zs_invstatic, zs_invvirtual, zs_invspecial, zs_ireturn, zs_lreturn, zs_areturn, zs_return, zs_tsw, zs_lsw, zr_zva0, zr_zvas, zr_zvai0, zr_zvais, zr_zvi0, zr_zvis, zr_zvii0, zr_zviis, zr_zvl0, zr_zvls, zr_zvli0, zr_zvlis, zr_zs1_0, zr_zs1_1n, zr_zs1_1i, zr_zs1_1a, zr_zs1_1l, zr_zs1_s, zr_zs2_0, zr_zs2_1n, zr_zs2_1i, zr_zs2_1a, zr_zs2_1l, zr_zs2_s, zr_f0, zr_f1, zr_f2, zr_f3, zr_kp, zr_k0, zr_k1, zr_km1, zr_km2, zr_km4, zr_km8, zr_km16, zr_tp, zr_tn, zr_kl, zr_ki, zr_kil, zr_kii, zr_ov, zr_is, zr_cn, zr_cfi, zr_cfl, zr_cfr, zr_cfo, zr_isi, zr_isl, zr_isc, zr_isr, zr_isn0, zr_isn1, zr_isn2, zr_iso, zr_reti, zr_ctm, zr_cat0, zr_cati, zr_cata, zr_catl, zr_cs0, zr_cs1, zr_cs2, zr_cs3, zr_cs4, zr_cs5, zr_cs6, Nat.reduceLeDiff, Option.toList_none, Option.toList_some, List.nil_append, List.cons_append, Nat.le_refl, true_and, Nat.reduceAdd, Nat.reduceSub, Nat.reduceMul, Nat.reduceEqDiff, if_true, if_false, ite_true, ite_false, reduceIte, List.getElem?_cons_zero, List.getElem?_cons_succ, hi]
  have h1 := dg_lt (b := 4294967296) (by decide) v (6 - 2 * k)
  have h2 := dg_lt (b := 4294967296) (by decide) v (6 - 2 * k + 1)
  rw [zi_mul, zi_sub (by omega), nI_add, zi_cl (by omega), zi_cl (by omega), wb_shl _ (by decide), g_or (k := 32) (p := 4294967296) rfl h1 (by omega)]
  refine ⟨zi_in (by omega) (by decide), zi_in (by omega) (by decide), zk0 ?_⟩
  have e1 := dg64_lo v (3 - k)
  have e2 := dg64_hi v (3 - k)
  rw [show 6 - 2 * k = 2 * (3 - k) by omega, ← e1, ← e2, show dg 18446744073709551616 v (3 - k) / 4294967296 * 4294967296 + dg 18446744073709551616 v (3 - k) % 4294967296 = dg 18446744073709551616 v (3 - k) by omega]
  exact h
