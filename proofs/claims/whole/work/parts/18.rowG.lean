/-! Row.subtract, negateWord, multiplyAdd, divideByTen -/
/-! ===== unsigned comparison by xor with the least ===== -/
theorem lN_bv (n : Nat) : (lN n).toBitVec = BitVec.ofNat 64 n := rfl
theorem lN_nat {n : Nat} (h : n < 2 ^ 64) : (lN n).toBitVec.toNat = n := by rw [lN_bv, BitVec.toNat_ofNat]; exact Nat.mod_eq_of_lt h
theorem lN_xor (a b : Nat) : lN a ^^^ lN b = lN (a ^^^ b) := by
  apply Int64.toBitVec_inj.mp; rw [Int64.toBitVec_xor, lN_bv, lN_bv, lN_bv]; apply BitVec.eq_of_getLsbD_eq; intro i hi; simp [BitVec.getLsbD_ofNat, Nat.testBit_xor, hi]
theorem lN_ti {m : Nat} (h : m < 2 ^ 64) : (lN m).toInt = if m < 2 ^ 63 then (m : Int) else (m : Int) - 2 ^ 64 := by
  have c := BitVec.toInt_eq_toNat_cond (lN m).toBitVec
  rw [lN_nat h] at c
  show (lN m).toBitVec.toInt = _
  rw [c]
  split <;> split <;> omega
theorem xor63 {x : Nat} (h : x < 2 ^ 63) : x ^^^ 2 ^ 63 = 2 ^ 63 + x := by
  apply Nat.eq_of_testBit_eq
  intro i
  rw [Nat.testBit_xor, Nat.testBit_two_pow]
  rcases Nat.lt_trichotomy i 63 with z | z | z
  · rw [Nat.testBit_two_pow_add_gt z, decide_eq_false (by omega)]; simp
  · subst z; rw [Nat.testBit_two_pow_add_eq]; simp
  · have hp : 2 ^ 64 ≤ 2 ^ i := Nat.pow_le_pow_right (by decide) z
    rw [Nat.testBit_lt_two_pow (show x < 2 ^ i by omega), Nat.testBit_lt_two_pow (show 2 ^ 63 + x < 2 ^ i by omega), decide_eq_false (by omega)]; rfl
theorem xorS {a : Nat} (h : a < 2 ^ 64) : (lN a ^^^ (-9223372036854775808)).toInt = (a : Int) - 2 ^ 63 := by
  rw [show (-9223372036854775808 : Int64) = lN (2 ^ 63) from by decide +kernel, lN_xor]
  rcases Nat.lt_or_ge a (2 ^ 63) with z | z
  · rw [xor63 z, lN_ti (by omega), if_neg (by omega)]; omega
  · obtain ⟨x, rfl⟩ : ∃ x, a = 2 ^ 63 + x := ⟨a - 2 ^ 63, by omega⟩
    rw [← xor63 (by omega), Nat.xor_assoc, Nat.xor_self, Nat.xor_zero, lN_ti (by omega), if_pos (by omega), xor63 (by omega)]; omega
theorem ultL {a b : Nat} (ha : a < 2 ^ 64) (hb : b < 2 ^ 64) : ((lN b ^^^ (-9223372036854775808)) ≤ (lN a ^^^ (-9223372036854775808))) ↔ b ≤ a := by
  rw [Int64.le_iff_toInt_le, xorS ha, xorS hb]; omega
theorem zl_sub2 {a b w : Nat} (h : a < b + w) (hb : b + w ≤ 18446744073709551616) : lN a - lN b - lN w = lN (a + 18446744073709551616 - b - w) := by
  have e : lN a = lN (a + 18446744073709551616) := by
    have e2 : (a + 18446744073709551616) % 2 ^ 64 = a % 2 ^ 64 := by omega
    rw [wb_mod (a + 18446744073709551616), e2, ← wb_mod]
  rw [e, lN_sub (by omega), lN_sub (by omega)]
theorem zl_neg {x : Nat} (h1 : 9223372036854775808 ≤ x) (h2 : x < 18446744073709551616) : ¬ nI 0 ≤ lg_cmp (lN x) (lN 0) := by
  have e : (lN x).toInt = (x : Int) - 18446744073709551616 := by
    rw [lN_ti (by omega), if_neg (by omega)]
    rfl
  have hlt : lN x < lN 0 := by
    rw [Int64.lt_iff_toInt_lt, e]
    show _ < (0 : Int)
    omega
  exact fun q => absurd ((lg_cmp_ge _ _).mp q) (Int64.not_le.mpr hlt)
theorem zl_xmask {d : Nat} (h : d < 4294967296) : lN d ^^^ lN 4294967295 = lN (4294967295 - d) := by
  rw [lN_xor]
  congr 1
  apply Nat.eq_of_testBit_eq
  intro i
  have h2 : (4294967295 - d : Nat) = 2 ^ 32 - (d + 1) := by omega
  rw [Nat.testBit_xor, h2, Nat.testBit_two_pow_sub_succ (show d < 2 ^ 32 by simpa using h), show (4294967295 : Nat) = 2 ^ 32 - 1 from rfl, Nat.testBit_two_pow_sub_one]
  by_cases hi : i < 32
  · simp [hi]
  · have : d.testBit i = false := Nat.testBit_lt_two_pow (Nat.lt_of_lt_of_le h (by have := Nat.pow_le_pow_right (n := 2) (by decide) (show 32 ≤ i by omega); simpa using this))
    simp [hi, this]
theorem LR_inj {n a b : Nat} (h : LR n a = LR n b) (x : Nat) : dg 4294967296 a x = dg 4294967296 b x := by
  have h1 : lN (dg 4294967296 a x) = lN (dg 4294967296 b x) := congrArg (fun q => zcfl (some q) x) h
  have h2 := dg_lt (b := 4294967296) (by decide) a x
  have h3 := dg_lt (b := 4294967296) (by decide) b x
  rwa [zl_eq (by omega) (by omega)] at h1
def sp_R_subtract : zSpec := fun vs σ K => ∃ (i j k n a b c : Nat), vs = [.ref i, .ref j, .ref k] ∧ σ[i]? = some (LR n a) ∧ σ[j]? = some (LR n b) ∧ σ[k]? = some (LR n c) ∧ k ≠ j ∧ n < 1000 ∧ a < 4294967296 ^ n ∧ b ≤ a ∧ K none (σ.set k (LR n (a - b)))
def ct_R_subtract : List (Nat × Nat × zSpec) := []
set_option maxRecDepth 100000 in
theorem co_R_subtract : ∀ q ∈ ct_R_subtract, zCok "WideWordStack$Row" r_R_subtract q := by
  intro q hq
  unfold ct_R_subtract at hq
  cases hq
set_option maxHeartbeats 4000000 in
set_option maxRecDepth 100000 in
theorem zm_R_subtract : ∀ l vs σ K, sp_R_subtract vs σ K → zMet l y_R_subtract c_R_subtract 8 none r_R_subtract vs σ K := by
  rintro l vs σ K ⟨i, j, k, n, a, b, c0, rfl, hi, hj, hk, hkj, hn, ha, hba, h⟩
  refine zmet_of (own := "WideWordStack$Row") (f := f_R) (kk := kk_R) (t := ct_R_subtract) (g := g_R) (cd := d_R_subtract) (by decide +kernel) rfl fo_R ko_R go_R co_R_subtract k_R_subtract (Nat.le_of_ble_eq_true rfl) ?_
  intro V hV
  show V 0 [some _, some _, some _, none, none, none, none, none] [] _
  have loop : ∀ (m t c : Nat) (d : Nat → Nat), m + t = n → c ≤ 1 → (∀ x, x < t → d x < 4294967296) → (k = i → ∀ x, t ≤ x → d x = dg 4294967296 a x) → pv 4294967296 d t + pv 4294967296 (dg 4294967296 b) t = pv 4294967296 (dg 4294967296 a) t + c * 4294967296 ^ t → V 5 [some (.ref i), some (.ref j), some (.ref k), some (.long (lN c)), none, some (.int (nI t)), none, none] [] (σ.set k (LD n d)) := by
    intro m
    induction m with
    | zero =>
      intro t c d hm hc hd hki hp
      have ht : t = n := by omega
      subst ht
      refine hV.1 5 _ _ _ ?_
      simp -implicitDefEqProofs only [d_R_subtract_0, d_R_subtract_5, d_R_subtract_46, d_R_subtract_47, d_R_subtract_54, t_R_subtract_0, t_R_subtract_5, t_R_subtract_46, t_R_subtract_47, t_R_subtract_54, kk_R_21, zs_aload_n, zs_aload, zs_iload_n, zs_iload, zs_lload_n, zs_lload, zs_istore_n, zs_istore, zs_lstore_n, zs_lstore, zs_astore_n, zs_astore, zs_iinc, zs_iconst, zs_bipush, zs_sipush, zs_lconst0, zs_lconst1, zs_ldc2_w, zs_ldc_w, zs_iadd, zs_isub, zs_imul, zs_iand, zs_ior, zs_ixor, zs_ishl, zs_ishr, zs_iushr, zs_idiv, zs_irem, zs_ineg, zs_ladd, zs_lsub, zs_lmul, zs_land, zs_lor, zs_lxor, zs_ldiv, zs_lrem, zs_lcmp, zs_lshl, zs_lshr, zs_lushr, zs_i2l, zs_l2i, zs_i2c, zs_dup_i, zs_pop_i, zs_dup_a, zs_pop_a, zs_dup2, zs_pop2, zs_nop, zs_goto, zs_if_eq, zs_icmp_eq, zs_if_ne, zs_icmp_ne, zs_if_lt, zs_icmp_lt, zs_if_ge, zs_icmp_ge, zs_if_gt, zs_icmp_gt, zs_if_le, zs_icmp_le, zs_getf, zs_putf, zs_gets, zs_alen, zs_iald, zs_cald, zs_lald, zs_aald, zs_iast, zs_cast, zs_last, zs_invstatic, zs_invvirtual, zs_invspecial, zs_ireturn, zs_lreturn, zs_areturn, zs_return, zs_tsw, zs_lsw, zr_zva0, zr_zvas, zr_zvai0, zr_zvais, zr_zvi0, zr_zvis, zr_zvii0, zr_zviis, zr_zvl0, zr_zvls, zr_zvli0, zr_zvlis, zr_zs1_0, zr_zs1_1n, zr_zs1_1i, zr_zs1_1a, zr_zs1_1l, zr_zs1_s, zr_zs2_0, zr_zs2_1n, zr_zs2_1i, zr_zs2_1a, zr_zs2_1l, zr_zs2_s, zr_f0, zr_f1, zr_f2, zr_f3, zr_kp, zr_k0, zr_k1, zr_km1, zr_km2, zr_km4, zr_km8, zr_km16, zr_tp, zr_tn, zr_kl, zr_ki, zr_kil, zr_kii, zr_ov, zr_is, zr_cn, zr_cfi, zr_cfl, zr_cfr, zr_cfo, zr_isi, zr_isl, zr_isc, zr_isr, zr_isn0, zr_isn1, zr_isn2, zr_iso, zr_reti, zr_ctm, zr_cat0, zr_cati, zr_cata, zr_catl, zr_cs0, zr_cs1, zr_cs2, zr_cs3, zr_cs4, zr_cs5, zr_cs6, Nat.reduceLeDiff, Option.toList_none, Option.toList_some, List.nil_append, List.cons_append, Nat.le_refl, true_and, Nat.reduceAdd, Nat.reduceSub, Nat.reduceMul, Nat.reduceEqDiff, if_true, if_false, ite_true, ite_false, reduceIte, List.getElem?_cons_zero, List.getElem?_cons_succ, zk_selfL hk]
      refine ⟨fun _ => ?_, fun q => absurd (Int32.le_refl _) q⟩
      have hlt := pv_lt hd
      rw [pv_dg, pv_dg, Nat.mod_eq_of_lt ha, Nat.mod_eq_of_lt (Nat.lt_of_le_of_lt hba ha)] at hp
      have hc0 : c = 0 := by
        rcases (show c = 0 ∨ c = 1 by omega) with q | q
        · exact q
        · subst q; omega
      subst hc0
      refine hV.2.2 _ _ _ _ _ _ _ ?_ (LD_sim (e := dg 4294967296 (a - b)) (fun x hx => ?_))
      · refine hV.1 54 _ _ _ ?_
        simp -implicitDefEqProofs only [d_R_subtract_0, d_R_subtract_5, d_R_subtract_46, d_R_subtract_47, d_R_subtract_54, t_R_subtract_0, t_R_subtract_5, t_R_subtract_46, t_R_subtract_47, t_R_subtract_54, kk_R_21, zs_aload_n, zs_aload, zs_iload_n, zs_iload, zs_lload_n, zs_lload, zs_istore_n, zs_istore, zs_lstore_n, zs_lstore, zs_astore_n, zs_astore, zs_iinc, zs_iconst, zs_bipush, zs_sipush, zs_lconst0, zs_lconst1, zs_ldc2_w, zs_ldc_w, zs_iadd, zs_isub, zs_imul, zs_iand, zs_ior, zs_ixor, zs_ishl, zs_ishr, zs_iushr, zs_idiv, zs_irem, zs_ineg, zs_ladd, zs_lsub, zs_lmul, zs_land, zs_lor, zs_lxor, zs_ldiv, zs_lrem, zs_lcmp, zs_lshl, zs_lshr, zs_lushr, zs_i2l, zs_l2i, zs_i2c, zs_dup_i, zs_pop_i, zs_dup_a, zs_pop_a, zs_dup2, zs_pop2, zs_nop, zs_goto, zs_if_eq, zs_icmp_eq, zs_if_ne, zs_icmp_ne, zs_if_lt, zs_icmp_lt, zs_if_ge, zs_icmp_ge, zs_if_gt, zs_icmp_gt, zs_if_le, zs_icmp_le, zs_getf, zs_putf, zs_gets, zs_alen, zs_iald, zs_cald, zs_lald, zs_aald, zs_iast, zs_cast, zs_last, zs_invstatic, zs_invvirtual, zs_invspecial, zs_ireturn, zs_lreturn, zs_areturn, zs_return, zs_tsw, zs_lsw, zr_zva0, zr_zvas, zr_zvai0, zr_zvais, zr_zvi0, zr_zvis, zr_zvii0, zr_zviis, zr_zvl0, zr_zvls, zr_zvli0, zr_zvlis, zr_zs1_0, zr_zs1_1n, zr_zs1_1i, zr_zs1_1a, zr_zs1_1l, zr_zs1_s, zr_zs2_0, zr_zs2_1n, zr_zs2_1i, zr_zs2_1a, zr_zs2_1l, zr_zs2_s, zr_f0, zr_f1, zr_f2, zr_f3, zr_kp, zr_k0, zr_k1, zr_km1, zr_km2, zr_km4, zr_km8, zr_km16, zr_tp, zr_tn, zr_kl, zr_ki, zr_kil, zr_kii, zr_ov, zr_is, zr_cn, zr_cfi, zr_cfl, zr_cfr, zr_cfo, zr_isi, zr_isl, zr_isc, zr_isr, zr_isn0, zr_isn1, zr_isn2, zr_iso, zr_reti, zr_ctm, zr_cat0, zr_cati, zr_cata, zr_catl, zr_cs0, zr_cs1, zr_cs2, zr_cs3, zr_cs4, zr_cs5, zr_cs6, Nat.reduceLeDiff, Option.toList_none, Option.toList_some, List.nil_append, List.cons_append, Nat.le_refl, true_and, Nat.reduceAdd, Nat.reduceSub, Nat.reduceMul, Nat.reduceEqDiff, if_true, if_false, ite_true, ite_false, reduceIte, List.getElem?_cons_zero, List.getElem?_cons_succ]
        exact zk0 h
      · rw [show a - b = pv 4294967296 d t by omega, dg_pv (by decide) hd hx]
    | succ m ih =>
      intro t c d hm hc hd hki hp
      have h1 := dg_lt (b := 4294967296) (by decide) a t
      have h2 := dg_lt (b := 4294967296) (by decide) b t
      have hin : vp_in (nI t) n := zi_in (by omega) (by omega)
      have hA : ∃ e : Nat → Nat, zlook (σ.set k (LD n d)) i = some (LD n e) ∧ e t = dg 4294967296 a t := by
        by_cases q : k = i
        · subst q
          exact ⟨d, zk_selfL hk, hki rfl t (Nat.le_refl _)⟩
        · exact ⟨dg 4294967296 a, by rw [zk_neL q]; exact zk_in hi, rfl⟩
      obtain ⟨e, hA, he⟩ := hA
      have hB : zlook (σ.set k (LD n d)) j = some (LR n b) := by rw [zk_neL hkj]; exact zk_in hj
      have back : ∀ x c' : Nat, c' ≤ 1 → x < 4294967296 → x + dg 4294967296 b t + c = dg 4294967296 a t + c' * 4294967296 → V 47 [some (.ref i), some (.ref j), some (.ref k), none, none, some (.int (nI t)), none, none] [.long (lN c')] (σ.set k (LD n (ud d t x))) := by
        intro x c' hc' hx hxe
        refine hV.1 47 _ _ _ ?_
        simp -implicitDefEqProofs only [d_R_subtract_0, d_R_subtract_5, d_R_subtract_46, d_R_subtract_47, d_R_subtract_54, t_R_subtract_0, t_R_subtract_5, t_R_subtract_46, t_R_subtract_47, t_R_subtract_54, kk_R_21, zs_aload_n, zs_aload, zs_iload_n, zs_iload, zs_lload_n, zs_lload, zs_istore_n, zs_istore, zs_lstore_n, zs_lstore, zs_astore_n, zs_astore, zs_iinc, zs_iconst, zs_bipush, zs_sipush, zs_lconst0, zs_lconst1, zs_ldc2_w, zs_ldc_w, zs_iadd, zs_isub, zs_imul, zs_iand, zs_ior, zs_ixor, zs_ishl, zs_ishr, zs_iushr, zs_idiv, zs_irem, zs_ineg, zs_ladd, zs_lsub, zs_lmul, zs_land, zs_lor, zs_lxor, zs_ldiv, zs_lrem, zs_lcmp, zs_lshl, zs_lshr, zs_lushr, zs_i2l, zs_l2i, zs_i2c, zs_dup_i, zs_pop_i, zs_dup_a, zs_pop_a, zs_dup2, zs_pop2, zs_nop, zs_goto, zs_if_eq, zs_icmp_eq, zs_if_ne, zs_icmp_ne, zs_if_lt, zs_icmp_lt, zs_if_ge, zs_icmp_ge, zs_if_gt, zs_icmp_gt, zs_if_le, zs_icmp_le, zs_getf, zs_putf, zs_gets, zs_alen, zs_iald, zs_cald, zs_lald, zs_aald, zs_iast, zs_cast, zs_last, zs_invstatic, zs_invvirtual, zs_invspecial, zs_ireturn, zs_lreturn, zs_areturn, zs_return, zs_tsw, zs_lsw, zr_zva0, zr_zvas, zr_zvai0, zr_zvais, zr_zvi0, zr_zvis, zr_zvii0, zr_zviis, zr_zvl0, zr_zvls, zr_zvli0, zr_zvlis, zr_zs1_0, zr_zs1_1n, zr_zs1_1i, zr_zs1_1a, zr_zs1_1l, zr_zs1_s, zr_zs2_0, zr_zs2_1n, zr_zs2_1i, zr_zs2_1a, zr_zs2_1l, zr_zs2_s, zr_f0, zr_f1, zr_f2, zr_f3, zr_kp, zr_k0, zr_k1, zr_km1, zr_km2, zr_km4, zr_km8, zr_km16, zr_tp, zr_tn, zr_kl, zr_ki, zr_kil, zr_kii, zr_ov, zr_is, zr_cn, zr_cfi, zr_cfl, zr_cfr, zr_cfo, zr_isi, zr_isl, zr_isc, zr_isr, zr_isn0, zr_isn1, zr_isn2, zr_iso, zr_reti, zr_ctm, zr_cat0, zr_cati, zr_cata, zr_catl, zr_cs0, zr_cs1, zr_cs2, zr_cs3, zr_cs4, zr_cs5, zr_cs6, Nat.reduceLeDiff, Option.toList_none, Option.toList_some, List.nil_append, List.cons_append, Nat.le_refl, true_and, Nat.reduceAdd, Nat.reduceSub, Nat.reduceMul, Nat.reduceEqDiff, if_true, if_false, ite_true, ite_false, reduceIte, List.getElem?_cons_zero, List.getElem?_cons_succ]
        rw [nI_add]
        refine hV.2.1 _ _ _ _ _ (ih (t + 1) c' (ud d t x) (by omega) hc' (fun z hz => ?_) (fun q z hz => ?_) ?_) (by simp only [zle, and_self])
        · by_cases q : z = t
          · rw [q, ud_self]; exact hx
          · rw [ud_ne q]; exact hd z (by omega)
        · rw [ud_ne (by omega)]; exact hki q z (by omega)
        · show pv _ (ud d t x) t + ud d t x t * _ + (pv _ _ t + dg 4294967296 b t * _) = pv _ _ t + dg 4294967296 a t * _ + c' * _
          rw [pv_ud (Nat.le_refl _), ud_self, Nat.pow_succ]
          generalize 4294967296 ^ t = P at hp ⊢
          have e3 : x * P + dg 4294967296 b t * P + c * P = dg 4294967296 a t * P + c' * (P * 4294967296) := by
            rw [Nat.mul_comm P, ← Nat.mul_assoc, ← Nat.add_mul, ← Nat.add_mul, ← Nat.add_mul, hxe]
          omega
      by_cases hge : dg 4294967296 b t + c ≤ dg 4294967296 a t
      · refine hV.1 5 _ _ _ ?_
        simp -implicitDefEqProofs only [d_R_subtract_0, d_R_subtract_5, d_R_subtract_46, d_R_subtract_47, d_R_subtract_54, t_R_subtract_0, t_R_subtract_5, t_R_subtract_46, t_R_subtract_47, t_R_subtract_54, kk_R_21, zs_aload_n, zs_aload, zs_iload_n, zs_iload, zs_lload_n, zs_lload, zs_istore_n, zs_istore, zs_lstore_n, zs_lstore, zs_astore_n, zs_astore, zs_iinc, zs_iconst, zs_bipush, zs_sipush, zs_lconst0, zs_lconst1, zs_ldc2_w, zs_ldc_w, zs_iadd, zs_isub, zs_imul, zs_iand, zs_ior, zs_ixor, zs_ishl, zs_ishr, zs_iushr, zs_idiv, zs_irem, zs_ineg, zs_ladd, zs_lsub, zs_lmul, zs_land, zs_lor, zs_lxor, zs_ldiv, zs_lrem, zs_lcmp, zs_lshl, zs_lshr, zs_lushr, zs_i2l, zs_l2i, zs_i2c, zs_dup_i, zs_pop_i, zs_dup_a, zs_pop_a, zs_dup2, zs_pop2, zs_nop, zs_goto, zs_if_eq, zs_icmp_eq, zs_if_ne, zs_icmp_ne, zs_if_lt, zs_icmp_lt, zs_if_ge, zs_icmp_ge, zs_if_gt, zs_icmp_gt, zs_if_le, zs_icmp_le, zs_getf, zs_putf, zs_gets, zs_alen, zs_iald, zs_cald, zs_lald, zs_aald, zs_iast, zs_cast, zs_last, zs_invstatic, zs_invvirtual, zs_invspecial, zs_ireturn, zs_lreturn, zs_areturn, zs_return, zs_tsw, zs_lsw, zr_zva0, zr_zvas, zr_zvai0, zr_zvais, zr_zvi0, zr_zvis, zr_zvii0, zr_zviis, zr_zvl0, zr_zvls, zr_zvli0, zr_zvlis, zr_zs1_0, zr_zs1_1n, zr_zs1_1i, zr_zs1_1a, zr_zs1_1l, zr_zs1_s, zr_zs2_0, zr_zs2_1n, zr_zs2_1i, zr_zs2_1a, zr_zs2_1l, zr_zs2_s, zr_f0, zr_f1, zr_f2, zr_f3, zr_kp, zr_k0, zr_k1, zr_km1, zr_km2, zr_km4, zr_km8, zr_km16, zr_tp, zr_tn, zr_kl, zr_ki, zr_kil, zr_kii, zr_ov, zr_is, zr_cn, zr_cfi, zr_cfl, zr_cfr, zr_cfo, zr_isi, zr_isl, zr_isc, zr_isr, zr_isn0, zr_isn1, zr_isn2, zr_iso, zr_reti, zr_ctm, zr_cat0, zr_cati, zr_cata, zr_catl, zr_cs0, zr_cs1, zr_cs2, zr_cs3, zr_cs4, zr_cs5, zr_cs6, Nat.reduceLeDiff, Option.toList_none, Option.toList_some, List.nil_append, List.cons_append, Nat.le_refl, true_and, Nat.reduceAdd, Nat.reduceSub, Nat.reduceMul, Nat.reduceEqDiff, if_true, if_false, ite_true, ite_false, reduceIte, List.getElem?_cons_zero, List.getElem?_cons_succ, hA, hB, zk_selfL hk, zk_self hk]
        simp only [zi_cl (t := t) (by omega), he, lN_sub (a := dg 4294967296 a t) (b := dg 4294967296 b t) (by omega), lN_sub (a := dg 4294967296 a t - dg 4294967296 b t) (b := c) (by omega), zl_mask (a := dg 4294967296 a t - dg 4294967296 b t - c) (by omega), zl_cge (a := dg 4294967296 a t - dg 4294967296 b t - c) (b := 0) (by omega) (by decide), LD_upd, List.set_set]
        refine ⟨fun q => ?_, fun _ => ⟨hin, hin, hin, fun _ => ?_, fun q => absurd (Nat.zero_le _) q⟩⟩
        · rw [zi_le (by omega) (by omega)] at q; omega
        rw [show (dg 4294967296 a t - dg 4294967296 b t - c) % 4294967296 = dg 4294967296 a t - dg 4294967296 b t - c by omega]
        refine hV.1 46 _ _ _ ?_
        simp -implicitDefEqProofs only [d_R_subtract_0, d_R_subtract_5, d_R_subtract_46, d_R_subtract_47, d_R_subtract_54, t_R_subtract_0, t_R_subtract_5, t_R_subtract_46, t_R_subtract_47, t_R_subtract_54, kk_R_21, zs_aload_n, zs_aload, zs_iload_n, zs_iload, zs_lload_n, zs_lload, zs_istore_n, zs_istore, zs_lstore_n, zs_lstore, zs_astore_n, zs_astore, zs_iinc, zs_iconst, zs_bipush, zs_sipush, zs_lconst0, zs_lconst1, zs_ldc2_w, zs_ldc_w, zs_iadd, zs_isub, zs_imul, zs_iand, zs_ior, zs_ixor, zs_ishl, zs_ishr, zs_iushr, zs_idiv, zs_irem, zs_ineg, zs_ladd, zs_lsub, zs_lmul, zs_land, zs_lor, zs_lxor, zs_ldiv, zs_lrem, zs_lcmp, zs_lshl, zs_lshr, zs_lushr, zs_i2l, zs_l2i, zs_i2c, zs_dup_i, zs_pop_i, zs_dup_a, zs_pop_a, zs_dup2, zs_pop2, zs_nop, zs_goto, zs_if_eq, zs_icmp_eq, zs_if_ne, zs_icmp_ne, zs_if_lt, zs_icmp_lt, zs_if_ge, zs_icmp_ge, zs_if_gt, zs_icmp_gt, zs_if_le, zs_icmp_le, zs_getf, zs_putf, zs_gets, zs_alen, zs_iald, zs_cald, zs_lald, zs_aald, zs_iast, zs_cast, zs_last, zs_invstatic, zs_invvirtual, zs_invspecial, zs_ireturn, zs_lreturn, zs_areturn, zs_return, zs_tsw, zs_lsw, zr_zva0, zr_zvas, zr_zvai0, zr_zvais, zr_zvi0, zr_zvis, zr_zvii0, zr_zviis, zr_zvl0, zr_zvls, zr_zvli0, zr_zvlis, zr_zs1_0, zr_zs1_1n, zr_zs1_1i, zr_zs1_1a, zr_zs1_1l, zr_zs1_s, zr_zs2_0, zr_zs2_1n, zr_zs2_1i, zr_zs2_1a, zr_zs2_1l, zr_zs2_s, zr_f0, zr_f1, zr_f2, zr_f3, zr_kp, zr_k0, zr_k1, zr_km1, zr_km2, zr_km4, zr_km8, zr_km16, zr_tp, zr_tn, zr_kl, zr_ki, zr_kil, zr_kii, zr_ov, zr_is, zr_cn, zr_cfi, zr_cfl, zr_cfr, zr_cfo, zr_isi, zr_isl, zr_isc, zr_isr, zr_isn0, zr_isn1, zr_isn2, zr_iso, zr_reti, zr_ctm, zr_cat0, zr_cati, zr_cata, zr_catl, zr_cs0, zr_cs1, zr_cs2, zr_cs3, zr_cs4, zr_cs5, zr_cs6, Nat.reduceLeDiff, Option.toList_none, Option.toList_some, List.nil_append, List.cons_append, Nat.le_refl, true_and, Nat.reduceAdd, Nat.reduceSub, Nat.reduceMul, Nat.reduceEqDiff, if_true, if_false, ite_true, ite_false, reduceIte, List.getElem?_cons_zero, List.getElem?_cons_succ]
        exact hV.2.1 _ _ _ _ _ (back _ 0 (by decide) (by omega) (by omega)) (by simp only [zle, and_self])
      · refine hV.1 5 _ _ _ ?_
        simp -implicitDefEqProofs only [d_R_subtract_0, d_R_subtract_5, d_R_subtract_46, d_R_subtract_47, d_R_subtract_54, t_R_subtract_0, t_R_subtract_5, t_R_subtract_46, t_R_subtract_47, t_R_subtract_54, kk_R_21, zs_aload_n, zs_aload, zs_iload_n, zs_iload, zs_lload_n, zs_lload, zs_istore_n, zs_istore, zs_lstore_n, zs_lstore, zs_astore_n, zs_astore, zs_iinc, zs_iconst, zs_bipush, zs_sipush, zs_lconst0, zs_lconst1, zs_ldc2_w, zs_ldc_w, zs_iadd, zs_isub, zs_imul, zs_iand, zs_ior, zs_ixor, zs_ishl, zs_ishr, zs_iushr, zs_idiv, zs_irem, zs_ineg, zs_ladd, zs_lsub, zs_lmul, zs_land, zs_lor, zs_lxor, zs_ldiv, zs_lrem, zs_lcmp, zs_lshl, zs_lshr, zs_lushr, zs_i2l, zs_l2i, zs_i2c, zs_dup_i, zs_pop_i, zs_dup_a, zs_pop_a, zs_dup2, zs_pop2, zs_nop, zs_goto, zs_if_eq, zs_icmp_eq, zs_if_ne, zs_icmp_ne, zs_if_lt, zs_icmp_lt, zs_if_ge, zs_icmp_ge, zs_if_gt, zs_icmp_gt, zs_if_le, zs_icmp_le, zs_getf, zs_putf, zs_gets, zs_alen, zs_iald, zs_cald, zs_lald, zs_aald, zs_iast, zs_cast, zs_last, zs_invstatic, zs_invvirtual, zs_invspecial, zs_ireturn, zs_lreturn, zs_areturn, zs_return, zs_tsw, zs_lsw, zr_zva0, zr_zvas, zr_zvai0, zr_zvais, zr_zvi0, zr_zvis, zr_zvii0, zr_zviis, zr_zvl0, zr_zvls, zr_zvli0, zr_zvlis, zr_zs1_0, zr_zs1_1n, zr_zs1_1i, zr_zs1_1a, zr_zs1_1l, zr_zs1_s, zr_zs2_0, zr_zs2_1n, zr_zs2_1i, zr_zs2_1a, zr_zs2_1l, zr_zs2_s, zr_f0, zr_f1, zr_f2, zr_f3, zr_kp, zr_k0, zr_k1, zr_km1, zr_km2, zr_km4, zr_km8, zr_km16, zr_tp, zr_tn, zr_kl, zr_ki, zr_kil, zr_kii, zr_ov, zr_is, zr_cn, zr_cfi, zr_cfl, zr_cfr, zr_cfo, zr_isi, zr_isl, zr_isc, zr_isr, zr_isn0, zr_isn1, zr_isn2, zr_iso, zr_reti, zr_ctm, zr_cat0, zr_cati, zr_cata, zr_catl, zr_cs0, zr_cs1, zr_cs2, zr_cs3, zr_cs4, zr_cs5, zr_cs6, Nat.reduceLeDiff, Option.toList_none, Option.toList_some, List.nil_append, List.cons_append, Nat.le_refl, true_and, Nat.reduceAdd, Nat.reduceSub, Nat.reduceMul, Nat.reduceEqDiff, if_true, if_false, ite_true, ite_false, reduceIte, List.getElem?_cons_zero, List.getElem?_cons_succ, hA, hB, zk_selfL hk, zk_self hk]
        have hng := zl_neg (x := dg 4294967296 a t + 18446744073709551616 - dg 4294967296 b t - c) (by omega) (by omega)
        simp only [zi_cl (t := t) (by omega), he, zl_sub2 (a := dg 4294967296 a t) (b := dg 4294967296 b t) (w := c) (by omega) (by omega), zl_mask (a := dg 4294967296 a t + 18446744073709551616 - dg 4294967296 b t - c) (by omega), LD_upd, List.set_set]
        refine ⟨fun q => ?_, fun _ => ⟨hin, hin, hin, fun q => absurd q hng, fun _ => ?_⟩⟩
        · rw [zi_le (by omega) (by omega)] at q; omega
        exact hV.2.1 _ _ _ _ _ (back _ 1 (by decide) (by omega) (by omega)) (by simp only [zle, and_self])
  refine hV.1 0 _ _ _ ?_
  simp -implicitDefEqProofs only [d_R_subtract_0, d_R_subtract_5, d_R_subtract_46, d_R_subtract_47, d_R_subtract_54, t_R_subtract_0, t_R_subtract_5, t_R_subtract_46, t_R_subtract_47, t_R_subtract_54, kk_R_21, zs_aload_n, zs_aload, zs_iload_n, zs_iload, zs_lload_n, zs_lload, zs_istore_n, zs_istore, zs_lstore_n, zs_lstore, zs_astore_n, zs_astore, zs_iinc, zs_iconst, zs_bipush, zs_sipush, zs_lconst0, zs_lconst1, zs_ldc2_w, zs_ldc_w, zs_iadd, zs_isub, zs_imul, zs_iand, zs_ior, zs_ixor, zs_ishl, zs_ishr, zs_iushr, zs_idiv, zs_irem, zs_ineg, zs_ladd, zs_lsub, zs_lmul, zs_land, zs_lor, zs_lxor, zs_ldiv, zs_lrem, zs_lcmp, zs_lshl, zs_lshr, zs_lushr, zs_i2l, zs_l2i, zs_i2c, zs_dup_i, zs_pop_i, zs_dup_a, zs_pop_a, zs_dup2, zs_pop2, zs_nop, zs_goto, zs_if_eq, zs_icmp_eq, zs_if_ne, zs_icmp_ne, zs_if_lt, zs_icmp_lt, zs_if_ge, zs_icmp_ge, zs_if_gt, zs_icmp_gt, zs_if_le, zs_icmp_le, zs_getf, zs_putf, zs_gets, zs_alen, zs_iald, zs_cald, zs_lald, zs_aald, zs_iast, zs_cast, zs_last, zs_invstatic, zs_invvirtual, zs_invspecial, zs_ireturn, zs_lreturn, zs_areturn, zs_return, zs_tsw, zs_lsw, zr_zva0, zr_zvas, zr_zvai0, zr_zvais, zr_zvi0, zr_zvis, zr_zvii0, zr_zviis, zr_zvl0, zr_zvls, zr_zvli0, zr_zvlis, zr_zs1_0, zr_zs1_1n, zr_zs1_1i, zr_zs1_1a, zr_zs1_1l, zr_zs1_s, zr_zs2_0, zr_zs2_1n, zr_zs2_1i, zr_zs2_1a, zr_zs2_1l, zr_zs2_s, zr_f0, zr_f1, zr_f2, zr_f3, zr_kp, zr_k0, zr_k1, zr_km1, zr_km2, zr_km4, zr_km8, zr_km16, zr_tp, zr_tn, zr_kl, zr_ki, zr_kil, zr_kii, zr_ov, zr_is, zr_cn, zr_cfi, zr_cfl, zr_cfr, zr_cfo, zr_isi, zr_isl, zr_isc, zr_isr, zr_isn0, zr_isn1, zr_isn2, zr_iso, zr_reti, zr_ctm, zr_cat0, zr_cati, zr_cata, zr_catl, zr_cs0, zr_cs1, zr_cs2, zr_cs3, zr_cs4, zr_cs5, zr_cs6, Nat.reduceLeDiff, Option.toList_none, Option.toList_some, List.nil_append, List.cons_append, Nat.le_refl, true_and, Nat.reduceAdd, Nat.reduceSub, Nat.reduceMul, Nat.reduceEqDiff, if_true, if_false, ite_true, ite_false, reduceIte, List.getElem?_cons_zero, List.getElem?_cons_succ]
  have h0 := loop n 0 0 (dg 4294967296 c0) rfl (by decide) (fun x hx => absurd hx (by omega)) (fun q x _ => by
    subst q
    exact LR_inj (Option.some.inj (hk.symm.trans hi)) x) (by simp [pv])
  rw [zk_same hk] at h0
  exact h0
def sp_R_negateWord : zSpec := fun vs σ K => ∃ (i n v : Nat), vs = [.ref i] ∧ σ[i]? = some (LR n v) ∧ 8 ≤ n ∧ n < 1000 ∧ K none (σ.set i (LR n (v / 4294967296 ^ 8 * 4294967296 ^ 8 + (4294967296 ^ 8 - v % 4294967296 ^ 8) % 4294967296 ^ 8)))
def ct_R_negateWord : List (Nat × Nat × zSpec) := []
set_option maxRecDepth 100000 in
theorem co_R_negateWord : ∀ q ∈ ct_R_negateWord, zCok "WideWordStack$Row" r_R_negateWord q := by
  intro q hq
  unfold ct_R_negateWord at hq
  cases hq
set_option maxHeartbeats 4000000 in
set_option maxRecDepth 100000 in
theorem zm_R_negateWord : ∀ l vs σ K, sp_R_negateWord vs σ K → zMet l y_R_negateWord c_R_negateWord 6 none r_R_negateWord vs σ K := by
  rintro l vs σ K ⟨i, n, v, rfl, hi, hn8, hn, h⟩
  refine zmet_of (own := "WideWordStack$Row") (f := f_R) (kk := kk_R) (t := ct_R_negateWord) (g := g_R) (cd := d_R_negateWord) (by decide +kernel) rfl fo_R ko_R go_R co_R_negateWord k_R_negateWord (Nat.le_of_ble_eq_true rfl) ?_
  intro V hV
  show V 0 [some _, none, none, none, none, none] [] _
  have loop : ∀ (m t c : Nat) (d : Nat → Nat), m + t = 8 → c ≤ 1 → (∀ x, x < t → d x < 4294967296) → (∀ x, t ≤ x → d x = dg 4294967296 v x) → pv 4294967296 d t + c * 4294967296 ^ t + pv 4294967296 (dg 4294967296 v) t = 4294967296 ^ t → V 4 [some (.ref i), some (.long (lN c)), none, some (.int (nI t)), none, none] [] (σ.set i (LD n d)) := by
    intro m
    induction m with
    | zero =>
      intro t c d hm hc hd hd2 hp
      have ht : t = 8 := by omega
      subst ht
      refine hV.1 4 _ _ _ ?_
      simp -implicitDefEqProofs only [d_R_negateWord_0, d_R_negateWord_4, d_R_negateWord_42, t_R_negateWord_0, t_R_negateWord_4, t_R_negateWord_42, kk_R_21, zs_aload_n, zs_aload, zs_iload_n, zs_iload, zs_lload_n, zs_lload, zs_istore_n, zs_istore, zs_lstore_n, zs_lstore, zs_astore_n, zs_astore, zs_iinc, zs_iconst, zs_bipush, zs_sipush, zs_lconst0, zs_lconst1, zs_ldc2_w, zs_ldc_w, zs_iadd, zs_isub, zs_imul, zs_iand, zs_ior, zs_ixor, zs_ishl, zs_ishr, zs_iushr, zs_idiv, zs_irem, zs_ineg, zs_ladd, zs_lsub, zs_lmul, zs_land, zs_lor, zs_lxor, zs_ldiv, zs_lrem, zs_lcmp, zs_lshl, zs_lshr, zs_lushr, zs_i2l, zs_l2i, zs_i2c, zs_dup_i, zs_pop_i, zs_dup_a, zs_pop_a, zs_dup2, zs_pop2, zs_nop, zs_goto, zs_if_eq, zs_icmp_eq, zs_if_ne, zs_icmp_ne, zs_if_lt, zs_icmp_lt, zs_if_ge, zs_icmp_ge, zs_if_gt, zs_icmp_gt, zs_if_le, zs_icmp_le, zs_getf, zs_putf, zs_gets, zs_alen, zs_iald, zs_cald, zs_lald, zs_aald, zs_iast, zs_cast, zs_last, zs_invstatic, zs_invvirtual, zs_invspecial, zs_ireturn, zs_lreturn, zs_areturn, zs_return, zs_tsw, zs_lsw, zr_zva0, zr_zvas, zr_zvai0, zr_zvais, zr_zvi0, zr_zvis, zr_zvii0, zr_zviis, zr_zvl0, zr_zvls, zr_zvli0, zr_zvlis, zr_zs1_0, zr_zs1_1n, zr_zs1_1i, zr_zs1_1a, zr_zs1_1l, zr_zs1_s, zr_zs2_0, zr_zs2_1n, zr_zs2_1i, zr_zs2_1a, zr_zs2_1l, zr_zs2_s, zr_f0, zr_f1, zr_f2, zr_f3, zr_kp, zr_k0, zr_k1, zr_km1, zr_km2, zr_km4, zr_km8, zr_km16, zr_tp, zr_tn, zr_kl, zr_ki, zr_kil, zr_kii, zr_ov, zr_is, zr_cn, zr_cfi, zr_cfl, zr_cfr, zr_cfo, zr_isi, zr_isl, zr_isc, zr_isr, zr_isn0, zr_isn1, zr_isn2, zr_iso, zr_reti, zr_ctm, zr_cat0, zr_cati, zr_cata, zr_catl, zr_cs0, zr_cs1, zr_cs2, zr_cs3, zr_cs4, zr_cs5, zr_cs6, Nat.reduceLeDiff, Option.toList_none, Option.toList_some, List.nil_append, List.cons_append, Nat.le_refl, true_and, Nat.reduceAdd, Nat.reduceSub, Nat.reduceMul, Nat.reduceEqDiff, if_true, if_false, ite_true, ite_false, reduceIte, List.getElem?_cons_zero, List.getElem?_cons_succ]
      refine ⟨fun _ => ?_, fun q => absurd (Int32.le_refl _) q⟩
      rw [pv_dg] at hp
      refine hV.2.2 _ _ _ _ _ _ _ ?_ (LD_sim (e := dg 4294967296 (v / 4294967296 ^ 8 * 4294967296 ^ 8 + (4294967296 ^ 8 - v % 4294967296 ^ 8) % 4294967296 ^ 8)) (fun x hx => ?_))
      · refine hV.1 42 _ _ _ ?_
        simp -implicitDefEqProofs only [d_R_negateWord_0, d_R_negateWord_4, d_R_negateWord_42, t_R_negateWord_0, t_R_negateWord_4, t_R_negateWord_42, kk_R_21, zs_aload_n, zs_aload, zs_iload_n, zs_iload, zs_lload_n, zs_lload, zs_istore_n, zs_istore, zs_lstore_n, zs_lstore, zs_astore_n, zs_astore, zs_iinc, zs_iconst, zs_bipush, zs_sipush, zs_lconst0, zs_lconst1, zs_ldc2_w, zs_ldc_w, zs_iadd, zs_isub, zs_imul, zs_iand, zs_ior, zs_ixor, zs_ishl, zs_ishr, zs_iushr, zs_idiv, zs_irem, zs_ineg, zs_ladd, zs_lsub, zs_lmul, zs_land, zs_lor, zs_lxor, zs_ldiv, zs_lrem, zs_lcmp, zs_lshl, zs_lshr, zs_lushr, zs_i2l, zs_l2i, zs_i2c, zs_dup_i, zs_pop_i, zs_dup_a, zs_pop_a, zs_dup2, zs_pop2, zs_nop, zs_goto, zs_if_eq, zs_icmp_eq, zs_if_ne, zs_icmp_ne, zs_if_lt, zs_icmp_lt, zs_if_ge, zs_icmp_ge, zs_if_gt, zs_icmp_gt, zs_if_le, zs_icmp_le, zs_getf, zs_putf, zs_gets, zs_alen, zs_iald, zs_cald, zs_lald, zs_aald, zs_iast, zs_cast, zs_last, zs_invstatic, zs_invvirtual, zs_invspecial, zs_ireturn, zs_lreturn, zs_areturn, zs_return, zs_tsw, zs_lsw, zr_zva0, zr_zvas, zr_zvai0, zr_zvais, zr_zvi0, zr_zvis, zr_zvii0, zr_zviis, zr_zvl0, zr_zvls, zr_zvli0, zr_zvlis, zr_zs1_0, zr_zs1_1n, zr_zs1_1i, zr_zs1_1a, zr_zs1_1l, zr_zs1_s, zr_zs2_0, zr_zs2_1n, zr_zs2_1i, zr_zs2_1a, zr_zs2_1l, zr_zs2_s, zr_f0, zr_f1, zr_f2, zr_f3, zr_kp, zr_k0, zr_k1, zr_km1, zr_km2, zr_km4, zr_km8, zr_km16, zr_tp, zr_tn, zr_kl, zr_ki, zr_kil, zr_kii, zr_ov, zr_is, zr_cn, zr_cfi, zr_cfl, zr_cfr, zr_cfo, zr_isi, zr_isl, zr_isc, zr_isr, zr_isn0, zr_isn1, zr_isn2, zr_iso, zr_reti, zr_ctm, zr_cat0, zr_cati, zr_cata, zr_catl, zr_cs0, zr_cs1, zr_cs2, zr_cs3, zr_cs4, zr_cs5, zr_cs6, Nat.reduceLeDiff, Option.toList_none, Option.toList_some, List.nil_append, List.cons_append, Nat.le_refl, true_and, Nat.reduceAdd, Nat.reduceSub, Nat.reduceMul, Nat.reduceEqDiff, if_true, if_false, ite_true, ite_false, reduceIte, List.getElem?_cons_zero, List.getElem?_cons_succ]
        exact zk0 h
      · rw [nm_low (by decide)]
        by_cases h8 : x < 8
        · rw [if_pos h8, show 4294967296 ^ 8 - v % 4294967296 ^ 8 = pv 4294967296 d 8 + c * 4294967296 ^ 8 by omega, ← dg_mod (n := 8) h8, Nat.add_mul_mod_self_right, dg_mod h8, dg_pv (by decide) hd h8]
        · rw [if_neg h8]; exact hd2 x (by omega)
    | succ m ih =>
      intro t c d hm hc hd hd2 hp
      have h1 := dg_lt (b := 4294967296) (by decide) v t
      have hin : vp_in (nI t) n := zi_in (by omega) (by omega)
      have hdt := hd2 t (Nat.le_refl _)
      refine hV.1 4 _ _ _ ?_
      simp -implicitDefEqProofs only [d_R_negateWord_0, d_R_negateWord_4, d_R_negateWord_42, t_R_negateWord_0, t_R_negateWord_4, t_R_negateWord_42, kk_R_21, zs_aload_n, zs_aload, zs_iload_n, zs_iload, zs_lload_n, zs_lload, zs_istore_n, zs_istore, zs_lstore_n, zs_lstore, zs_astore_n, zs_astore, zs_iinc, zs_iconst, zs_bipush, zs_sipush, zs_lconst0, zs_lconst1, zs_ldc2_w, zs_ldc_w, zs_iadd, zs_isub, zs_imul, zs_iand, zs_ior, zs_ixor, zs_ishl, zs_ishr, zs_iushr, zs_idiv, zs_irem, zs_ineg, zs_ladd, zs_lsub, zs_lmul, zs_land, zs_lor, zs_lxor, zs_ldiv, zs_lrem, zs_lcmp, zs_lshl, zs_lshr, zs_lushr, zs_i2l, zs_l2i, zs_i2c, zs_dup_i, zs_pop_i, zs_dup_a, zs_pop_a, zs_dup2, zs_pop2, zs_nop, zs_goto, zs_if_eq, zs_icmp_eq, zs_if_ne, zs_icmp_ne, zs_if_lt, zs_icmp_lt, zs_if_ge, zs_icmp_ge, zs_if_gt, zs_icmp_gt, zs_if_le, zs_icmp_le, zs_getf, zs_putf, zs_gets, zs_alen, zs_iald, zs_cald, zs_lald, zs_aald, zs_iast, zs_cast, zs_last, zs_invstatic, zs_invvirtual, zs_invspecial, zs_ireturn, zs_lreturn, zs_areturn, zs_return, zs_tsw, zs_lsw, zr_zva0, zr_zvas, zr_zvai0, zr_zvais, zr_zvi0, zr_zvis, zr_zvii0, zr_zviis, zr_zvl0, zr_zvls, zr_zvli0, zr_zvlis, zr_zs1_0, zr_zs1_1n, zr_zs1_1i, zr_zs1_1a, zr_zs1_1l, zr_zs1_s, zr_zs2_0, zr_zs2_1n, zr_zs2_1i, zr_zs2_1a, zr_zs2_1l, zr_zs2_s, zr_f0, zr_f1, zr_f2, zr_f3, zr_kp, zr_k0, zr_k1, zr_km1, zr_km2, zr_km4, zr_km8, zr_km16, zr_tp, zr_tn, zr_kl, zr_ki, zr_kil, zr_kii, zr_ov, zr_is, zr_cn, zr_cfi, zr_cfl, zr_cfr, zr_cfo, zr_isi, zr_isl, zr_isc, zr_isr, zr_isn0, zr_isn1, zr_isn2, zr_iso, zr_reti, zr_ctm, zr_cat0, zr_cati, zr_cata, zr_catl, zr_cs0, zr_cs1, zr_cs2, zr_cs3, zr_cs4, zr_cs5, zr_cs6, Nat.reduceLeDiff, Option.toList_none, Option.toList_some, List.nil_append, List.cons_append, Nat.le_refl, true_and, Nat.reduceAdd, Nat.reduceSub, Nat.reduceMul, Nat.reduceEqDiff, if_true, if_false, ite_true, ite_false, reduceIte, List.getElem?_cons_zero, List.getElem?_cons_succ, zk_selfL hi, zk_self hi]
      simp only [zi_cl (t := t) (by omega), hdt, zl_xmask h1, lN_add, zl_mask (a := 4294967295 - dg 4294967296 v t + c) (by omega), zl_hi (a := 4294967295 - dg 4294967296 v t + c) (by omega), LD_upd, nI_add, List.set_set]
      refine ⟨fun q => ?_, fun _ => ⟨hin, hin, ?_⟩⟩
      · rw [zi_le (by omega) (by omega)] at q; omega
      refine hV.2.1 _ _ _ _ _ (ih (t + 1) ((4294967295 - dg 4294967296 v t + c) / 4294967296) _ (by omega) (by omega) (nm_dlt (by decide) hd) (fun x hx => ?_) ?_) (by simp only [zle, and_self])
      · rw [ud_ne (by omega)]; exact hd2 x (by omega)
      · rw [nm_digit]
        show _ + (pv _ _ t + dg 4294967296 v t * _) = _
        rw [Nat.pow_succ]
        generalize 4294967296 ^ t = P at hp ⊢
        have e4 : (4294967295 - dg 4294967296 v t) * P + dg 4294967296 v t * P = 4294967295 * P := by rw [← Nat.add_mul]; congr 1; omega
        rw [Nat.add_mul (4294967295 - dg 4294967296 v t) c P]
        omega
  refine hV.1 0 _ _ _ ?_
  simp -implicitDefEqProofs only [d_R_negateWord_0, d_R_negateWord_4, d_R_negateWord_42, t_R_negateWord_0, t_R_negateWord_4, t_R_negateWord_42, kk_R_21, zs_aload_n, zs_aload, zs_iload_n, zs_iload, zs_lload_n, zs_lload, zs_istore_n, zs_istore, zs_lstore_n, zs_lstore, zs_astore_n, zs_astore, zs_iinc, zs_iconst, zs_bipush, zs_sipush, zs_lconst0, zs_lconst1, zs_ldc2_w, zs_ldc_w, zs_iadd, zs_isub, zs_imul, zs_iand, zs_ior, zs_ixor, zs_ishl, zs_ishr, zs_iushr, zs_idiv, zs_irem, zs_ineg, zs_ladd, zs_lsub, zs_lmul, zs_land, zs_lor, zs_lxor, zs_ldiv, zs_lrem, zs_lcmp, zs_lshl, zs_lshr, zs_lushr, zs_i2l, zs_l2i, zs_i2c, zs_dup_i, zs_pop_i, zs_dup_a, zs_pop_a, zs_dup2, zs_pop2, zs_nop, zs_goto, zs_if_eq, zs_icmp_eq, zs_if_ne, zs_icmp_ne, zs_if_lt, zs_icmp_lt, zs_if_ge, zs_icmp_ge, zs_if_gt, zs_icmp_gt, zs_if_le, zs_icmp_le, zs_getf, zs_putf, zs_gets, zs_alen, zs_iald, zs_cald, zs_lald, zs_aald, zs_iast, zs_cast, zs_last, zs_invstatic, zs_invvirtual, zs_invspecial, zs_ireturn, zs_lreturn, zs_areturn, zs_return, zs_tsw, zs_lsw, zr_zva0, zr_zvas, zr_zvai0, zr_zvais, zr_zvi0, zr_zvis, zr_zvii0, zr_zviis, zr_zvl0, zr_zvls, zr_zvli0, zr_zvlis, zr_zs1_0, zr_zs1_1n, zr_zs1_1i, zr_zs1_1a, zr_zs1_1l, zr_zs1_s, zr_zs2_0, zr_zs2_1n, zr_zs2_1i, zr_zs2_1a, zr_zs2_1l, zr_zs2_s, zr_f0, zr_f1, zr_f2, zr_f3, zr_kp, zr_k0, zr_k1, zr_km1, zr_km2, zr_km4, zr_km8, zr_km16, zr_tp, zr_tn, zr_kl, zr_ki, zr_kil, zr_kii, zr_ov, zr_is, zr_cn, zr_cfi, zr_cfl, zr_cfr, zr_cfo, zr_isi, zr_isl, zr_isc, zr_isr, zr_isn0, zr_isn1, zr_isn2, zr_iso, zr_reti, zr_ctm, zr_cat0, zr_cati, zr_cata, zr_catl, zr_cs0, zr_cs1, zr_cs2, zr_cs3, zr_cs4, zr_cs5, zr_cs6, Nat.reduceLeDiff, Option.toList_none, Option.toList_some, List.nil_append, List.cons_append, Nat.le_refl, true_and, Nat.reduceAdd, Nat.reduceSub, Nat.reduceMul, Nat.reduceEqDiff, if_true, if_false, ite_true, ite_false, reduceIte, List.getElem?_cons_zero, List.getElem?_cons_succ]
  have h0 := loop 8 0 1 (dg 4294967296 v) rfl (by decide) (fun x hx => absurd hx (by omega)) (fun x _ => rfl) (by simp [pv])
  rw [zk_same hi] at h0
  exact h0
def sp_R_multiplyAdd : zSpec := fun vs σ K => ∃ (i n v f a : Nat), vs = [.ref i, .long (lN f), .long (lN a)] ∧ σ[i]? = some (LR n v) ∧ n < 1000 ∧ v < 4294967296 ^ n ∧ f < 4294967296 ∧ a < 4294967296 ∧ K (some (.long (lN ((v * f + a) / 4294967296 ^ n)))) (σ.set i (LR n ((v * f + a) % 4294967296 ^ n)))
def ct_R_multiplyAdd : List (Nat × Nat × zSpec) := []
set_option maxRecDepth 100000 in
theorem co_R_multiplyAdd : ∀ q ∈ ct_R_multiplyAdd, zCok "WideWordStack$Row" r_R_multiplyAdd q := by
  intro q hq
  unfold ct_R_multiplyAdd at hq
  cases hq
set_option maxHeartbeats 4000000 in
set_option maxRecDepth 100000 in
theorem zm_R_multiplyAdd : ∀ l vs σ K, sp_R_multiplyAdd vs σ K → zMet l y_R_multiplyAdd c_R_multiplyAdd 10 (some .long) r_R_multiplyAdd vs σ K := by
  rintro l vs σ K ⟨i, n, v, f, a, rfl, hi, hn, hv, hf, ha, h⟩
  refine zmet_of (own := "WideWordStack$Row") (f := f_R) (kk := kk_R) (t := ct_R_multiplyAdd) (g := g_R) (cd := d_R_multiplyAdd) (by decide +kernel) rfl fo_R ko_R go_R co_R_multiplyAdd k_R_multiplyAdd (Nat.le_of_ble_eq_true rfl) ?_
  intro V hV
  show V 0 [some _, some _, none, some _, none, none, none, none, none, none] [] _
  have loop : ∀ (m t c : Nat) (d : Nat → Nat), m + t = n → c < 4294967296 → (∀ x, x < t → d x < 4294967296) → (∀ x, t ≤ x → d x = dg 4294967296 v x) → pv 4294967296 d t + c * 4294967296 ^ t = pv 4294967296 (dg 4294967296 v) t * f + a → V 6 [some (.ref i), some (.long (lN f)), none, some (.long (lN a)), none, some (.long (lN c)), none, some (.int (nI t)), none, none] [] (σ.set i (LD n d)) := by
    intro m
    induction m with
    | zero =>
      intro t c d hm hc hd hd2 hp
      have ht : t = n := by omega
      subst ht
      refine hV.1 6 _ _ _ ?_
      simp -implicitDefEqProofs only [d_R_multiplyAdd_0, d_R_multiplyAdd_6, d_R_multiplyAdd_47, t_R_multiplyAdd_0, t_R_multiplyAdd_6, t_R_multiplyAdd_47, kk_R_21, zs_aload_n, zs_aload, zs_iload_n, zs_iload, zs_lload_n, zs_lload, zs_istore_n, zs_istore, zs_lstore_n, zs_lstore, zs_astore_n, zs_astore, zs_iinc, zs_iconst, zs_bipush, zs_sipush, zs_lconst0, zs_lconst1, zs_ldc2_w, zs_ldc_w, zs_iadd, zs_isub, zs_imul, zs_iand, zs_ior, zs_ixor, zs_ishl, zs_ishr, zs_iushr, zs_idiv, zs_irem, zs_ineg, zs_ladd, zs_lsub, zs_lmul, zs_land, zs_lor, zs_lxor, zs_ldiv, zs_lrem, zs_lcmp, zs_lshl, zs_lshr, zs_lushr, zs_i2l, zs_l2i, zs_i2c, zs_dup_i, zs_pop_i, zs_dup_a, zs_pop_a, zs_dup2, zs_pop2, zs_nop, zs_goto, zs_if_eq, zs_icmp_eq, zs_if_ne, zs_icmp_ne, zs_if_lt, zs_icmp_lt, zs_if_ge, zs_icmp_ge, zs_if_gt, zs_icmp_gt, zs_if_le, zs_icmp_le, zs_getf, zs_putf, zs_gets, zs_alen, zs_iald, zs_cald, zs_lald, zs_aald, zs_iast, zs_cast, zs_last, zs_invstatic, zs_invvirtual, zs_invspecial, zs_ireturn, zs_lreturn, zs_areturn, zs_return, zs_tsw, zs_lsw, zr_zva0, zr_zvas, zr_zvai0, zr_zvais, zr_zvi0, zr_zvis, zr_zvii0, zr_zviis, zr_zvl0, zr_zvls, zr_zvli0, zr_zvlis, zr_zs1_0, zr_zs1_1n, zr_zs1_1i, zr_zs1_1a, zr_zs1_1l, zr_zs1_s, zr_zs2_0, zr_zs2_1n, zr_zs2_1i, zr_zs2_1a, zr_zs2_1l, zr_zs2_s, zr_f0, zr_f1, zr_f2, zr_f3, zr_kp, zr_k0, zr_k1, zr_km1, zr_km2, zr_km4, zr_km8, zr_km16, zr_tp, zr_tn, zr_kl, zr_ki, zr_kil, zr_kii, zr_ov, zr_is, zr_cn, zr_cfi, zr_cfl, zr_cfr, zr_cfo, zr_isi, zr_isl, zr_isc, zr_isr, zr_isn0, zr_isn1, zr_isn2, zr_iso, zr_reti, zr_ctm, zr_cat0, zr_cati, zr_cata, zr_catl, zr_cs0, zr_cs1, zr_cs2, zr_cs3, zr_cs4, zr_cs5, zr_cs6, Nat.reduceLeDiff, Option.toList_none, Option.toList_some, List.nil_append, List.cons_append, Nat.le_refl, true_and, Nat.reduceAdd, Nat.reduceSub, Nat.reduceMul, Nat.reduceEqDiff, if_true, if_false, ite_true, ite_false, reduceIte, List.getElem?_cons_zero, List.getElem?_cons_succ, zk_selfL hi]
      refine ⟨fun _ => ?_, fun q => absurd (Int32.le_refl _) q⟩
      rw [pv_dg, Nat.mod_eq_of_lt hv] at hp
      refine hV.2.2 _ _ _ _ _ _ _ ?_ (LD_sim (nm_row hd hp))
      refine hV.1 47 _ _ _ ?_
      simp -implicitDefEqProofs only [d_R_multiplyAdd_0, d_R_multiplyAdd_6, d_R_multiplyAdd_47, t_R_multiplyAdd_0, t_R_multiplyAdd_6, t_R_multiplyAdd_47, kk_R_21, zs_aload_n, zs_aload, zs_iload_n, zs_iload, zs_lload_n, zs_lload, zs_istore_n, zs_istore, zs_lstore_n, zs_lstore, zs_astore_n, zs_astore, zs_iinc, zs_iconst, zs_bipush, zs_sipush, zs_lconst0, zs_lconst1, zs_ldc2_w, zs_ldc_w, zs_iadd, zs_isub, zs_imul, zs_iand, zs_ior, zs_ixor, zs_ishl, zs_ishr, zs_iushr, zs_idiv, zs_irem, zs_ineg, zs_ladd, zs_lsub, zs_lmul, zs_land, zs_lor, zs_lxor, zs_ldiv, zs_lrem, zs_lcmp, zs_lshl, zs_lshr, zs_lushr, zs_i2l, zs_l2i, zs_i2c, zs_dup_i, zs_pop_i, zs_dup_a, zs_pop_a, zs_dup2, zs_pop2, zs_nop, zs_goto, zs_if_eq, zs_icmp_eq, zs_if_ne, zs_icmp_ne, zs_if_lt, zs_icmp_lt, zs_if_ge, zs_icmp_ge, zs_if_gt, zs_icmp_gt, zs_if_le, zs_icmp_le, zs_getf, zs_putf, zs_gets, zs_alen, zs_iald, zs_cald, zs_lald, zs_aald, zs_iast, zs_cast, zs_last, zs_invstatic, zs_invvirtual, zs_invspecial, zs_ireturn, zs_lreturn, zs_areturn, zs_return, zs_tsw, zs_lsw, zr_zva0, zr_zvas, zr_zvai0, zr_zvais, zr_zvi0, zr_zvis, zr_zvii0, zr_zviis, zr_zvl0, zr_zvls, zr_zvli0, zr_zvlis, zr_zs1_0, zr_zs1_1n, zr_zs1_1i, zr_zs1_1a, zr_zs1_1l, zr_zs1_s, zr_zs2_0, zr_zs2_1n, zr_zs2_1i, zr_zs2_1a, zr_zs2_1l, zr_zs2_s, zr_f0, zr_f1, zr_f2, zr_f3, zr_kp, zr_k0, zr_k1, zr_km1, zr_km2, zr_km4, zr_km8, zr_km16, zr_tp, zr_tn, zr_kl, zr_ki, zr_kil, zr_kii, zr_ov, zr_is, zr_cn, zr_cfi, zr_cfl, zr_cfr, zr_cfo, zr_isi, zr_isl, zr_isc, zr_isr, zr_isn0, zr_isn1, zr_isn2, zr_iso, zr_reti, zr_ctm, zr_cat0, zr_cati, zr_cata, zr_catl, zr_cs0, zr_cs1, zr_cs2, zr_cs3, zr_cs4, zr_cs5, zr_cs6, Nat.reduceLeDiff, Option.toList_none, Option.toList_some, List.nil_append, List.cons_append, Nat.le_refl, true_and, Nat.reduceAdd, Nat.reduceSub, Nat.reduceMul, Nat.reduceEqDiff, if_true, if_false, ite_true, ite_false, reduceIte, List.getElem?_cons_zero, List.getElem?_cons_succ]
      have e : (v * f + a) / 4294967296 ^ t = c := by
        rw [← hp, Nat.mul_comm, Nat.add_mul_div_left _ _ (Nat.pow_pos (by decide)), Nat.div_eq_of_lt (pv_lt hd), Nat.zero_add]
      rw [e] at h
      exact zk0 h
    | succ m ih =>
      intro t c d hm hc hd hd2 hp
      have h1 := dg_lt (b := 4294967296) (by decide) v t
      have hin : vp_in (nI t) n := zi_in (by omega) (by omega)
      have hdt := hd2 t (Nat.le_refl _)
      have hmul : dg 4294967296 v t * f ≤ 4294967295 * 4294967295 := Nat.mul_le_mul (by omega) (by omega)
      refine hV.1 6 _ _ _ ?_
      simp -implicitDefEqProofs only [d_R_multiplyAdd_0, d_R_multiplyAdd_6, d_R_multiplyAdd_47, t_R_multiplyAdd_0, t_R_multiplyAdd_6, t_R_multiplyAdd_47, kk_R_21, zs_aload_n, zs_aload, zs_iload_n, zs_iload, zs_lload_n, zs_lload, zs_istore_n, zs_istore, zs_lstore_n, zs_lstore, zs_astore_n, zs_astore, zs_iinc, zs_iconst, zs_bipush, zs_sipush, zs_lconst0, zs_lconst1, zs_ldc2_w, zs_ldc_w, zs_iadd, zs_isub, zs_imul, zs_iand, zs_ior, zs_ixor, zs_ishl, zs_ishr, zs_iushr, zs_idiv, zs_irem, zs_ineg, zs_ladd, zs_lsub, zs_lmul, zs_land, zs_lor, zs_lxor, zs_ldiv, zs_lrem, zs_lcmp, zs_lshl, zs_lshr, zs_lushr, zs_i2l, zs_l2i, zs_i2c, zs_dup_i, zs_pop_i, zs_dup_a, zs_pop_a, zs_dup2, zs_pop2, zs_nop, zs_goto, zs_if_eq, zs_icmp_eq, zs_if_ne, zs_icmp_ne, zs_if_lt, zs_icmp_lt, zs_if_ge, zs_icmp_ge, zs_if_gt, zs_icmp_gt, zs_if_le, zs_icmp_le, zs_getf, zs_putf, zs_gets, zs_alen, zs_iald, zs_cald, zs_lald, zs_aald, zs_iast, zs_cast, zs_last, zs_invstatic, zs_invvirtual, zs_invspecial, zs_ireturn, zs_lreturn, zs_areturn, zs_return, zs_tsw, zs_lsw, zr_zva0, zr_zvas, zr_zvai0, zr_zvais, zr_zvi0, zr_zvis, zr_zvii0, zr_zviis, zr_zvl0, zr_zvls, zr_zvli0, zr_zvlis, zr_zs1_0, zr_zs1_1n, zr_zs1_1i, zr_zs1_1a, zr_zs1_1l, zr_zs1_s, zr_zs2_0, zr_zs2_1n, zr_zs2_1i, zr_zs2_1a, zr_zs2_1l, zr_zs2_s, zr_f0, zr_f1, zr_f2, zr_f3, zr_kp, zr_k0, zr_k1, zr_km1, zr_km2, zr_km4, zr_km8, zr_km16, zr_tp, zr_tn, zr_kl, zr_ki, zr_kil, zr_kii, zr_ov, zr_is, zr_cn, zr_cfi, zr_cfl, zr_cfr, zr_cfo, zr_isi, zr_isl, zr_isc, zr_isr, zr_isn0, zr_isn1, zr_isn2, zr_iso, zr_reti, zr_ctm, zr_cat0, zr_cati, zr_cata, zr_catl, zr_cs0, zr_cs1, zr_cs2, zr_cs3, zr_cs4, zr_cs5, zr_cs6, Nat.reduceLeDiff, Option.toList_none, Option.toList_some, List.nil_append, List.cons_append, Nat.le_refl, true_and, Nat.reduceAdd, Nat.reduceSub, Nat.reduceMul, Nat.reduceEqDiff, if_true, if_false, ite_true, ite_false, reduceIte, List.getElem?_cons_zero, List.getElem?_cons_succ, zk_selfL hi, zk_self hi]
      simp only [zi_cl (t := t) (by omega), hdt, lN_mul, lN_add, zl_mask (a := dg 4294967296 v t * f + c) (by omega), zl_hi (a := dg 4294967296 v t * f + c) (by omega), LD_upd, nI_add, List.set_set]
      refine ⟨fun q => ?_, fun _ => ⟨hin, hin, ?_⟩⟩
      · rw [zi_le (by omega) (by omega)] at q; omega
      refine hV.2.1 _ _ _ _ _ (ih (t + 1) ((dg 4294967296 v t * f + c) / 4294967296) _ (by omega) (by omega) (nm_dlt (by decide) hd) (fun x hx => ?_) ?_) (by simp only [zle, and_self])
      · rw [ud_ne (by omega)]; exact hd2 x (by omega)
      · rw [nm_digit]
        show _ = (pv _ _ t + dg 4294967296 v t * _) * f + a
        rw [Nat.add_mul, Nat.add_mul, Nat.mul_right_comm (dg 4294967296 v t) f]
        omega
  refine hV.1 0 _ _ _ ?_
  simp -implicitDefEqProofs only [d_R_multiplyAdd_0, d_R_multiplyAdd_6, d_R_multiplyAdd_47, t_R_multiplyAdd_0, t_R_multiplyAdd_6, t_R_multiplyAdd_47, kk_R_21, zs_aload_n, zs_aload, zs_iload_n, zs_iload, zs_lload_n, zs_lload, zs_istore_n, zs_istore, zs_lstore_n, zs_lstore, zs_astore_n, zs_astore, zs_iinc, zs_iconst, zs_bipush, zs_sipush, zs_lconst0, zs_lconst1, zs_ldc2_w, zs_ldc_w, zs_iadd, zs_isub, zs_imul, zs_iand, zs_ior, zs_ixor, zs_ishl, zs_ishr, zs_iushr, zs_idiv, zs_irem, zs_ineg, zs_ladd, zs_lsub, zs_lmul, zs_land, zs_lor, zs_lxor, zs_ldiv, zs_lrem, zs_lcmp, zs_lshl, zs_lshr, zs_lushr, zs_i2l, zs_l2i, zs_i2c, zs_dup_i, zs_pop_i, zs_dup_a, zs_pop_a, zs_dup2, zs_pop2, zs_nop, zs_goto, zs_if_eq, zs_icmp_eq, zs_if_ne, zs_icmp_ne, zs_if_lt, zs_icmp_lt, zs_if_ge, zs_icmp_ge, zs_if_gt, zs_icmp_gt, zs_if_le, zs_icmp_le, zs_getf, zs_putf, zs_gets, zs_alen, zs_iald, zs_cald, zs_lald, zs_aald, zs_iast, zs_cast, zs_last, zs_invstatic, zs_invvirtual, zs_invspecial, zs_ireturn, zs_lreturn, zs_areturn, zs_return, zs_tsw, zs_lsw, zr_zva0, zr_zvas, zr_zvai0, zr_zvais, zr_zvi0, zr_zvis, zr_zvii0, zr_zviis, zr_zvl0, zr_zvls, zr_zvli0, zr_zvlis, zr_zs1_0, zr_zs1_1n, zr_zs1_1i, zr_zs1_1a, zr_zs1_1l, zr_zs1_s, zr_zs2_0, zr_zs2_1n, zr_zs2_1i, zr_zs2_1a, zr_zs2_1l, zr_zs2_s, zr_f0, zr_f1, zr_f2, zr_f3, zr_kp, zr_k0, zr_k1, zr_km1, zr_km2, zr_km4, zr_km8, zr_km16, zr_tp, zr_tn, zr_kl, zr_ki, zr_kil, zr_kii, zr_ov, zr_is, zr_cn, zr_cfi, zr_cfl, zr_cfr, zr_cfo, zr_isi, zr_isl, zr_isc, zr_isr, zr_isn0, zr_isn1, zr_isn2, zr_iso, zr_reti, zr_ctm, zr_cat0, zr_cati, zr_cata, zr_catl, zr_cs0, zr_cs1, zr_cs2, zr_cs3, zr_cs4, zr_cs5, zr_cs6, Nat.reduceLeDiff, Option.toList_none, Option.toList_some, List.nil_append, List.cons_append, Nat.le_refl, true_and, Nat.reduceAdd, Nat.reduceSub, Nat.reduceMul, Nat.reduceEqDiff, if_true, if_false, ite_true, ite_false, reduceIte, List.getElem?_cons_zero, List.getElem?_cons_succ]
  have h0 := loop n 0 a (dg 4294967296 v) rfl ha (fun x hx => absurd hx (by omega)) (fun x _ => rfl) (by simp [pv])
  rw [zk_same hi] at h0
  exact h0
def sp_R_divideByTen : zSpec := fun vs σ K => ∃ (i n v : Nat), vs = [.ref i] ∧ σ[i]? = some (LR n v) ∧ n < 1000 ∧ v < 4294967296 ^ n ∧ K (some (.int (nI (v % 10)))) (σ.set i (LR n (v / 10)))
theorem nm_ten {v m : Nat} : dg 4294967296 (v / 10) m = (v / 4294967296 ^ (m + 1) % 10 * 4294967296 + dg 4294967296 v m) / 10 ∧ v / 4294967296 ^ m % 10 = (v / 4294967296 ^ (m + 1) % 10 * 4294967296 + dg 4294967296 v m) % 10 := by
  have e1 : v / 4294967296 ^ (m + 1) = v / 4294967296 ^ m / 4294967296 := by rw [Nat.pow_succ, Nat.div_div_eq_div_mul]
  unfold dg
  rw [e1, Nat.div_div_eq_div_mul, Nat.mul_comm 10, ← Nat.div_div_eq_div_mul]
  generalize v / 4294967296 ^ m = x
  omega
theorem mx_down (t : Nat) (d e : Nat → Nat) : ud (mx (t + 1) d e) t (e t) = mx t d e := by
  funext j
  unfold ud mx
  by_cases h : j = t
  · rw [if_pos h, if_neg (by omega), h]
  · rw [if_neg h]
    by_cases h2 : j < t
    · rw [if_pos (by omega), if_pos h2]
    · rw [if_neg (by omega), if_neg h2]
def ct_R_divideByTen : List (Nat × Nat × zSpec) := []
set_option maxRecDepth 100000 in
theorem co_R_divideByTen : ∀ q ∈ ct_R_divideByTen, zCok "WideWordStack$Row" r_R_divideByTen q := by
  intro q hq
  unfold ct_R_divideByTen at hq
  cases hq
set_option maxHeartbeats 4000000 in
set_option maxRecDepth 100000 in
theorem zm_R_divideByTen : ∀ l vs σ K, sp_R_divideByTen vs σ K → zMet l y_R_divideByTen c_R_divideByTen 6 (some .int) r_R_divideByTen vs σ K := by
  rintro l vs σ K ⟨i, n, v, rfl, hi, hn, hv, h⟩
  refine zmet_of (own := "WideWordStack$Row") (f := f_R) (kk := kk_R) (t := ct_R_divideByTen) (g := g_R) (cd := d_R_divideByTen) (by decide +kernel) rfl fo_R ko_R go_R co_R_divideByTen k_R_divideByTen (Nat.le_of_ble_eq_true rfl) ?_
  intro V hV
  show V 0 [some _, none, none, none, none, none] [] _
  have loop : ∀ (m : Nat), m ≤ n → V 7 [some (.ref i), some (.long (lN (v / 4294967296 ^ m % 10))), none, some (.int (nI m - nI 1)), none, none] [] (σ.set i (LD n (mx m (dg 4294967296 v) (dg 4294967296 (v / 10))))) := by
    intro m
    induction m with
    | zero =>
      intro _
      refine hV.1 7 _ _ _ ?_
      simp -implicitDefEqProofs only [d_R_divideByTen_0, d_R_divideByTen_7, d_R_divideByTen_43, t_R_divideByTen_0, t_R_divideByTen_7, t_R_divideByTen_43, kk_R_64, zs_aload_n, zs_aload, zs_iload_n, zs_iload, zs_lload_n, zs_lload, zs_istore_n, zs_istore, zs_lstore_n, zs_lstore, zs_astore_n, zs_astore, zs_iinc, zs_iconst, zs_bipush, zs_sipush, zs_lconst0, zs_lconst1, zs_ldc2_w, zs_ldc_w, zs_iadd, zs_isub, zs_imul, zs_iand, zs_ior, zs_ixor, zs_ishl, zs_ishr, zs_iushr, zs_idiv, zs_irem, zs_ineg, zs_ladd, zs_lsub, zs_lmul, zs_land, zs_lor, zs_lxor, zs_ldiv, zs_lrem, zs_lcmp, zs_lshl, zs_lshr, zs_lushr, zs_i2l, zs_l2i, zs_i2c, zs_dup_i, zs_pop_i, zs_dup_a, zs_pop_a, zs_dup2, zs_pop2, zs_nop, zs_goto, zs_if_eq, zs_icmp_eq, zs_if_ne, zs_icmp_ne, zs_if_lt, zs_icmp_lt, zs_if_ge, zs_icmp_ge, zs_if_gt, zs_icmp_gt, zs_if_le, zs_icmp_le, zs_getf, zs_putf, zs_gets, zs_alen, zs_iald, zs_cald, zs_lald, zs_aald, zs_iast, zs_cast, zs_last, zs_invstatic, zs_invvirtual, zs_invspecial, zs_ireturn, zs_lreturn, zs_areturn, zs_return, zs_tsw, zs_lsw, zr_zva0, zr_zvas, zr_zvai0, zr_zvais, zr_zvi0, zr_zvis, zr_zvii0, zr_zviis, zr_zvl0, zr_zvls, zr_zvli0, zr_zvlis, zr_zs1_0, zr_zs1_1n, zr_zs1_1i, zr_zs1_1a, zr_zs1_1l, zr_zs1_s, zr_zs2_0, zr_zs2_1n, zr_zs2_1i, zr_zs2_1a, zr_zs2_1l, zr_zs2_s, zr_f0, zr_f1, zr_f2, zr_f3, zr_kp, zr_k0, zr_k1, zr_km1, zr_km2, zr_km4, zr_km8, zr_km16, zr_tp, zr_tn, zr_kl, zr_ki, zr_kil, zr_kii, zr_ov, zr_is, zr_cn, zr_cfi, zr_cfl, zr_cfr, zr_cfo, zr_isi, zr_isl, zr_isc, zr_isr, zr_isn0, zr_isn1, zr_isn2, zr_iso, zr_reti, zr_ctm, zr_cat0, zr_cati, zr_cata, zr_catl, zr_cs0, zr_cs1, zr_cs2, zr_cs3, zr_cs4, zr_cs5, zr_cs6, Nat.reduceLeDiff, Option.toList_none, Option.toList_some, List.nil_append, List.cons_append, Nat.le_refl, true_and, Nat.reduceAdd, Nat.reduceSub, Nat.reduceMul, Nat.reduceEqDiff, if_true, if_false, ite_true, ite_false, reduceIte, List.getElem?_cons_zero, List.getElem?_cons_succ]
      refine ⟨fun _ => ?_, fun q => absurd zi_neg0 q⟩
      rw [mx_0]
      refine hV.1 43 _ _ _ ?_
      simp -implicitDefEqProofs only [d_R_divideByTen_0, d_R_divideByTen_7, d_R_divideByTen_43, t_R_divideByTen_0, t_R_divideByTen_7, t_R_divideByTen_43, kk_R_64, zs_aload_n, zs_aload, zs_iload_n, zs_iload, zs_lload_n, zs_lload, zs_istore_n, zs_istore, zs_lstore_n, zs_lstore, zs_astore_n, zs_astore, zs_iinc, zs_iconst, zs_bipush, zs_sipush, zs_lconst0, zs_lconst1, zs_ldc2_w, zs_ldc_w, zs_iadd, zs_isub, zs_imul, zs_iand, zs_ior, zs_ixor, zs_ishl, zs_ishr, zs_iushr, zs_idiv, zs_irem, zs_ineg, zs_ladd, zs_lsub, zs_lmul, zs_land, zs_lor, zs_lxor, zs_ldiv, zs_lrem, zs_lcmp, zs_lshl, zs_lshr, zs_lushr, zs_i2l, zs_l2i, zs_i2c, zs_dup_i, zs_pop_i, zs_dup_a, zs_pop_a, zs_dup2, zs_pop2, zs_nop, zs_goto, zs_if_eq, zs_icmp_eq, zs_if_ne, zs_icmp_ne, zs_if_lt, zs_icmp_lt, zs_if_ge, zs_icmp_ge, zs_if_gt, zs_icmp_gt, zs_if_le, zs_icmp_le, zs_getf, zs_putf, zs_gets, zs_alen, zs_iald, zs_cald, zs_lald, zs_aald, zs_iast, zs_cast, zs_last, zs_invstatic, zs_invvirtual, zs_invspecial, zs_ireturn, zs_lreturn, zs_areturn, zs_return, zs_tsw, zs_lsw, zr_zva0, zr_zvas, zr_zvai0, zr_zvais, zr_zvi0, zr_zvis, zr_zvii0, zr_zviis, zr_zvl0, zr_zvls, zr_zvli0, zr_zvlis, zr_zs1_0, zr_zs1_1n, zr_zs1_1i, zr_zs1_1a, zr_zs1_1l, zr_zs1_s, zr_zs2_0, zr_zs2_1n, zr_zs2_1i, zr_zs2_1a, zr_zs2_1l, zr_zs2_s, zr_f0, zr_f1, zr_f2, zr_f3, zr_kp, zr_k0, zr_k1, zr_km1, zr_km2, zr_km4, zr_km8, zr_km16, zr_tp, zr_tn, zr_kl, zr_ki, zr_kil, zr_kii, zr_ov, zr_is, zr_cn, zr_cfi, zr_cfl, zr_cfr, zr_cfo, zr_isi, zr_isl, zr_isc, zr_isr, zr_isn0, zr_isn1, zr_isn2, zr_iso, zr_reti, zr_ctm, zr_cat0, zr_cati, zr_cata, zr_catl, zr_cs0, zr_cs1, zr_cs2, zr_cs3, zr_cs4, zr_cs5, zr_cs6, Nat.reduceLeDiff, Option.toList_none, Option.toList_some, List.nil_append, List.cons_append, Nat.le_refl, true_and, Nat.reduceAdd, Nat.reduceSub, Nat.reduceMul, Nat.reduceEqDiff, if_true, if_false, ite_true, ite_false, reduceIte, List.getElem?_cons_zero, List.getElem?_cons_succ]
      rw [lN_i, Nat.pow_zero, Nat.div_one]
      exact zk0 h
    | succ m ih =>
      intro hm
      rw [zi_m1]
      have h1 := dg_lt (b := 4294967296) (by decide) v m
      have hin : vp_in (nI m) n := zi_in (by omega) (by omega)
      have hx : mx (m + 1) (dg 4294967296 v) (dg 4294967296 (v / 10)) m = dg 4294967296 v m := if_pos (by omega)
      obtain ⟨t1, t2⟩ := nm_ten (v := v) (m := m)
      refine hV.1 7 _ _ _ ?_
      simp -implicitDefEqProofs only [d_R_divideByTen_0, d_R_divideByTen_7, d_R_divideByTen_43, t_R_divideByTen_0, t_R_divideByTen_7, t_R_divideByTen_43, kk_R_64, zs_aload_n, zs_aload, zs_iload_n, zs_iload, zs_lload_n, zs_lload, zs_istore_n, zs_istore, zs_lstore_n, zs_lstore, zs_astore_n, zs_astore, zs_iinc, zs_iconst, zs_bipush, zs_sipush, zs_lconst0, zs_lconst1, zs_ldc2_w, zs_ldc_w, zs_iadd, zs_isub, zs_imul, zs_iand, zs_ior, zs_ixor, zs_ishl, zs_ishr, zs_iushr, zs_idiv, zs_irem, zs_ineg, zs_ladd, zs_lsub, zs_lmul, zs_land, zs_lor, zs_lxor, zs_ldiv, zs_lrem, zs_lcmp, zs_lshl, zs_lshr, zs_lushr, zs_i2l, zs_l2i, zs_i2c, zs_dup_i, zs_pop_i, zs_dup_a, zs_pop_a, zs_dup2, zs_pop2, zs_nop, zs_goto, zs_if_eq, zs_icmp_eq, zs_if_ne, zs_icmp_ne, zs_if_lt, zs_icmp_lt, zs_if_ge, zs_icmp_ge, zs_if_gt, zs_icmp_gt, zs_if_le, zs_icmp_le, zs_getf, zs_putf, zs_gets, zs_alen, zs_iald, zs_cald, zs_lald, zs_aald, zs_iast, zs_cast, zs_last, zs_invstatic, zs_invvirtual, zs_invspecial, zs_ireturn, zs_lreturn, zs_areturn, zs_return, zs_tsw, zs_lsw, zr_zva0, zr_zvas, zr_zvai0, zr_zvais, zr_zvi0, zr_zvis, zr_zvii0, zr_zviis, zr_zvl0, zr_zvls, zr_zvli0, zr_zvlis, zr_zs1_0, zr_zs1_1n, zr_zs1_1i, zr_zs1_1a, zr_zs1_1l, zr_zs1_s, zr_zs2_0, zr_zs2_1n, zr_zs2_1i, zr_zs2_1a, zr_zs2_1l, zr_zs2_s, zr_f0, zr_f1, zr_f2, zr_f3, zr_kp, zr_k0, zr_k1, zr_km1, zr_km2, zr_km4, zr_km8, zr_km16, zr_tp, zr_tn, zr_kl, zr_ki, zr_kil, zr_kii, zr_ov, zr_is, zr_cn, zr_cfi, zr_cfl, zr_cfr, zr_cfo, zr_isi, zr_isl, zr_isc, zr_isr, zr_isn0, zr_isn1, zr_isn2, zr_iso, zr_reti, zr_ctm, zr_cat0, zr_cati, zr_cata, zr_catl, zr_cs0, zr_cs1, zr_cs2, zr_cs3, zr_cs4, zr_cs5, zr_cs6, Nat.reduceLeDiff, Option.toList_none, Option.toList_some, List.nil_append, List.cons_append, Nat.le_refl, true_and, Nat.reduceAdd, Nat.reduceSub, Nat.reduceMul, Nat.reduceEqDiff, if_true, if_false, ite_true, ite_false, reduceIte, List.getElem?_cons_zero, List.getElem?_cons_succ, zk_selfL hi, zk_self hi]
      simp only [zi_cl (t := m) (by omega), hx, wb_shl _ (show 32 < 64 by decide), g_or (k := 32) (p := 2 ^ 32) (b := v / 4294967296 ^ (m + 1) % 10) rfl h1 (by omega)]
      rw [pk_lRem (a := v / 4294967296 ^ (m + 1) % 10 * 2 ^ 32 + dg 4294967296 v m) (b := 10) (by omega) (by decide) (by decide), pk_lDiv (a := v / 4294967296 ^ (m + 1) % 10 * 2 ^ 32 + dg 4294967296 v m) (b := 10) (by omega) (by decide) (by decide)]
      simp only [LD_upd, List.set_set, zi_pm]
      refine ⟨fun q => absurd q (zi_nn (by omega)), fun _ => ⟨hin, by decide, hin, by decide, ?_⟩⟩
      rw [show (v / 4294967296 ^ (m + 1) % 10 * 2 ^ 32 + dg 4294967296 v m) / 10 = dg 4294967296 (v / 10) m from t1.symm, show (v / 4294967296 ^ (m + 1) % 10 * 2 ^ 32 + dg 4294967296 v m) % 10 = v / 4294967296 ^ m % 10 from t2.symm, mx_down]
      exact hV.2.1 _ _ _ _ _ (ih (by omega)) (by simp only [zle, and_self])
  refine hV.1 0 _ _ _ ?_
  simp -implicitDefEqProofs only [d_R_divideByTen_0, d_R_divideByTen_7, d_R_divideByTen_43, t_R_divideByTen_0, t_R_divideByTen_7, t_R_divideByTen_43, kk_R_64, zs_aload_n, zs_aload, zs_iload_n, zs_iload, zs_lload_n, zs_lload, zs_istore_n, zs_istore, zs_lstore_n, zs_lstore, zs_astore_n, zs_astore, zs_iinc, zs_iconst, zs_bipush, zs_sipush, zs_lconst0, zs_lconst1, zs_ldc2_w, zs_ldc_w, zs_iadd, zs_isub, zs_imul, zs_iand, zs_ior, zs_ixor, zs_ishl, zs_ishr, zs_iushr, zs_idiv, zs_irem, zs_ineg, zs_ladd, zs_lsub, zs_lmul, zs_land, zs_lor, zs_lxor, zs_ldiv, zs_lrem, zs_lcmp, zs_lshl, zs_lshr, zs_lushr, zs_i2l, zs_l2i, zs_i2c, zs_dup_i, zs_pop_i, zs_dup_a, zs_pop_a, zs_dup2, zs_pop2, zs_nop, zs_goto, zs_if_eq, zs_icmp_eq, zs_if_ne, zs_icmp_ne, zs_if_lt, zs_icmp_lt, zs_if_ge, zs_icmp_ge, zs_if_gt, zs_icmp_gt, zs_if_le, zs_icmp_le, zs_getf, zs_putf, zs_gets, zs_alen, zs_iald, zs_cald, zs_lald, zs_aald, zs_iast, zs_cast, zs_last, zs_invstatic, zs_invvirtual, zs_invspecial, zs_ireturn, zs_lreturn, zs_areturn, zs_return, zs_tsw, zs_lsw, zr_zva0, zr_zvas, zr_zvai0, zr_zvais, zr_zvi0, zr_zvis, zr_zvii0, zr_zviis, zr_zvl0, zr_zvls, zr_zvli0, zr_zvlis, zr_zs1_0, zr_zs1_1n, zr_zs1_1i, zr_zs1_1a, zr_zs1_1l, zr_zs1_s, zr_zs2_0, zr_zs2_1n, zr_zs2_1i, zr_zs2_1a, zr_zs2_1l, zr_zs2_s, zr_f0, zr_f1, zr_f2, zr_f3, zr_kp, zr_k0, zr_k1, zr_km1, zr_km2, zr_km4, zr_km8, zr_km16, zr_tp, zr_tn, zr_kl, zr_ki, zr_kil, zr_kii, zr_ov, zr_is, zr_cn, zr_cfi, zr_cfl, zr_cfr, zr_cfo, zr_isi, zr_isl, zr_isc, zr_isr, zr_isn0, zr_isn1, zr_isn2, zr_iso, zr_reti, zr_ctm, zr_cat0, zr_cati, zr_cata, zr_catl, zr_cs0, zr_cs1, zr_cs2, zr_cs3, zr_cs4, zr_cs5, zr_cs6, Nat.reduceLeDiff, Option.toList_none, Option.toList_some, List.nil_append, List.cons_append, Nat.le_refl, true_and, Nat.reduceAdd, Nat.reduceSub, Nat.reduceMul, Nat.reduceEqDiff, if_true, if_false, ite_true, ite_false, reduceIte, List.getElem?_cons_zero, List.getElem?_cons_succ, zk_in hi]
  have h0 := loop n (Nat.le_refl _)
  rw [Nat.div_eq_of_lt hv] at h0
  have h1 := hV.2.2 7 _ _ σ i (LR n v) _ h0 (LD_sim (fun j hj => (if_pos hj).symm))
  rw [zk_same hi] at h1
  exact h1
