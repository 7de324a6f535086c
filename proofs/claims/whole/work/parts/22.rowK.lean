/-! Row.setByte -/
theorem nb_set {d s x : Nat} (hd : d < 2 ^ 64) (hs : s + 8 ≤ 64) (hx : x < 256) : (d &&& (2 ^ 64 - (255 * 2 ^ s + 1))) ||| (x * 2 ^ s) = 2 ^ (s + 8) * (d / 2 ^ (s + 8)) + (2 ^ s * x + d % 2 ^ s) := by
  have hp : 0 < 2 ^ s := Nat.pow_pos (by decide)
  have hlo : d % 2 ^ s < 2 ^ s := Nat.mod_lt _ hp
  have h8 : 2 ^ (s + 8) = 2 ^ s * 256 := by rw [Nat.pow_add]
  have hmid : 2 ^ s * x + d % 2 ^ s < 2 ^ (s + 8) := by
    rw [h8]
    have : 2 ^ s * (x + 1) ≤ 2 ^ s * 256 := Nat.mul_le_mul_left _ hx
    rw [Nat.mul_add, Nat.mul_one] at this
    omega
  have h64 : 255 * 2 ^ s < 2 ^ 64 := by
    have : 2 ^ (s + 8) ≤ 2 ^ 64 := Nat.pow_le_pow_right (by decide) hs
    rw [h8] at this
    omega
  apply Nat.eq_of_testBit_eq
  intro i
  rw [Nat.testBit_or, Nat.testBit_and, Nat.testBit_two_pow_mul_add _ hmid, Nat.testBit_two_pow_mul_add _ hlo, Nat.testBit_two_pow_sub_succ h64, Nat.mul_comm 255, Nat.mul_comm x, Nat.testBit_two_pow_mul, Nat.testBit_two_pow_mul, show (255 : Nat) = 2 ^ 8 - 1 from rfl, Nat.testBit_two_pow_sub_one, Nat.testBit_div_two_pow, Nat.testBit_mod_two_pow]
  by_cases h1 : i < s
  · have h2 : ¬ i ≥ s := by omega
    have h3 : i < s + 8 := by omega
    have h4 : i < 64 := by omega
    simp [h1, h2, h3, h4]
  · have h2 : i ≥ s := by omega
    by_cases h3 : i < s + 8
    · have h4 : i - s < 8 := by omega
      simp [h1, h2, h3, h4]
    · have h4 : ¬ i - s < 8 := by omega
      have h5 : i - (s + 8) + (s + 8) = i := by omega
      have h6 : x.testBit (i - s) = false := Nat.testBit_lt_two_pow (Nat.lt_of_lt_of_le hx (by have := Nat.pow_le_pow_right (n := 2) (by decide) (show 8 ≤ i - s by omega); simpa using this))
      have h7 : i < 64 ∨ d.testBit i = false := by
        by_cases h : i < 64
        · exact Or.inl h
        · exact Or.inr (Nat.testBit_lt_two_pow (Nat.lt_of_lt_of_le hd (Nat.pow_le_pow_right (by decide) (by omega))))
      rcases h7 with h7 | h7 <;> simp [h2, h3, h4, h5, h6, h7]
theorem nb_not {a : Nat} (h : a < 2 ^ 64) : a ^^^ 18446744073709551615 = 2 ^ 64 - (a + 1) := by
  apply Nat.eq_of_testBit_eq
  intro i
  rw [Nat.testBit_xor, Nat.testBit_two_pow_sub_succ h, show (18446744073709551615 : Nat) = 2 ^ 64 - 1 from rfl, Nat.testBit_two_pow_sub_one]
  by_cases hi : i < 64
  · simp [hi]
  · have : a.testBit i = false := Nat.testBit_lt_two_pow (Nat.lt_of_lt_of_le h (Nat.pow_le_pow_right (by decide) (by omega)))
    simp [hi, this]
theorem zl_setb {d r x : Nat} (hd : d < 4294967296) (hr : r < 4) (hx : x < 256) : ∃ d', (lN d &&& (lN 255 <<< ((nI (8 * r)).toInt64 &&& 63) ^^^ -(lN 1))) ||| (lN x <<< ((nI (8 * r)).toInt64 &&& 63)) = lN d' ∧ d' < 4294967296 ∧ d' + d / 256 ^ r % 256 * 256 ^ r = d + x * 256 ^ r := by
  have hp : (2 : Nat) ^ (8 * r) = 256 ^ r := by rw [Nat.pow_mul]
  have hq : 256 ^ r * 256 ≤ 4294967296 := by
    have : (256 : Nat) ^ (r + 1) ≤ 256 ^ 4 := Nat.pow_le_pow_right (by decide) (by omega)
    rw [Nat.pow_succ] at this
    exact this
  have hp0 : 0 < 256 ^ r := Nat.pow_pos (by decide)
  have b1 : 255 * 2 ^ (8 * r) < 2 ^ 64 := by rw [hp]; omega
  have b2 : x * 2 ^ (8 * r) < 2 ^ 64 := by
    rw [hp]
    have : x * 256 ^ r ≤ 255 * 256 ^ r := Nat.mul_le_mul_right _ (by omega)
    omega
  have e0 : -(lN 1) = lN 18446744073709551615 := by decide
  have b3 : d &&& (2 ^ 64 - (255 * 2 ^ (8 * r) + 1)) ≤ d := Nat.and_le_left
  have key := nb_set (d := d) (s := 8 * r) (x := x) (by omega) (by omega) hx
  refine ⟨2 ^ (8 * r + 8) * (d / 2 ^ (8 * r + 8)) + (2 ^ (8 * r) * x + d % 2 ^ (8 * r)), ?_, ?_, ?_⟩
  · rw [wb_shl _ (by omega), wb_shl _ (by omega), e0, lN_xor, nb_not b1, wb_and (by omega) (by omega), wb_or (by omega) b2, key]
  · rw [Nat.pow_add, hp, show (2 : Nat) ^ 8 = 256 from rfl]
    have h1 : d / (256 ^ r * 256) < 4294967296 / (256 ^ r * 256) := by
      have e : 4294967296 = (256 ^ r * 256) * (4294967296 / (256 ^ r * 256)) := by
        rcases (show r = 0 ∨ r = 1 ∨ r = 2 ∨ r = 3 by omega) with rfl | rfl | rfl | rfl <;> decide
      refine Nat.div_lt_of_lt_mul ?_
      omega
    have h2 : (256 ^ r * 256) * (d / (256 ^ r * 256) + 1) ≤ 4294967296 := by
      refine Nat.le_trans (Nat.mul_le_mul_left _ h1) (Nat.mul_div_le _ _)
    have h3 : 256 ^ r * (x + 1) ≤ 256 ^ r * 256 := Nat.mul_le_mul_left _ hx
    have h4 : d % 256 ^ r < 256 ^ r := Nat.mod_lt _ hp0
    rw [Nat.mul_add, Nat.mul_one] at h2 h3
    omega
  · rw [Nat.pow_add, hp, show (2 : Nat) ^ 8 = 256 from rfl]
    have h1 := Nat.div_add_mod d (256 ^ r)
    have h2 := Nat.div_add_mod (d / 256 ^ r) 256
    rw [← Nat.div_div_eq_div_mul]
    have h3 : 256 ^ r * 256 * (d / 256 ^ r / 256) = 256 ^ r * (256 * (d / 256 ^ r / 256)) := by rw [Nat.mul_assoc]
    have h4 : 256 ^ r * (256 * (d / 256 ^ r / 256) + d / 256 ^ r % 256) = 256 ^ r * (256 * (d / 256 ^ r / 256)) + 256 ^ r * (d / 256 ^ r % 256) := Nat.mul_add _ _ _
    rw [h2] at h4
    rw [Nat.mul_comm x, Nat.mul_comm (d / 256 ^ r % 256), h3]
    omega
theorem sd_add {b n v k x : Nat} (hv : v < b ^ n) (hk : k < n) : sd b n v k x + dg b v k * b ^ k = v + x * b ^ k := by
  unfold sd
  rw [pv_udadd hk, pv_dg, Nat.mod_eq_of_lt hv]
def sp_R_setByte : zSpec := fun vs σ K => ∃ (i v p x : Nat), vs = [.ref i, .int (nI p), .long (lN x)] ∧ σ[i]? = some (LR 8 v) ∧ v < 4294967296 ^ 8 ∧ p < 32 ∧ x < 256 ∧ K none (σ.set i (LR 8 (sd 256 32 v p x)))
def ct_R_setByte : List (Nat × Nat × zSpec) := []
set_option maxRecDepth 100000 in
theorem co_R_setByte : ∀ q ∈ ct_R_setByte, zCok "WideWordStack$Row" r_R_setByte q := by
  intro q hq
  unfold ct_R_setByte at hq
  cases hq
set_option maxHeartbeats 4000000 in
set_option maxRecDepth 100000 in
theorem zm_R_setByte : ∀ l vs σ K, sp_R_setByte vs σ K → zMet l y_R_setByte c_R_setByte 6 none r_R_setByte vs σ K := by
  rintro l vs σ K ⟨i, v, p, x, rfl, hi, hv, hp, hx, h⟩
  refine zmet_of (own := "WideWordStack$Row") (f := f_R) (kk := kk_R) (t := ct_R_setByte) (g := g_R) (cd := d_R_setByte) (by decide +kernel) rfl fo_R ko_R go_R co_R_setByte k_R_setByte (Nat.le_of_ble_eq_true rfl) ?_
  intro V hV
  show V 0 [some _, some _, some _, none, none, none] [] _
  refine hV.1 0 _ _ _ ?_
  simp -implicitDefEqProofs only [d_R_setByte_0, t_R_setByte_0, kk_R_31, kk_R_33, zs_aload_n, zs_aload, zs_iload_n, zs_iload, zs_lload_n, zs_lload, zs_istore_n, zs_istore, zs_lstore_n, zs_lstore, zs_astore_n, zs_astore, zs_iinc, zs_iconst, zs_bipush, zs_sipush, zs_lconst0, zs_lconst1, zs_ldc2_w, zs_ldc_w, zs_iadd, zs_isub, zs_imul, zs_iand, zs_ior, zs_ixor, zs_ishl, zs_ishr, zs_iushr, zs_idiv, zs_irem, zs_ineg, zs_ladd, zs_lsub, zs_lmul, zs_land, zs_lor, zs_lxor, zs_ldiv, zs_lrem, zs_lcmp, zs_lshl, zs_lshr, zs_lushr, zs_i2l, zs_l2i, zs_i2c, zs_dup_i, zs_pop_i, zs_dup_a, zs_pop_a, zs_dup2, zs_pop2, zs_nop, zs_goto, zs_if_eq, zs_icmp_eq, zs_if_ne, zs_icmp_ne, zs_if_lt, zs_icmp_lt, zs_if_ge, zs_icmp_ge, zs_if_gt, zs_icmp_gt, zs_if_le, zs_icmp_le, zs_getf, zs_putf, zs_gets, zs_alen, zs_iald, zs_cald, zs_lald, zs_aald, zs_iast, zs_cast, zs_last, zs_invstatic, zs_invvirtual, zs_invspecial, zs_ireturn, zs_lreturn, zs_areturn, zs_return, zs_tsw, zs_lsw, zr_zva0, zr_zvas, zr_zvai0, zr_zvais, zr_zvi0, zr_zvis, zr_zvii0, zr_zviis, zr_zvl0, zr_zvls, zr_zvli0, zr_zvlis, zr_zs1_0, zr_zs1_1n, zr_zs1_1i, zr_zs1_1a, zr_zs1_1l, zr_zs1_s, zr_zs2_0, zr_zs2_1n, zr_zs2_1i, zr_zs2_1a, zr_zs2_1l, zr_zs2_s, zr_f0, zr_f1, zr_f2, zr_f3, zr_kp, zr_k0, zr_k1, zr_km1, zr_km2, zr_km4, zr_km8, zr_km16, zr_tp, zr_tn, zr_kl, zr_ki, zr_kil, zr_kii, zr_ov, zr_is, zr_cn, zr_cfi, zr_cfl, zr_cfr, zr_cfo, zr_isi, zr_isl, zr_isc, zr_isr, zr_isn0, zr_isn1, zr_isn2, zr_iso, zr_reti, zr_ctm, zr_cat0, zr_cati, zr_cata, zr_catl, zr_cs0, zr_cs1, zr_cs2, zr_cs3, zr_cs4, zr_cs5, zr_cs6, Nat.reduceLeDiff, Option.toList_none, Option.toList_some, List.nil_append, List.cons_append, Nat.le_refl, true_and, Nat.reduceAdd, Nat.reduceSub, Nat.reduceMul, Nat.reduceEqDiff, if_true, if_false, ite_true, ite_false, reduceIte, List.getElem?_cons_zero, List.getElem?_cons_succ, hi, zk_in hi]
  have hd := dg_lt (b := 4294967296) (by decide) v (p / 4)
  obtain ⟨d', e1, e2, e3⟩ := zl_setb (d := dg 4294967296 v (p / 4)) (r := p % 4) (x := x) hd (by omega) hx
  rw [zi_rem (by omega) (by decide) (by decide), zi_div (by omega) (by decide) (by decide), zi_mul, zi_cl (by omega), e1, LD_upd]
  have hin : vp_in (nI (p / 4)) 8 := zi_in (by omega) (by decide)
  refine ⟨by decide, by decide, hin, hin, zk1 (LD_sim (fun j hj => ?_)) h⟩
  have hdlt : ∀ z, z < 8 → ud (dg 4294967296 v) (p / 4) d' z < 4294967296 := fun z _ => by
    by_cases hz : z = p / 4
    · rw [hz, ud_self]; exact e2
    · rw [ud_ne hz]; exact dg_lt (by decide) _ _
  have hnum : sd 256 32 v p x = pv 4294967296 (ud (dg 4294967296 v) (p / 4) d') 8 := by
    have a1 := sd_add (b := 256) (n := 32) (v := v) (k := p) (x := x) (by rw [show (256 : Nat) ^ 32 = 4294967296 ^ 8 by decide]; exact hv) hp
    have a2 := pv_udadd (b := 4294967296) (d := dg 4294967296 v) (k := p / 4) (x := d') (n := 8) (by omega)
    rw [pv_dg, Nat.mod_eq_of_lt hv] at a2
    have a3 := dg_pick (b := 256) (m := 4) (v := v) (q := p / 4) (r := p % 4) (by omega)
    rw [show 4 * (p / 4) + p % 4 = p by omega, show (256 : Nat) ^ 4 = 4294967296 from rfl] at a3
    rw [a3] at e3
    have a4 : (256 : Nat) ^ p = 256 ^ (p % 4) * 4294967296 ^ (p / 4) := by
      rw [show (4294967296 : Nat) = 256 ^ 4 from rfl, ← Nat.pow_mul, ← Nat.pow_add]; congr 1; omega
    have a5 : (d' + dg 256 v p * 256 ^ (p % 4)) * 4294967296 ^ (p / 4) = (dg 4294967296 v (p / 4) + x * 256 ^ (p % 4)) * 4294967296 ^ (p / 4) := by rw [e3]
    rw [Nat.add_mul, Nat.add_mul, Nat.mul_assoc, Nat.mul_assoc, ← a4] at a5
    omega
  rw [hnum, dg_pv (by decide) hdlt hj]
