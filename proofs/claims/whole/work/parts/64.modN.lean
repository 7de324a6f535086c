/-! the reference: push, limb -/
def w4 (a b c d : Nat) : Nat := ((a * 2 ^ 64 + b) * 2 ^ 64 + c) * 2 ^ 64 + d
def sp_M_push : zSpec := fun vs σ K => ∃ (a b c d : Nat) (P : List va_E) (dep : Nat) (st tm : Nat → Nat) (len thr : Nat) (ro : Nat → Nat) (neg : Bool) (υ : List va_E), P.length = 27 ∧ vs = [.ref 27, .long (lN a), .long (lN b), .long (lN c), .long (lN d)] ∧ σ = mS P dep st tm len thr ro neg υ ∧ dep ≤ 12 ∧ a < 2 ^ 64 ∧ b < 2 ^ 64 ∧ c < 2 ^ 64 ∧ d < 2 ^ 64 ∧
  (dep = 12 → K (some (.int (nI 0))) (mS P dep st tm len 1 ro neg υ)) ∧
  (dep ≠ 12 → ∀ ro', K (some (.int (nI (dep + 1)))) (mS P (dep + 1) (ud st dep (w4 a b c d)) tm len 0 ro' neg υ))
theorem sr_M_push : ∀ vs σ K, sp_M_push vs σ K → ∃ a fs r, vs = .ref a :: r ∧ σ[a]? = some (.inr (5, fs)) := by
  rintro vs σ K ⟨a, b, c, d, P, dep, st, tm, len, thr, ro, neg, υ, hP, rfl, rfl, -⟩
  exact sr_M hP _
def pushd (a b c d t j : Nat) : Nat := if j < 32 ∧ j % 8 < t then dg 256 (if j < 8 then d else if j < 16 then c else if j < 24 then b else a) (j % 8) else 0
def ct_M_push : List (Nat × Nat × zSpec) := [(175, 2, sp_M_fails), (70, 2, sp_M_clearRow), (190, 3, sp_M_top)]
set_option maxRecDepth 100000 in
theorem co_M_push : ∀ q ∈ ct_M_push, zCok "WideWordStackModel" r_M_push q := by
  intro q hq
  unfold ct_M_push at hq
  simp only [List.mem_cons, List.not_mem_nil, or_false] at hq
  rcases hq with rfl | rfl | rfl
  · exact Or.inr ⟨58, y_M_fails, c_M_fails, 2, (some .int), r_M_fails, ⟨rfl, rfl, by decide, by decide⟩, zm_M_fails, Or.inr ⟨rfl, 1, 5, rfl, l_M_58, sr_M_fails, _, _, rfl⟩⟩
  · exact Or.inr ⟨23, y_M_clearRow, c_M_clearRow, 3, none, r_M_clearRow, ⟨rfl, rfl, by decide, by decide⟩, zm_M_clearRow, Or.inr ⟨rfl, 1, 5, rfl, l_M_23, sr_M_clearRow, _, _, rfl⟩⟩
  · exact Or.inr ⟨63, y_M_top, c_M_top, 5, none, r_M_top, ⟨rfl, rfl, by decide, by decide⟩, zm_M_top, Or.inr ⟨rfl, 2, 5, rfl, l_M_63, sr_M_top, _, _, rfl⟩⟩
set_option maxHeartbeats 4000000 in
set_option maxRecDepth 100000 in
theorem zm_M_push : ∀ l vs σ K, sp_M_push vs σ K → zMet l y_M_push c_M_push 10 (some .int) r_M_push vs σ K := by
  rintro l vs σ K ⟨a, b, c, d, P, dep, st, tm, len, thr, ro, neg, υ, hP, rfl, rfl, hd, ha, hb, hc, hd', h1, h2⟩
  refine zmet_of (own := "WideWordStackModel") (f := f_M) (kk := kk_M) (t := ct_M_push) (g := g_M) (cd := d_M_push) (by decide +kernel) rfl fo_M ko_M go_M co_M_push k_M_push (Nat.le_of_ble_eq_true rfl) ?_
  intro V hV
  show V 0 [some _, some _, none, some _, none, some _, none, some _, none, none] [] _
  have loop : dep ≠ 12 → ∀ m t : Nat, m + t = 8 → V 30 [some (.ref 27), some (.long (lN a)), none, some (.long (lN b)), none, some (.long (lN c)), none, some (.long (lN d)), none, some (.int (nI t))] [] ((mS P dep st tm len 0 ro neg υ).set 30 (ID 490 (rdf ro 3 (pushd a b c d t)))) := by
    intro hd12 m
    induction m with
    | zero =>
      intro t hm
      have ht : t = 8 := by omega
      subst ht
      refine hV.1 30 _ _ _ ?_
      simp -implicitDefEqProofs only [d_M_push_0, d_M_push_20, d_M_push_30, d_M_push_137, t_M_push_0, t_M_push_20, t_M_push_30, t_M_push_137, f_M_19, f_M_27, ct_M_push, f_M_16, kk_M_61, zs_aload_n, zs_aload, zs_iload_n, zs_iload, zs_lload_n, zs_lload, zs_istore_n, zs_istore, zs_lstore_n, zs_lstore, zs_astore_n, zs_astore, zs_iinc, zs_iconst, zs_bipush, zs_sipush, zs_lconst0, zs_lconst1, zs_ldc2_w, zs_ldc_w, zs_iadd, zs_isub, zs_imul, zs_iand, zs_ior, zs_ixor, zs_ishl, zs_ishr, zs_iushr, zs_idiv, zs_irem, zs_ineg, zs_ladd, zs_lsub, zs_lmul, zs_land, zs_lor, zs_lxor, zs_ldiv, zs_lrem, zs_lcmp, zs_lshl, zs_lshr, zs_lushr, zs_i2l, zs_l2i, zs_i2c, zs_dup_i, zs_pop_i, zs_dup_a, zs_pop_a, zs_dup2, zs_pop2, zs_nop, zs_goto, zs_if_eq, zs_icmp_eq, zs_if_ne, zs_icmp_ne, zs_if_lt, zs_icmp_lt, zs_if_ge, zs_icmp_ge, zs_if_gt, zs_icmp_gt, zs_if_le, zs_icmp_le, zs_getf, zs_putf, zs_gets, zs_alen, zs_iald, zs_cald, zs_lald, zs_aald, zs_iast, zs_cast, zs_last, zs_invstatic, zs_invvirtual, zs_invspecial, zs_ireturn, zs_lreturn, zs_areturn, zs_return, zs_tsw, zs_lsw, zr_zva0, zr_zvas, zr_zvai0, zr_zvais, zr_zvi0, zr_zvis, zr_zvii0, zr_zviis, zr_zvl0, zr_zvls, zr_zvli0, zr_zvlis, zr_zs1_0, zr_zs1_1n, zr_zs1_1i, zr_zs1_1a, zr_zs1_1l, zr_zs1_s, zr_zs2_0, zr_zs2_1n, zr_zs2_1i, zr_zs2_1a, zr_zs2_1l, zr_zs2_s, zr_f0, zr_f1, zr_f2, zr_f3, zr_kp, zr_k0, zr_k1, zr_km1, zr_km2, zr_km4, zr_km8, zr_km16, zr_tp, zr_tn, zr_kl, zr_ki, zr_kil, zr_kii, zr_ov, zr_is, zr_cn, zr_cfi, zr_cfl, zr_cfr, zr_cfo, zr_isi, zr_isl, zr_isc, zr_isr, zr_isn0, zr_isn1, zr_isn2, zr_iso, zr_reti, zr_ctm, zr_cat0, zr_cati, zr_cata, zr_catl, zr_cs0, zr_cs1, zr_cs2, zr_cs3, zr_cs4, zr_cs5, zr_cs6, Nat.reduceLeDiff, Option.toList_none, Option.toList_some, List.nil_append, List.cons_append, Nat.le_refl, true_and, Nat.reduceAdd, Nat.reduceSub, Nat.reduceMul, Nat.reduceEqDiff, if_true, if_false, ite_true, ite_false, reduceIte, List.getElem?_cons_zero, List.getElem?_cons_succ, mS_g27 hP, mS_g28 hP, mS_g29 hP, mS_g30 hP, mS_s27 hP, mS_s28 hP, mS_s29 hP, mS_s30 hP, mR_g27 hP, mR_g28 hP, mR_g30 hP, mK_g27 hP, mK_g28 hP, mK_g30 hP, List.set_set, bI_t, bI_f, bI_eq0, bI_eq, zr_n10, zr_n01, eq_self, decide_eq_true_eq, Decidable.not_not, Classical.not_not, false_implies, true_implies, implies_true, and_true, true_and, not_true_eq_false, not_false_eq_true, zr_fitb, zr_fiti, zty_1_1, zty_2_1, zty_4_1, zty_5_1, zty_5_3, zty_5_4, zty_5_6, List.length_cons, List.length_nil, Nat.reduceLT, List.set_cons_zero, List.set_cons_succ, zr_retb]
      refine ⟨fun _ => ?_, fun q => absurd (Int32.le_refl _) q⟩
      sorry
    | succ m ih =>
      intro t hm
      refine hV.1 30 _ _ _ ?_
      simp -implicitDefEqProofs only [d_M_push_0, d_M_push_20, d_M_push_30, d_M_push_137, t_M_push_0, t_M_push_20, t_M_push_30, t_M_push_137, f_M_19, f_M_27, ct_M_push, f_M_16, kk_M_61, zs_aload_n, zs_aload, zs_iload_n, zs_iload, zs_lload_n, zs_lload, zs_istore_n, zs_istore, zs_lstore_n, zs_lstore, zs_astore_n, zs_astore, zs_iinc, zs_iconst, zs_bipush, zs_sipush, zs_lconst0, zs_lconst1, zs_ldc2_w, zs_ldc_w, zs_iadd, zs_isub, zs_imul, zs_iand, zs_ior, zs_ixor, zs_ishl, zs_ishr, zs_iushr, zs_idiv, zs_irem, zs_ineg, zs_ladd, zs_lsub, zs_lmul, zs_land, zs_lor, zs_lxor, zs_ldiv, zs_lrem, zs_lcmp, zs_lshl, zs_lshr, zs_lushr, zs_i2l, zs_l2i, zs_i2c, zs_dup_i, zs_pop_i, zs_dup_a, zs_pop_a, zs_dup2, zs_pop2, zs_nop, zs_goto, zs_if_eq, zs_icmp_eq, zs_if_ne, zs_icmp_ne, zs_if_lt, zs_icmp_lt, zs_if_ge, zs_icmp_ge, zs_if_gt, zs_icmp_gt, zs_if_le, zs_icmp_le, zs_getf, zs_putf, zs_gets, zs_alen, zs_iald, zs_cald, zs_lald, zs_aald, zs_iast, zs_cast, zs_last, zs_invstatic, zs_invvirtual, zs_invspecial, zs_ireturn, zs_lreturn, zs_areturn, zs_return, zs_tsw, zs_lsw, zr_zva0, zr_zvas, zr_zvai0, zr_zvais, zr_zvi0, zr_zvis, zr_zvii0, zr_zviis, zr_zvl0, zr_zvls, zr_zvli0, zr_zvlis, zr_zs1_0, zr_zs1_1n, zr_zs1_1i, zr_zs1_1a, zr_zs1_1l, zr_zs1_s, zr_zs2_0, zr_zs2_1n, zr_zs2_1i, zr_zs2_1a, zr_zs2_1l, zr_zs2_s, zr_f0, zr_f1, zr_f2, zr_f3, zr_kp, zr_k0, zr_k1, zr_km1, zr_km2, zr_km4, zr_km8, zr_km16, zr_tp, zr_tn, zr_kl, zr_ki, zr_kil, zr_kii, zr_ov, zr_is, zr_cn, zr_cfi, zr_cfl, zr_cfr, zr_cfo, zr_isi, zr_isl, zr_isc, zr_isr, zr_isn0, zr_isn1, zr_isn2, zr_iso, zr_reti, zr_ctm, zr_cat0, zr_cati, zr_cata, zr_catl, zr_cs0, zr_cs1, zr_cs2, zr_cs3, zr_cs4, zr_cs5, zr_cs6, Nat.reduceLeDiff, Option.toList_none, Option.toList_some, List.nil_append, List.cons_append, Nat.le_refl, true_and, Nat.reduceAdd, Nat.reduceSub, Nat.reduceMul, Nat.reduceEqDiff, if_true, if_false, ite_true, ite_false, reduceIte, List.getElem?_cons_zero, List.getElem?_cons_succ, mS_g27 hP, mS_g28 hP, mS_g29 hP, mS_g30 hP, mS_s27 hP, mS_s28 hP, mS_s29 hP, mS_s30 hP, mR_g27 hP, mR_g28 hP, mR_g30 hP, mK_g27 hP, mK_g28 hP, mK_g30 hP, List.set_set, bI_t, bI_f, bI_eq0, bI_eq, zr_n10, zr_n01, eq_self, decide_eq_true_eq, Decidable.not_not, Classical.not_not, false_implies, true_implies, implies_true, and_true, true_and, not_true_eq_false, not_false_eq_true, zr_fitb, zr_fiti, zty_1_1, zty_2_1, zty_4_1, zty_5_1, zty_5_3, zty_5_4, zty_5_6, List.length_cons, List.length_nil, Nat.reduceLT, List.set_cons_zero, List.set_cons_succ, zr_retb]
      trace_state
      sorry
  sorry
