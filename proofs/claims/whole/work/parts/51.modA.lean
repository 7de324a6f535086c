/-! the reference: its store, and rows of 70 bytes -/
abbrev ID (n : Nat) (d : Nat → Nat) : va_E := .inl (0, n, .inl (fun j => nI (d j)))
def rof (ro : Nat → Nat) : Nat → Nat := fun p => dg 256 (ro (p / 70)) (p % 70)
def rdf (ro : Nat → Nat) (k : Nat) (d : Nat → Nat) : Nat → Nat := fun p => if p / 70 = k then d (p % 70) else dg 256 (ro (p / 70)) (p % 70)
def skf (st : Nat → Nat) : Nat → Nat := fun p => dg 256 (st (p / 32)) (p % 32)
def sdf (st : Nat → Nat) (k : Nat) (d : Nat → Nat) : Nat → Nat := fun p => if p / 32 = k then d (p % 32) else dg 256 (st (p / 32)) (p % 32)
def mO (dep len thr : Nat) (neg : Bool) : va_E := .inr (5, [.ref 28, .int (nI dep), .ref 29, .int (nI len), .int (nI thr), .ref 30, .int (bI neg)])
def mS (P : List va_E) (dep : Nat) (st tm : Nat → Nat) (len thr : Nat) (ro : Nat → Nat) (neg : Bool) (υ : List va_E) : List va_E := P ++ (mO dep len thr neg :: ID 384 (skf st) :: ID 80 tm :: ID 490 (rof ro) :: υ)
theorem ID_sim {n : Nat} {d e : Nat → Nat} (h : ∀ j, j < n → d j = e j) : zsim (ID n d) (ID n e) := zsim_i (fun j hj => by rw [h j hj])
theorem rdf_at {ro : Nat → Nat} {k : Nat} {d : Nat → Nat} {a i : Nat} (hi : i < 70) : rdf ro k d (70 * a + i) = if a = k then d i else dg 256 (ro a) i := by
  unfold rdf
  rw [show (70 * a + i) / 70 = a by omega, show (70 * a + i) % 70 = i by omega]
theorem rof_at {ro : Nat → Nat} {a i : Nat} (hi : i < 70) : rof ro (70 * a + i) = dg 256 (ro a) i := by
  unfold rof
  rw [show (70 * a + i) / 70 = a by omega, show (70 * a + i) % 70 = i by omega]
theorem rdf_ud {ro : Nat → Nat} {k : Nat} {d : Nat → Nat} {i x : Nat} (hi : i < 70) : ud (rdf ro k d) (70 * k + i) x = rdf ro k (ud d i x) := by
  funext p
  unfold ud rdf
  by_cases h : p = 70 * k + i
  · rw [if_pos h, if_pos (by omega)]
    show x = if p % 70 = i then x else _
    rw [if_pos (by omega)]
  · rw [if_neg h]
    by_cases h2 : p / 70 = k
    · rw [if_pos h2, if_pos h2]
      show _ = if p % 70 = i then x else _
      rw [if_neg (by omega)]
    · rw [if_neg h2, if_neg h2]
theorem rdf_self (ro : Nat → Nat) (k : Nat) : rdf ro k (dg 256 (ro k)) = rof ro := by
  funext p
  unfold rdf rof
  by_cases h : p / 70 = k
  · rw [if_pos h, h]
  · rw [if_neg h]
theorem rdf_row {ro : Nat → Nat} {k v : Nat} {d : Nat → Nat} (h : ∀ j, j < 70 → d j = dg 256 v j) : ∀ p, p < 490 → rdf ro k d p = rof (ud ro k v) p := by
  intro p _
  unfold rdf rof
  by_cases h1 : p / 70 = k
  · rw [if_pos h1, h1, ud_self, h _ (by omega)]
  · rw [if_neg h1, ud_ne h1]
theorem ud_id (d : Nat → Nat) (k : Nat) : ud d k (d k) = d := by
  funext j
  unfold ud
  by_cases h : j = k
  · rw [if_pos h, h]
  · rw [if_neg h]
section MS
variable {P : List va_E} {dep : Nat} {st tm : Nat → Nat} {len thr : Nat} {ro : Nat → Nat} {neg : Bool} {υ : List va_E}
theorem mS_at (hP : P.length = 27) (k : Nat) : (mS P dep st tm len thr ro neg υ)[27 + k]? = (mO dep len thr neg :: ID 384 (skf st) :: ID 80 tm :: ID 490 (rof ro) :: υ)[k]? := by
  unfold mS
  rw [List.getElem?_append_right (by omega), hP, show 27 + k - 27 = k by omega]
theorem mS_set (hP : P.length = 27) (k : Nat) (q : va_E) : (mS P dep st tm len thr ro neg υ).set (27 + k) q = P ++ (mO dep len thr neg :: ID 384 (skf st) :: ID 80 tm :: ID 490 (rof ro) :: υ).set k q := by
  unfold mS
  rw [List.set_append_right _ _ (by omega), hP, show 27 + k - 27 = k by omega]
theorem mS_g27 (hP : P.length = 27) : (mS P dep st tm len thr ro neg υ)[27]? = some (.inr (5, [.ref 28, .int (nI dep), .ref 29, .int (nI len), .int (nI thr), .ref 30, .int (bI neg)])) := mS_at hP 0
theorem mS_g28 (hP : P.length = 27) : (mS P dep st tm len thr ro neg υ)[28]? = some (ID 384 (skf st)) := mS_at hP 1
theorem mS_g29 (hP : P.length = 27) : (mS P dep st tm len thr ro neg υ)[29]? = some (ID 80 tm) := mS_at hP 2
theorem mS_g30 (hP : P.length = 27) : (mS P dep st tm len thr ro neg υ)[30]? = some (ID 490 (rof ro)) := mS_at hP 3
theorem mS_s27 (hP : P.length = 27) {dep' len' thr' : Nat} {neg' : Bool} : (mS P dep st tm len thr ro neg υ).set 27 (.inr (5, [.ref 28, .int (nI dep'), .ref 29, .int (nI len'), .int (nI thr'), .ref 30, .int (bI neg')])) = mS P dep' st tm len' thr' ro neg' υ := mS_set hP 0 _
theorem mS_s28 (hP : P.length = 27) {st' : Nat → Nat} : (mS P dep st tm len thr ro neg υ).set 28 (ID 384 (skf st')) = mS P dep st' tm len thr ro neg υ := mS_set hP 1 _
theorem mS_s29 (hP : P.length = 27) {tm' : Nat → Nat} : (mS P dep st tm len thr ro neg υ).set 29 (ID 80 tm') = mS P dep st tm' len thr ro neg υ := mS_set hP 2 _
theorem mS_s30 (hP : P.length = 27) {ro' : Nat → Nat} : (mS P dep st tm len thr ro neg υ).set 30 (ID 490 (rof ro')) = mS P dep st tm len thr ro' neg υ := mS_set hP 3 _
theorem mR_g27 (hP : P.length = 27) {q : va_E} : ((mS P dep st tm len thr ro neg υ).set 30 q)[27]? = some (.inr (5, [.ref 28, .int (nI dep), .ref 29, .int (nI len), .int (nI thr), .ref 30, .int (bI neg)])) := by rw [zk_ne (by decide)]; exact mS_g27 hP
theorem mR_g28 (hP : P.length = 27) {q : va_E} : ((mS P dep st tm len thr ro neg υ).set 30 q)[28]? = some (ID 384 (skf st)) := by rw [zk_ne (by decide)]; exact mS_g28 hP
theorem mR_g30 (hP : P.length = 27) {q : va_E} : ((mS P dep st tm len thr ro neg υ).set 30 q)[30]? = some q := zk_self (mS_g30 hP)
theorem mK_g27 (hP : P.length = 27) {q : va_E} : ((mS P dep st tm len thr ro neg υ).set 28 q)[27]? = some (.inr (5, [.ref 28, .int (nI dep), .ref 29, .int (nI len), .int (nI thr), .ref 30, .int (bI neg)])) := by rw [zk_ne (by decide)]; exact mS_g27 hP
theorem mK_g30 (hP : P.length = 27) {q : va_E} : ((mS P dep st tm len thr ro neg υ).set 28 q)[30]? = some (ID 490 (rof ro)) := by rw [zk_ne (by decide)]; exact mS_g30 hP
theorem mK_g28 (hP : P.length = 27) {q : va_E} : ((mS P dep st tm len thr ro neg υ).set 28 q)[28]? = some q := zk_self (mS_g28 hP)
theorem mR_start (hP : P.length = 27) (k : Nat) : (mS P dep st tm len thr ro neg υ).set 30 (ID 490 (rdf ro k (dg 256 (ro k)))) = mS P dep st tm len thr ro neg υ := by
  show (mS P dep st tm len thr ro neg υ).set 30 (ID 490 (rdf ro k (dg 256 (ro k)))) = _
  rw [rdf_self, mS_s30 hP]
end MS
def sp_M_thrown : zSpec := fun vs σ K => ∃ (P : List va_E) (dep : Nat) (st tm : Nat → Nat) (len thr : Nat) (ro : Nat → Nat) (neg : Bool) (υ : List va_E), P.length = 27 ∧ vs = [.ref 27] ∧ σ = mS P dep st tm len thr ro neg υ ∧ K (some (.int (nI thr))) σ
theorem sr_M {dep : Nat} {P : List va_E} {st tm : Nat → Nat} {len thr : Nat} {ro : Nat → Nat} {neg : Bool} {υ : List va_E} (hP : P.length = 27) (r : List Value) : ∃ a fs r', Value.ref 27 :: r = .ref a :: r' ∧ (mS P dep st tm len thr ro neg υ)[a]? = some (.inr (5, fs)) := ⟨_, _, _, rfl, mS_g27 hP⟩
theorem sr_M_thrown : ∀ vs σ K, sp_M_thrown vs σ K → ∃ a fs r, vs = .ref a :: r ∧ σ[a]? = some (.inr (5, fs)) := by
  rintro vs σ K ⟨P, dep, st, tm, len, thr, ro, neg, υ, hP, rfl, rfl, -⟩
  exact sr_M hP _
def ct_M_thrown : List (Nat × Nat × zSpec) := []
set_option maxRecDepth 100000 in
theorem co_M_thrown : ∀ q ∈ ct_M_thrown, zCok "WideWordStackModel" r_M_thrown q := by
  intro q hq
  unfold ct_M_thrown at hq
  cases hq
set_option maxHeartbeats 4000000 in
set_option maxRecDepth 100000 in
theorem zm_M_thrown : ∀ l vs σ K, sp_M_thrown vs σ K → zMet l y_M_thrown c_M_thrown 1 (some .int) r_M_thrown vs σ K := by
  rintro l vs σ K ⟨P, dep, st, tm, len, thr, ro, neg, υ, hP, rfl, rfl, h⟩
  refine zmet_of (own := "WideWordStackModel") (f := f_M) (kk := kk_M) (t := ct_M_thrown) (g := g_M) (cd := d_M_thrown) (by decide +kernel) rfl fo_M ko_M go_M co_M_thrown k_M_thrown (Nat.le_of_ble_eq_true rfl) ?_
  intro V hV
  show V 0 [some _] [] _
  refine hV.1 0 _ _ _ ?_
  simp -implicitDefEqProofs only [d_M_thrown_0, t_M_thrown_0, f_M_19, zs_aload_n, zs_aload, zs_iload_n, zs_iload, zs_lload_n, zs_lload, zs_istore_n, zs_istore, zs_lstore_n, zs_lstore, zs_astore_n, zs_astore, zs_iinc, zs_iconst, zs_bipush, zs_sipush, zs_lconst0, zs_lconst1, zs_ldc2_w, zs_ldc_w, zs_iadd, zs_isub, zs_imul, zs_iand, zs_ior, zs_ixor, zs_ishl, zs_ishr, zs_iushr, zs_idiv, zs_irem, zs_ineg, zs_ladd, zs_lsub, zs_lmul, zs_land, zs_lor, zs_lxor, zs_ldiv, zs_lrem, zs_lcmp, zs_lshl, zs_lshr, zs_lushr, zs_i2l, zs_l2i, zs_i2c, zs_dup_i, zs_pop_i, zs_dup_a, zs_pop_a, zs_dup2, zs_pop2, zs_nop, zs_goto, zs_if_eq, zs_icmp_eq, zs_if_ne, zs_icmp_ne, zs_if_lt, zs_icmp_lt, zs_if_ge, zs_icmp_ge, zs_if_gt, zs_icmp_gt, zs_if_le, zs_icmp_le, zs_getf, zs_putf, zs_gets, zs_alen, zs_iald, zs_cald, zs_lald, zs_aald, zs_iast, zs_cast, zs_last, zs_invstatic, zs_invvirtual, zs_invspecial, zs_ireturn, zs_lreturn, zs_areturn, zs_return, zs_tsw, zs_lsw, zr_zva0, zr_zvas, zr_zvai0, zr_zvais, zr_zvi0, zr_zvis, zr_zvii0, zr_zviis, zr_zvl0, zr_zvls, zr_zvli0, zr_zvlis, zr_zs1_0, zr_zs1_1n, zr_zs1_1i, zr_zs1_1a, zr_zs1_1l, zr_zs1_s, zr_zs2_0, zr_zs2_1n, zr_zs2_1i, zr_zs2_1a, zr_zs2_1l, zr_zs2_s, zr_f0, zr_f1, zr_f2, zr_f3, zr_kp, zr_k0, zr_k1, zr_km1, zr_km2, zr_km4, zr_km8, zr_km16, zr_tp, zr_tn, zr_kl, zr_ki, zr_kil, zr_kii, zr_ov, zr_is, zr_cn, zr_cfi, zr_cfl, zr_cfr, zr_cfo, zr_isi, zr_isl, zr_isc, zr_isr, zr_isn0, zr_isn1, zr_isn2, zr_iso, zr_reti, zr_ctm, zr_cat0, zr_cati, zr_cata, zr_catl, zr_cs0, zr_cs1, zr_cs2, zr_cs3, zr_cs4, zr_cs5, zr_cs6, Nat.reduceLeDiff, Option.toList_none, Option.toList_some, List.nil_append, List.cons_append, Nat.le_refl, true_and, Nat.reduceAdd, Nat.reduceSub, Nat.reduceMul, Nat.reduceEqDiff, if_true, if_false, ite_true, ite_false, reduceIte, List.getElem?_cons_zero, List.getElem?_cons_succ, mS_g27 hP, mS_g28 hP, mS_g29 hP, mS_g30 hP, mS_s27 hP, mS_s28 hP, mS_s29 hP, mS_s30 hP, mR_g27 hP, mR_g28 hP, mR_g30 hP, mK_g27 hP, mK_g28 hP, mK_g30 hP, List.set_set, bI_t, bI_f, bI_eq0, bI_eq, zr_n10, zr_n01, eq_self, decide_eq_true_eq, Decidable.not_not, Classical.not_not, false_implies, true_implies, implies_true, and_true, true_and, not_true_eq_false, not_false_eq_true, zr_fitb, zr_fiti, zty_1_1, zty_2_1, zty_4_1, zty_5_1, zty_5_3, zty_5_4, zty_5_6, List.length_cons, List.length_nil, Nat.reduceLT, List.set_cons_zero, List.set_cons_succ, zr_retb]
  exact zk0 h
def sp_M_fails : zSpec := fun vs σ K => ∃ (c : Nat) (P : List va_E) (dep : Nat) (st tm : Nat → Nat) (len thr : Nat) (ro : Nat → Nat) (neg : Bool) (υ : List va_E), P.length = 27 ∧ vs = [.ref 27, .int (nI c)] ∧ σ = mS P dep st tm len thr ro neg υ ∧ K (some (.int (nI 0))) (mS P dep st tm len c ro neg υ)
theorem sr_M_fails : ∀ vs σ K, sp_M_fails vs σ K → ∃ a fs r, vs = .ref a :: r ∧ σ[a]? = some (.inr (5, fs)) := by
  rintro vs σ K ⟨c, P, dep, st, tm, len, thr, ro, neg, υ, hP, rfl, rfl, -⟩
  exact sr_M hP _
def ct_M_fails : List (Nat × Nat × zSpec) := []
set_option maxRecDepth 100000 in
theorem co_M_fails : ∀ q ∈ ct_M_fails, zCok "WideWordStackModel" r_M_fails q := by
  intro q hq
  unfold ct_M_fails at hq
  cases hq
set_option maxHeartbeats 4000000 in
set_option maxRecDepth 100000 in
theorem zm_M_fails : ∀ l vs σ K, sp_M_fails vs σ K → zMet l y_M_fails c_M_fails 2 (some .int) r_M_fails vs σ K := by
  rintro l vs σ K ⟨c, P, dep, st, tm, len, thr, ro, neg, υ, hP, rfl, rfl, h⟩
  refine zmet_of (own := "WideWordStackModel") (f := f_M) (kk := kk_M) (t := ct_M_fails) (g := g_M) (cd := d_M_fails) (by decide +kernel) rfl fo_M ko_M go_M co_M_fails k_M_fails (Nat.le_of_ble_eq_true rfl) ?_
  intro V hV
  show V 0 [some _, some _] [] _
  refine hV.1 0 _ _ _ ?_
  simp -implicitDefEqProofs only [d_M_fails_0, t_M_fails_0, f_M_19, zs_aload_n, zs_aload, zs_iload_n, zs_iload, zs_lload_n, zs_lload, zs_istore_n, zs_istore, zs_lstore_n, zs_lstore, zs_astore_n, zs_astore, zs_iinc, zs_iconst, zs_bipush, zs_sipush, zs_lconst0, zs_lconst1, zs_ldc2_w, zs_ldc_w, zs_iadd, zs_isub, zs_imul, zs_iand, zs_ior, zs_ixor, zs_ishl, zs_ishr, zs_iushr, zs_idiv, zs_irem, zs_ineg, zs_ladd, zs_lsub, zs_lmul, zs_land, zs_lor, zs_lxor, zs_ldiv, zs_lrem, zs_lcmp, zs_lshl, zs_lshr, zs_lushr, zs_i2l, zs_l2i, zs_i2c, zs_dup_i, zs_pop_i, zs_dup_a, zs_pop_a, zs_dup2, zs_pop2, zs_nop, zs_goto, zs_if_eq, zs_icmp_eq, zs_if_ne, zs_icmp_ne, zs_if_lt, zs_icmp_lt, zs_if_ge, zs_icmp_ge, zs_if_gt, zs_icmp_gt, zs_if_le, zs_icmp_le, zs_getf, zs_putf, zs_gets, zs_alen, zs_iald, zs_cald, zs_lald, zs_aald, zs_iast, zs_cast, zs_last, zs_invstatic, zs_invvirtual, zs_invspecial, zs_ireturn, zs_lreturn, zs_areturn, zs_return, zs_tsw, zs_lsw, zr_zva0, zr_zvas, zr_zvai0, zr_zvais, zr_zvi0, zr_zvis, zr_zvii0, zr_zviis, zr_zvl0, zr_zvls, zr_zvli0, zr_zvlis, zr_zs1_0, zr_zs1_1n, zr_zs1_1i, zr_zs1_1a, zr_zs1_1l, zr_zs1_s, zr_zs2_0, zr_zs2_1n, zr_zs2_1i, zr_zs2_1a, zr_zs2_1l, zr_zs2_s, zr_f0, zr_f1, zr_f2, zr_f3, zr_kp, zr_k0, zr_k1, zr_km1, zr_km2, zr_km4, zr_km8, zr_km16, zr_tp, zr_tn, zr_kl, zr_ki, zr_kil, zr_kii, zr_ov, zr_is, zr_cn, zr_cfi, zr_cfl, zr_cfr, zr_cfo, zr_isi, zr_isl, zr_isc, zr_isr, zr_isn0, zr_isn1, zr_isn2, zr_iso, zr_reti, zr_ctm, zr_cat0, zr_cati, zr_cata, zr_catl, zr_cs0, zr_cs1, zr_cs2, zr_cs3, zr_cs4, zr_cs5, zr_cs6, Nat.reduceLeDiff, Option.toList_none, Option.toList_some, List.nil_append, List.cons_append, Nat.le_refl, true_and, Nat.reduceAdd, Nat.reduceSub, Nat.reduceMul, Nat.reduceEqDiff, if_true, if_false, ite_true, ite_false, reduceIte, List.getElem?_cons_zero, List.getElem?_cons_succ, mS_g27 hP, mS_g28 hP, mS_g29 hP, mS_g30 hP, mS_s27 hP, mS_s28 hP, mS_s29 hP, mS_s30 hP, mR_g27 hP, mR_g28 hP, mR_g30 hP, mK_g27 hP, mK_g28 hP, mK_g30 hP, List.set_set, bI_t, bI_f, bI_eq0, bI_eq, zr_n10, zr_n01, eq_self, decide_eq_true_eq, Decidable.not_not, Classical.not_not, false_implies, true_implies, implies_true, and_true, true_and, not_true_eq_false, not_false_eq_true, zr_fitb, zr_fiti, zty_1_1, zty_2_1, zty_4_1, zty_5_1, zty_5_3, zty_5_4, zty_5_6, List.length_cons, List.length_nil, Nat.reduceLT, List.set_cons_zero, List.set_cons_succ, zr_retb]
  exact zk0 h
def sp_M_clearRow : zSpec := fun vs σ K => ∃ (k : Nat) (P : List va_E) (dep : Nat) (st tm : Nat → Nat) (len thr : Nat) (ro : Nat → Nat) (neg : Bool) (υ : List va_E), P.length = 27 ∧ vs = [.ref 27, .int (nI (70 * k))] ∧ σ = mS P dep st tm len thr ro neg υ ∧ k < 7 ∧ K none (mS P dep st tm len thr (ud ro k 0) neg υ)
theorem sr_M_clearRow : ∀ vs σ K, sp_M_clearRow vs σ K → ∃ a fs r, vs = .ref a :: r ∧ σ[a]? = some (.inr (5, fs)) := by
  rintro vs σ K ⟨k, P, dep, st, tm, len, thr, ro, neg, υ, hP, rfl, rfl, -⟩
  exact sr_M hP _
def ct_M_clearRow : List (Nat × Nat × zSpec) := []
set_option maxRecDepth 100000 in
theorem co_M_clearRow : ∀ q ∈ ct_M_clearRow, zCok "WideWordStackModel" r_M_clearRow q := by
  intro q hq
  unfold ct_M_clearRow at hq
  cases hq
set_option maxHeartbeats 4000000 in
set_option maxRecDepth 100000 in
theorem zm_M_clearRow : ∀ l vs σ K, sp_M_clearRow vs σ K → zMet l y_M_clearRow c_M_clearRow 3 none r_M_clearRow vs σ K := by
  rintro l vs σ K ⟨k, P, dep, st, tm, len, thr, ro, neg, υ, hP, rfl, rfl, hk, h⟩
  refine zmet_of (own := "WideWordStackModel") (f := f_M) (kk := kk_M) (t := ct_M_clearRow) (g := g_M) (cd := d_M_clearRow) (by decide +kernel) rfl fo_M ko_M go_M co_M_clearRow k_M_clearRow (Nat.le_of_ble_eq_true rfl) ?_
  intro V hV
  show V 0 [some _, some _, none] [] _
  have loop : ∀ (m t : Nat), m + t = 70 → V 2 [some (.ref 27), some (.int (nI (70 * k))), some (.int (nI t))] [] ((mS P dep st tm len thr ro neg υ).set 30 (ID 490 (rdf ro k (mx t (fun _ => 0) (dg 256 (ro k)))))) := by
    intro m
    induction m with
    | zero =>
      intro t hm
      have ht : t = 70 := by omega
      subst ht
      refine hV.1 2 _ _ _ ?_
      simp -implicitDefEqProofs only [d_M_clearRow_0, d_M_clearRow_2, d_M_clearRow_23, t_M_clearRow_0, t_M_clearRow_2, t_M_clearRow_23, f_M_16, zs_aload_n, zs_aload, zs_iload_n, zs_iload, zs_lload_n, zs_lload, zs_istore_n, zs_istore, zs_lstore_n, zs_lstore, zs_astore_n, zs_astore, zs_iinc, zs_iconst, zs_bipush, zs_sipush, zs_lconst0, zs_lconst1, zs_ldc2_w, zs_ldc_w, zs_iadd, zs_isub, zs_imul, zs_iand, zs_ior, zs_ixor, zs_ishl, zs_ishr, zs_iushr, zs_idiv, zs_irem, zs_ineg, zs_ladd, zs_lsub, zs_lmul, zs_land, zs_lor, zs_lxor, zs_ldiv, zs_lrem, zs_lcmp, zs_lshl, zs_lshr, zs_lushr, zs_i2l, zs_l2i, zs_i2c, zs_dup_i, zs_pop_i, zs_dup_a, zs_pop_a, zs_dup2, zs_pop2, zs_nop, zs_goto, zs_if_eq, zs_icmp_eq, zs_if_ne, zs_icmp_ne, zs_if_lt, zs_icmp_lt, zs_if_ge, zs_icmp_ge, zs_if_gt, zs_icmp_gt, zs_if_le, zs_icmp_le, zs_getf, zs_putf, zs_gets, zs_alen, zs_iald, zs_cald, zs_lald, zs_aald, zs_iast, zs_cast, zs_last, zs_invstatic, zs_invvirtual, zs_invspecial, zs_ireturn, zs_lreturn, zs_areturn, zs_return, zs_tsw, zs_lsw, zr_zva0, zr_zvas, zr_zvai0, zr_zvais, zr_zvi0, zr_zvis, zr_zvii0, zr_zviis, zr_zvl0, zr_zvls, zr_zvli0, zr_zvlis, zr_zs1_0, zr_zs1_1n, zr_zs1_1i, zr_zs1_1a, zr_zs1_1l, zr_zs1_s, zr_zs2_0, zr_zs2_1n, zr_zs2_1i, zr_zs2_1a, zr_zs2_1l, zr_zs2_s, zr_f0, zr_f1, zr_f2, zr_f3, zr_kp, zr_k0, zr_k1, zr_km1, zr_km2, zr_km4, zr_km8, zr_km16, zr_tp, zr_tn, zr_kl, zr_ki, zr_kil, zr_kii, zr_ov, zr_is, zr_cn, zr_cfi, zr_cfl, zr_cfr, zr_cfo, zr_isi, zr_isl, zr_isc, zr_isr, zr_isn0, zr_isn1, zr_isn2, zr_iso, zr_reti, zr_ctm, zr_cat0, zr_cati, zr_cata, zr_catl, zr_cs0, zr_cs1, zr_cs2, zr_cs3, zr_cs4, zr_cs5, zr_cs6, Nat.reduceLeDiff, Option.toList_none, Option.toList_some, List.nil_append, List.cons_append, Nat.le_refl, true_and, Nat.reduceAdd, Nat.reduceSub, Nat.reduceMul, Nat.reduceEqDiff, if_true, if_false, ite_true, ite_false, reduceIte, List.getElem?_cons_zero, List.getElem?_cons_succ, mS_g27 hP, mS_g28 hP, mS_g29 hP, mS_g30 hP, mS_s27 hP, mS_s28 hP, mS_s29 hP, mS_s30 hP, mR_g27 hP, mR_g28 hP, mR_g30 hP, mK_g27 hP, mK_g28 hP, mK_g30 hP, List.set_set, bI_t, bI_f, bI_eq0, bI_eq, zr_n10, zr_n01, eq_self, decide_eq_true_eq, Decidable.not_not, Classical.not_not, false_implies, true_implies, implies_true, and_true, true_and, not_true_eq_false, not_false_eq_true, zr_fitb, zr_fiti, zty_1_1, zty_2_1, zty_4_1, zty_5_1, zty_5_3, zty_5_4, zty_5_6, List.length_cons, List.length_nil, Nat.reduceLT, List.set_cons_zero, List.set_cons_succ, zr_retb]
      refine ⟨fun _ => ?_, fun q => absurd (Int32.le_refl _) q⟩
      refine hV.2.2 _ _ _ _ _ _ _ ?_ (ID_sim (rdf_row (v := 0) (fun j hj => by rw [show mx 70 (fun _ => 0) (dg 256 (ro k)) j = 0 from if_pos hj, dg_zero])))
      refine hV.1 23 _ _ _ ?_
      simp -implicitDefEqProofs only [d_M_clearRow_0, d_M_clearRow_2, d_M_clearRow_23, t_M_clearRow_0, t_M_clearRow_2, t_M_clearRow_23, f_M_16, zs_aload_n, zs_aload, zs_iload_n, zs_iload, zs_lload_n, zs_lload, zs_istore_n, zs_istore, zs_lstore_n, zs_lstore, zs_astore_n, zs_astore, zs_iinc, zs_iconst, zs_bipush, zs_sipush, zs_lconst0, zs_lconst1, zs_ldc2_w, zs_ldc_w, zs_iadd, zs_isub, zs_imul, zs_iand, zs_ior, zs_ixor, zs_ishl, zs_ishr, zs_iushr, zs_idiv, zs_irem, zs_ineg, zs_ladd, zs_lsub, zs_lmul, zs_land, zs_lor, zs_lxor, zs_ldiv, zs_lrem, zs_lcmp, zs_lshl, zs_lshr, zs_lushr, zs_i2l, zs_l2i, zs_i2c, zs_dup_i, zs_pop_i, zs_dup_a, zs_pop_a, zs_dup2, zs_pop2, zs_nop, zs_goto, zs_if_eq, zs_icmp_eq, zs_if_ne, zs_icmp_ne, zs_if_lt, zs_icmp_lt, zs_if_ge, zs_icmp_ge, zs_if_gt, zs_icmp_gt, zs_if_le, zs_icmp_le, zs_getf, zs_putf, zs_gets, zs_alen, zs_iald, zs_cald, zs_lald, zs_aald, zs_iast, zs_cast, zs_last, zs_invstatic, zs_invvirtual, zs_invspecial, zs_ireturn, zs_lreturn, zs_areturn, zs_return, zs_tsw, zs_lsw, zr_zva0, zr_zvas, zr_zvai0, zr_zvais, zr_zvi0, zr_zvis, zr_zvii0, zr_zviis, zr_zvl0, zr_zvls, zr_zvli0, zr_zvlis, zr_zs1_0, zr_zs1_1n, zr_zs1_1i, zr_zs1_1a, zr_zs1_1l, zr_zs1_s, zr_zs2_0, zr_zs2_1n, zr_zs2_1i, zr_zs2_1a, zr_zs2_1l, zr_zs2_s, zr_f0, zr_f1, zr_f2, zr_f3, zr_kp, zr_k0, zr_k1, zr_km1, zr_km2, zr_km4, zr_km8, zr_km16, zr_tp, zr_tn, zr_kl, zr_ki, zr_kil, zr_kii, zr_ov, zr_is, zr_cn, zr_cfi, zr_cfl, zr_cfr, zr_cfo, zr_isi, zr_isl, zr_isc, zr_isr, zr_isn0, zr_isn1, zr_isn2, zr_iso, zr_reti, zr_ctm, zr_cat0, zr_cati, zr_cata, zr_catl, zr_cs0, zr_cs1, zr_cs2, zr_cs3, zr_cs4, zr_cs5, zr_cs6, Nat.reduceLeDiff, Option.toList_none, Option.toList_some, List.nil_append, List.cons_append, Nat.le_refl, true_and, Nat.reduceAdd, Nat.reduceSub, Nat.reduceMul, Nat.reduceEqDiff, if_true, if_false, ite_true, ite_false, reduceIte, List.getElem?_cons_zero, List.getElem?_cons_succ, mS_g27 hP, mS_g28 hP, mS_g29 hP, mS_g30 hP, mS_s27 hP, mS_s28 hP, mS_s29 hP, mS_s30 hP, mR_g27 hP, mR_g28 hP, mR_g30 hP, mK_g27 hP, mK_g28 hP, mK_g30 hP, List.set_set, bI_t, bI_f, bI_eq0, bI_eq, zr_n10, zr_n01, eq_self, decide_eq_true_eq, Decidable.not_not, Classical.not_not, false_implies, true_implies, implies_true, and_true, true_and, not_true_eq_false, not_false_eq_true, zr_fitb, zr_fiti, zty_1_1, zty_2_1, zty_4_1, zty_5_1, zty_5_3, zty_5_4, zty_5_6, List.length_cons, List.length_nil, Nat.reduceLT, List.set_cons_zero, List.set_cons_succ, zr_retb]
      exact zk0 h
    | succ m ih =>
      intro t hm
      refine hV.1 2 _ _ _ ?_
      simp -implicitDefEqProofs only [d_M_clearRow_0, d_M_clearRow_2, d_M_clearRow_23, t_M_clearRow_0, t_M_clearRow_2, t_M_clearRow_23, f_M_16, zs_aload_n, zs_aload, zs_iload_n, zs_iload, zs_lload_n, zs_lload, zs_istore_n, zs_istore, zs_lstore_n, zs_lstore, zs_astore_n, zs_astore, zs_iinc, zs_iconst, zs_bipush, zs_sipush, zs_lconst0, zs_lconst1, zs_ldc2_w, zs_ldc_w, zs_iadd, zs_isub, zs_imul, zs_iand, zs_ior, zs_ixor, zs_ishl, zs_ishr, zs_iushr, zs_idiv, zs_irem, zs_ineg, zs_ladd, zs_lsub, zs_lmul, zs_land, zs_lor, zs_lxor, zs_ldiv, zs_lrem, zs_lcmp, zs_lshl, zs_lshr, zs_lushr, zs_i2l, zs_l2i, zs_i2c, zs_dup_i, zs_pop_i, zs_dup_a, zs_pop_a, zs_dup2, zs_pop2, zs_nop, zs_goto, zs_if_eq, zs_icmp_eq, zs_if_ne, zs_icmp_ne, zs_if_lt, zs_icmp_lt, zs_if_ge, zs_icmp_ge, zs_if_gt, zs_icmp_gt, zs_if_le, zs_icmp_le, zs_getf, zs_putf, zs_gets, zs_alen, zs_iald, zs_cald, zs_lald, zs_aald, zs_iast, zs_cast, zs_last, zs_invstatic, zs_invvirtual, zs_invspecial, zs_ireturn, zs_lreturn, zs_areturn, zs_return, zs_tsw, zs_lsw, zr_zva0, zr_zvas, zr_zvai0, zr_zvais, zr_zvi0, zr_zvis, zr_zvii0, zr_zviis, zr_zvl0, zr_zvls, zr_zvli0, zr_zvlis, zr_zs1_0, zr_zs1_1n, zr_zs1_1i, zr_zs1_1a, zr_zs1_1l, zr_zs1_s, zr_zs2_0, zr_zs2_1n, zr_zs2_1i, zr_zs2_1a, zr_zs2_1l, zr_zs2_s, zr_f0, zr_f1, zr_f2, zr_f3, zr_kp, zr_k0, zr_k1, zr_km1, zr_km2, zr_km4, zr_km8, zr_km16, zr_tp, zr_tn, zr_kl, zr_ki, zr_kil, zr_kii, zr_ov, zr_is, zr_cn, zr_cfi, zr_cfl, zr_cfr, zr_cfo, zr_isi, zr_isl, zr_isc, zr_isr, zr_isn0, zr_isn1, zr_isn2, zr_iso, zr_reti, zr_ctm, zr_cat0, zr_cati, zr_cata, zr_catl, zr_cs0, zr_cs1, zr_cs2, zr_cs3, zr_cs4, zr_cs5, zr_cs6, Nat.reduceLeDiff, Option.toList_none, Option.toList_some, List.nil_append, List.cons_append, Nat.le_refl, true_and, Nat.reduceAdd, Nat.reduceSub, Nat.reduceMul, Nat.reduceEqDiff, if_true, if_false, ite_true, ite_false, reduceIte, List.getElem?_cons_zero, List.getElem?_cons_succ, mS_g27 hP, mS_g28 hP, mS_g29 hP, mS_g30 hP, mS_s27 hP, mS_s28 hP, mS_s29 hP, mS_s30 hP, mR_g27 hP, mR_g28 hP, mR_g30 hP, mK_g27 hP, mK_g28 hP, mK_g30 hP, List.set_set, bI_t, bI_f, bI_eq0, bI_eq, zr_n10, zr_n01, eq_self, decide_eq_true_eq, Decidable.not_not, Classical.not_not, false_implies, true_implies, implies_true, and_true, true_and, not_true_eq_false, not_false_eq_true, zr_fitb, zr_fiti, zty_1_1, zty_2_1, zty_4_1, zty_5_1, zty_5_3, zty_5_4, zty_5_6, List.length_cons, List.length_nil, Nat.reduceLT, List.set_cons_zero, List.set_cons_succ, zr_retb]
      simp only [nI_add, zi_cl (t := 70 * k + t) (by omega), CD_upd, rdf_ud (show t < 70 by omega)]
      refine ⟨fun q => ?_, fun _ => ⟨zi_in (by omega) (by decide), ?_⟩⟩
      · rw [zi_le (by omega) (by omega)] at q; omega
      rw [show ud (mx t (fun _ => 0) (dg 256 (ro k))) t 0 = mx (t + 1) (fun _ => 0) (dg 256 (ro k)) from mx_step t (fun _ => 0) _]
      exact ih (t + 1) (by omega)
  refine hV.1 0 _ _ _ ?_
  simp -implicitDefEqProofs only [d_M_clearRow_0, d_M_clearRow_2, d_M_clearRow_23, t_M_clearRow_0, t_M_clearRow_2, t_M_clearRow_23, f_M_16, zs_aload_n, zs_aload, zs_iload_n, zs_iload, zs_lload_n, zs_lload, zs_istore_n, zs_istore, zs_lstore_n, zs_lstore, zs_astore_n, zs_astore, zs_iinc, zs_iconst, zs_bipush, zs_sipush, zs_lconst0, zs_lconst1, zs_ldc2_w, zs_ldc_w, zs_iadd, zs_isub, zs_imul, zs_iand, zs_ior, zs_ixor, zs_ishl, zs_ishr, zs_iushr, zs_idiv, zs_irem, zs_ineg, zs_ladd, zs_lsub, zs_lmul, zs_land, zs_lor, zs_lxor, zs_ldiv, zs_lrem, zs_lcmp, zs_lshl, zs_lshr, zs_lushr, zs_i2l, zs_l2i, zs_i2c, zs_dup_i, zs_pop_i, zs_dup_a, zs_pop_a, zs_dup2, zs_pop2, zs_nop, zs_goto, zs_if_eq, zs_icmp_eq, zs_if_ne, zs_icmp_ne, zs_if_lt, zs_icmp_lt, zs_if_ge, zs_icmp_ge, zs_if_gt, zs_icmp_gt, zs_if_le, zs_icmp_le, zs_getf, zs_putf, zs_gets, zs_alen, zs_iald, zs_cald, zs_lald, zs_aald, zs_iast, zs_cast, zs_last, zs_invstatic, zs_invvirtual, zs_invspecial, zs_ireturn, zs_lreturn, zs_areturn, zs_return, zs_tsw, zs_lsw, zr_zva0, zr_zvas, zr_zvai0, zr_zvais, zr_zvi0, zr_zvis, zr_zvii0, zr_zviis, zr_zvl0, zr_zvls, zr_zvli0, zr_zvlis, zr_zs1_0, zr_zs1_1n, zr_zs1_1i, zr_zs1_1a, zr_zs1_1l, zr_zs1_s, zr_zs2_0, zr_zs2_1n, zr_zs2_1i, zr_zs2_1a, zr_zs2_1l, zr_zs2_s, zr_f0, zr_f1, zr_f2, zr_f3, zr_kp, zr_k0, zr_k1, zr_km1, zr_km2, zr_km4, zr_km8, zr_km16, zr_tp, zr_tn, zr_kl, zr_ki, zr_kil, zr_kii, zr_ov, zr_is, zr_cn, zr_cfi, zr_cfl, zr_cfr, zr_cfo, zr_isi, zr_isl, zr_isc, zr_isr, zr_isn0, zr_isn1, zr_isn2, zr_iso, zr_reti, zr_ctm, zr_cat0, zr_cati, zr_cata, zr_catl, zr_cs0, zr_cs1, zr_cs2, zr_cs3, zr_cs4, zr_cs5, zr_cs6, Nat.reduceLeDiff, Option.toList_none, Option.toList_some, List.nil_append, List.cons_append, Nat.le_refl, true_and, Nat.reduceAdd, Nat.reduceSub, Nat.reduceMul, Nat.reduceEqDiff, if_true, if_false, ite_true, ite_false, reduceIte, List.getElem?_cons_zero, List.getElem?_cons_succ, mS_g27 hP, mS_g28 hP, mS_g29 hP, mS_g30 hP, mS_s27 hP, mS_s28 hP, mS_s29 hP, mS_s30 hP, mR_g27 hP, mR_g28 hP, mR_g30 hP, mK_g27 hP, mK_g28 hP, mK_g30 hP, List.set_set, bI_t, bI_f, bI_eq0, bI_eq, zr_n10, zr_n01, eq_self, decide_eq_true_eq, Decidable.not_not, Classical.not_not, false_implies, true_implies, implies_true, and_true, true_and, not_true_eq_false, not_false_eq_true, zr_fitb, zr_fiti, zty_1_1, zty_2_1, zty_4_1, zty_5_1, zty_5_3, zty_5_4, zty_5_6, List.length_cons, List.length_nil, Nat.reduceLT, List.set_cons_zero, List.set_cons_succ, zr_retb]
  have h0 := loop 70 0 rfl
  rw [mx_0, mR_start hP] at h0
  exact h0
