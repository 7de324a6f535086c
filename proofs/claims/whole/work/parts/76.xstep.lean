/-! Rules for a walk to a throw; the class's methods that refuse -/
theorem zr_cX {t : List (Nat × Nat × zSpec)} {tx : List (Nat × Nat × xSpec)} {KT : String → List va_E → Prop} {key : Nat} {st : List Value} {σ : List va_E} {K : List Value → List va_E → Prop} : zcX t tx KT key st σ K = (zct t key st σ K ∨ zctx tx KT key st σ) := rfl
theorem zr_ct0 {key : Nat} {st : List Value} {σ : List va_E} {K : List Value → List va_E → Prop} : zct [] key st σ K = False := rfl
theorem zr_cx0 {KT : String → List va_E → Prop} {key : Nat} {st : List Value} {σ : List va_E} : zctx [] KT key st σ = False := rfl
def zcxs (n : Nat) (S : xSpec) (KT : String → List va_E → Prop) (st : List Value) (σ : List va_E) : Prop := n ≤ st.length ∧ ((st.drop n).map fun v => v.category).sum ≤ 8 ∧ S (st.take n).reverse σ KT
theorem zr_cxm {q : Nat × Nat × xSpec} {tx : List (Nat × Nat × xSpec)} {KT : String → List va_E → Prop} {key : Nat} {st : List Value} {σ : List va_E} : zctx (q :: tx) KT key st σ = (if key = q.1 then zcxs q.2.1 q.2.2 KT st σ else zctx tx KT key st σ) := rfl
theorem zr_cxx1 {S : xSpec} {KT : String → List va_E → Prop} {v0 : Value} {st : List Value} {σ : List va_E} : zcxs 1 S KT (v0 :: st) σ = (zcat st ≤ 8 ∧ S [v0] σ KT) := by simp [zcxs, zcat]
theorem zr_cxx2 {S : xSpec} {KT : String → List va_E → Prop} {v0 v1 : Value} {st : List Value} {σ : List va_E} : zcxs 2 S KT (v0 :: v1 :: st) σ = (zcat st ≤ 8 ∧ S [v1, v0] σ KT) := by simp [zcxs, zcat]
theorem zr_cxx3 {S : xSpec} {KT : String → List va_E → Prop} {v0 v1 v2 : Value} {st : List Value} {σ : List va_E} : zcxs 3 S KT (v0 :: v1 :: v2 :: st) σ = (zcat st ≤ 8 ∧ S [v2, v1, v0] σ KT) := by simp [zcxs, zcat]
theorem zr_cxx4 {S : xSpec} {KT : String → List va_E → Prop} {v0 v1 v2 v3 : Value} {st : List Value} {σ : List va_E} : zcxs 4 S KT (v0 :: v1 :: v2 :: v3 :: st) σ = (zcat st ≤ 8 ∧ S [v3, v2, v1, v0] σ KT) := by simp [zcxs, zcat]
theorem zr_cxx5 {S : xSpec} {KT : String → List va_E → Prop} {v0 v1 v2 v3 v4 : Value} {st : List Value} {σ : List va_E} : zcxs 5 S KT (v0 :: v1 :: v2 :: v3 :: v4 :: st) σ = (zcat st ≤ 8 ∧ S [v4, v3, v2, v1, v0] σ KT) := by simp [zcxs, zcat]
def sp_S_refuseNoWord : zSpec := fun vs σ K => ∃ (x : Int32) (w : Nat → Nat) (n : Nat) (tx : Nat → Nat) (tl vx : Nat) (bx : Bool) (vy : Nat) (by_ : Bool) (vr : Nat) (br : Bool) (vs_ vp ve : Nat) (τ : List va_E), vs = [.ref 0, .int x] ∧ σ = cS w n tx tl vx bx vy by_ vr br vs_ vp ve τ ∧ (nI 0 ≤ x ∧ x < nI n) ∧ K none σ
theorem sr_S_refuseNoWord : ∀ vs σ K, sp_S_refuseNoWord vs σ K → ∃ a fs r, vs = .ref a :: r ∧ σ[a]? = some (.inr (4, fs)) := by
  rintro vs σ K ⟨x, w, n, tx, tl, vx, bx, vy, by_, vr, br, vs_, vp, ve, τ, rfl, rfl, -⟩
  exact ⟨_, _, _, rfl, rfl⟩
def ct_S_refuseNoWord : List (Nat × Nat × zSpec) := [(253, 2, sp_S_hasWord)]
set_option maxRecDepth 100000 in
theorem co_S_refuseNoWord : ∀ q ∈ ct_S_refuseNoWord, zCok "WideWordStack" r_S_refuseNoWord q := by
  intro q hq
  unfold ct_S_refuseNoWord at hq
  simp only [List.mem_cons, List.not_mem_nil, or_false] at hq
  rcases hq with rfl
  · exact Or.inr ⟨84, y_S_hasWord, c_S_hasWord, 2, (some .boolean), r_S_hasWord, ⟨rfl, rfl, by decide, by decide⟩, zm_S_hasWord, Or.inr ⟨rfl, 1, 4, rfl, l_S_84, sr_S_hasWord, _, _, rfl⟩⟩
set_option maxHeartbeats 4000000 in
set_option maxRecDepth 100000 in
theorem zm_S_refuseNoWord : ∀ l vs σ K, sp_S_refuseNoWord vs σ K → zMet l y_S_refuseNoWord c_S_refuseNoWord 2 none r_S_refuseNoWord vs σ K := by
  rintro l vs σ K ⟨x, w, n, tx, tl, vx, bx, vy, by_, vr, br, vs_, vp, ve, τ, rfl, rfl, hx, h⟩
  refine zmet_of (own := "WideWordStack") (f := f_S) (kk := kk_S) (t := ct_S_refuseNoWord) (g := g_S) (cd := d_S_refuseNoWord) (by decide +kernel) rfl fo_S ko_S go_S co_S_refuseNoWord k_S_refuseNoWord (Nat.le_of_ble_eq_true rfl) ?_
  intro V hV
  show V 0 [some _, some _] [] _
  refine hV.1 0 _ _ _ ?_
  simp -implicitDefEqProofs only [d_S_refuseNoWord_0, d_S_refuseNoWord_18, t_S_refuseNoWord_0, t_S_refuseNoWord_18, ct_S_refuseNoWord, zs_aload_n, zs_aload, zs_iload_n, zs_iload, zs_lload_n, zs_lload, zs_istore_n, zs_istore, zs_lstore_n, zs_lstore, zs_astore_n, zs_astore, zs_iinc, zs_iconst, zs_bipush, zs_sipush, zs_lconst0, zs_lconst1, zs_ldc2_w, zs_ldc_w, zs_iadd, zs_isub, zs_imul, zs_iand, zs_ior, zs_ixor, zs_ishl, zs_ishr, zs_iushr, zs_idiv, zs_irem, zs_ineg, zs_ladd, zs_lsub, zs_lmul, zs_land, zs_lor, zs_lxor, zs_ldiv, zs_lrem, zs_lcmp, zs_lshl, zs_lshr, zs_lushr, zs_i2l, zs_l2i, zs_i2c, zs_dup_i, zs_pop_i, zs_dup_a, zs_pop_a, zs_dup2, zs_pop2, zs_nop, zs_goto, zs_if_eq, zs_icmp_eq, zs_if_ne, zs_icmp_ne, zs_if_lt, zs_icmp_lt, zs_if_ge, zs_icmp_ge, zs_if_gt, zs_icmp_gt, zs_if_le, zs_icmp_le, zs_getf, zs_putf, zs_gets, zs_alen, zs_iald, zs_cald, zs_lald, zs_aald, zs_iast, zs_cast, zs_last, zs_invstatic, zs_invvirtual, zs_invspecial, zs_ireturn, zs_lreturn, zs_areturn, zs_return, zs_tsw, zs_lsw, zr_zva0, zr_zvas, zr_zvai0, zr_zvais, zr_zvi0, zr_zvis, zr_zvii0, zr_zviis, zr_zvl0, zr_zvls, zr_zvli0, zr_zvlis, zr_zs1_0, zr_zs1_1n, zr_zs1_1i, zr_zs1_1a, zr_zs1_1l, zr_zs1_s, zr_zs2_0, zr_zs2_1n, zr_zs2_1i, zr_zs2_1a, zr_zs2_1l, zr_zs2_s, zr_f0, zr_f1, zr_f2, zr_f3, zr_kp, zr_k0, zr_k1, zr_km1, zr_km2, zr_km4, zr_km8, zr_km16, zr_tp, zr_tn, zr_kl, zr_ki, zr_kil, zr_kii, zr_ov, zr_is, zr_cn, zr_cfi, zr_cfl, zr_cfr, zr_cfo, zr_isi, zr_isl, zr_isc, zr_isr, zr_isn0, zr_isn1, zr_isn2, zr_iso, zr_reti, zr_ctm, zr_cat0, zr_cati, zr_cata, zr_catl, zr_cs0, zr_cs1, zr_cs2, zr_cs3, zr_cs4, zr_cs5, zr_cs6, Nat.reduceLeDiff, Option.toList_none, Option.toList_some, List.nil_append, List.cons_append, Nat.le_refl, true_and, Nat.reduceAdd, Nat.reduceSub, Nat.reduceMul, Nat.reduceEqDiff, if_true, if_false, ite_true, ite_false, reduceIte, List.getElem?_cons_zero, List.getElem?_cons_succ, cS_g0, cS_g1, cS_g14, cS_g15, cS_g16, cS_g17, cS_g18, cS_g19, cS_g20, cS_g21, cS_g22, cS_g23, cS_g24, cS_g25, cS_g26, cS_s0, cS_s14, cS_s15, cS_s17, cS_s18, cS_s19, cS_s20, cS_s21, cS_s22, cS_s23, cS_s25, cS_s26, bI_t, bI_f, bI_eq0, bI_eq, zr_n10, zr_n01, eq_self, decide_eq_true_eq, Decidable.not_not, Classical.not_not, false_implies, true_implies, implies_true, and_true, true_and, not_true_eq_false, not_false_eq_true, zr_fitb, zr_fiti, zty_1_1, zty_2_1, zty_4_1, zty_5_1, zty_5_3, zty_5_4, zty_5_6, List.length_cons, List.length_nil, Nat.reduceLT, List.set_cons_zero, List.set_cons_succ, zr_retb]
  refine ⟨x, w, n, tx, tl, vx, bx, vy, by_, vr, br, vs_, vp, ve, τ, rfl, rfl, ?_⟩
  simp -implicitDefEqProofs only [d_S_refuseNoWord_0, d_S_refuseNoWord_18, t_S_refuseNoWord_0, t_S_refuseNoWord_18, ct_S_refuseNoWord, zs_aload_n, zs_aload, zs_iload_n, zs_iload, zs_lload_n, zs_lload, zs_istore_n, zs_istore, zs_lstore_n, zs_lstore, zs_astore_n, zs_astore, zs_iinc, zs_iconst, zs_bipush, zs_sipush, zs_lconst0, zs_lconst1, zs_ldc2_w, zs_ldc_w, zs_iadd, zs_isub, zs_imul, zs_iand, zs_ior, zs_ixor, zs_ishl, zs_ishr, zs_iushr, zs_idiv, zs_irem, zs_ineg, zs_ladd, zs_lsub, zs_lmul, zs_land, zs_lor, zs_lxor, zs_ldiv, zs_lrem, zs_lcmp, zs_lshl, zs_lshr, zs_lushr, zs_i2l, zs_l2i, zs_i2c, zs_dup_i, zs_pop_i, zs_dup_a, zs_pop_a, zs_dup2, zs_pop2, zs_nop, zs_goto, zs_if_eq, zs_icmp_eq, zs_if_ne, zs_icmp_ne, zs_if_lt, zs_icmp_lt, zs_if_ge, zs_icmp_ge, zs_if_gt, zs_icmp_gt, zs_if_le, zs_icmp_le, zs_getf, zs_putf, zs_gets, zs_alen, zs_iald, zs_cald, zs_lald, zs_aald, zs_iast, zs_cast, zs_last, zs_invstatic, zs_invvirtual, zs_invspecial, zs_ireturn, zs_lreturn, zs_areturn, zs_return, zs_tsw, zs_lsw, zr_zva0, zr_zvas, zr_zvai0, zr_zvais, zr_zvi0, zr_zvis, zr_zvii0, zr_zviis, zr_zvl0, zr_zvls, zr_zvli0, zr_zvlis, zr_zs1_0, zr_zs1_1n, zr_zs1_1i, zr_zs1_1a, zr_zs1_1l, zr_zs1_s, zr_zs2_0, zr_zs2_1n, zr_zs2_1i, zr_zs2_1a, zr_zs2_1l, zr_zs2_s, zr_f0, zr_f1, zr_f2, zr_f3, zr_kp, zr_k0, zr_k1, zr_km1, zr_km2, zr_km4, zr_km8, zr_km16, zr_tp, zr_tn, zr_kl, zr_ki, zr_kil, zr_kii, zr_ov, zr_is, zr_cn, zr_cfi, zr_cfl, zr_cfr, zr_cfo, zr_isi, zr_isl, zr_isc, zr_isr, zr_isn0, zr_isn1, zr_isn2, zr_iso, zr_reti, zr_ctm, zr_cat0, zr_cati, zr_cata, zr_catl, zr_cs0, zr_cs1, zr_cs2, zr_cs3, zr_cs4, zr_cs5, zr_cs6, Nat.reduceLeDiff, Option.toList_none, Option.toList_some, List.nil_append, List.cons_append, Nat.le_refl, true_and, Nat.reduceAdd, Nat.reduceSub, Nat.reduceMul, Nat.reduceEqDiff, if_true, if_false, ite_true, ite_false, reduceIte, List.getElem?_cons_zero, List.getElem?_cons_succ, cS_g0, cS_g1, cS_g14, cS_g15, cS_g16, cS_g17, cS_g18, cS_g19, cS_g20, cS_g21, cS_g22, cS_g23, cS_g24, cS_g25, cS_g26, cS_s0, cS_s14, cS_s15, cS_s17, cS_s18, cS_s19, cS_s20, cS_s21, cS_s22, cS_s23, cS_s25, cS_s26, bI_t, bI_f, bI_eq0, bI_eq, zr_n10, zr_n01, eq_self, decide_eq_true_eq, Decidable.not_not, Classical.not_not, false_implies, true_implies, implies_true, and_true, true_and, not_true_eq_false, not_false_eq_true, zr_fitb, zr_fiti, zty_1_1, zty_2_1, zty_4_1, zty_5_1, zty_5_3, zty_5_4, zty_5_6, List.length_cons, List.length_nil, Nat.reduceLT, List.set_cons_zero, List.set_cons_succ, zr_retb]
  refine ⟨fun _ => ?_, fun q => absurd hx q⟩
  refine hV.1 18 _ _ _ ?_
  simp -implicitDefEqProofs only [d_S_refuseNoWord_0, d_S_refuseNoWord_18, t_S_refuseNoWord_0, t_S_refuseNoWord_18, ct_S_refuseNoWord, zs_aload_n, zs_aload, zs_iload_n, zs_iload, zs_lload_n, zs_lload, zs_istore_n, zs_istore, zs_lstore_n, zs_lstore, zs_astore_n, zs_astore, zs_iinc, zs_iconst, zs_bipush, zs_sipush, zs_lconst0, zs_lconst1, zs_ldc2_w, zs_ldc_w, zs_iadd, zs_isub, zs_imul, zs_iand, zs_ior, zs_ixor, zs_ishl, zs_ishr, zs_iushr, zs_idiv, zs_irem, zs_ineg, zs_ladd, zs_lsub, zs_lmul, zs_land, zs_lor, zs_lxor, zs_ldiv, zs_lrem, zs_lcmp, zs_lshl, zs_lshr, zs_lushr, zs_i2l, zs_l2i, zs_i2c, zs_dup_i, zs_pop_i, zs_dup_a, zs_pop_a, zs_dup2, zs_pop2, zs_nop, zs_goto, zs_if_eq, zs_icmp_eq, zs_if_ne, zs_icmp_ne, zs_if_lt, zs_icmp_lt, zs_if_ge, zs_icmp_ge, zs_if_gt, zs_icmp_gt, zs_if_le, zs_icmp_le, zs_getf, zs_putf, zs_gets, zs_alen, zs_iald, zs_cald, zs_lald, zs_aald, zs_iast, zs_cast, zs_last, zs_invstatic, zs_invvirtual, zs_invspecial, zs_ireturn, zs_lreturn, zs_areturn, zs_return, zs_tsw, zs_lsw, zr_zva0, zr_zvas, zr_zvai0, zr_zvais, zr_zvi0, zr_zvis, zr_zvii0, zr_zviis, zr_zvl0, zr_zvls, zr_zvli0, zr_zvlis, zr_zs1_0, zr_zs1_1n, zr_zs1_1i, zr_zs1_1a, zr_zs1_1l, zr_zs1_s, zr_zs2_0, zr_zs2_1n, zr_zs2_1i, zr_zs2_1a, zr_zs2_1l, zr_zs2_s, zr_f0, zr_f1, zr_f2, zr_f3, zr_kp, zr_k0, zr_k1, zr_km1, zr_km2, zr_km4, zr_km8, zr_km16, zr_tp, zr_tn, zr_kl, zr_ki, zr_kil, zr_kii, zr_ov, zr_is, zr_cn, zr_cfi, zr_cfl, zr_cfr, zr_cfo, zr_isi, zr_isl, zr_isc, zr_isr, zr_isn0, zr_isn1, zr_isn2, zr_iso, zr_reti, zr_ctm, zr_cat0, zr_cati, zr_cata, zr_catl, zr_cs0, zr_cs1, zr_cs2, zr_cs3, zr_cs4, zr_cs5, zr_cs6, Nat.reduceLeDiff, Option.toList_none, Option.toList_some, List.nil_append, List.cons_append, Nat.le_refl, true_and, Nat.reduceAdd, Nat.reduceSub, Nat.reduceMul, Nat.reduceEqDiff, if_true, if_false, ite_true, ite_false, reduceIte, List.getElem?_cons_zero, List.getElem?_cons_succ, cS_g0, cS_g1, cS_g14, cS_g15, cS_g16, cS_g17, cS_g18, cS_g19, cS_g20, cS_g21, cS_g22, cS_g23, cS_g24, cS_g25, cS_g26, cS_s0, cS_s14, cS_s15, cS_s17, cS_s18, cS_s19, cS_s20, cS_s21, cS_s22, cS_s23, cS_s25, cS_s26, bI_t, bI_f, bI_eq0, bI_eq, zr_n10, zr_n01, eq_self, decide_eq_true_eq, Decidable.not_not, Classical.not_not, false_implies, true_implies, implies_true, and_true, true_and, not_true_eq_false, not_false_eq_true, zr_fitb, zr_fiti, zty_1_1, zty_2_1, zty_4_1, zty_5_1, zty_5_3, zty_5_4, zty_5_6, List.length_cons, List.length_nil, Nat.reduceLT, List.set_cons_zero, List.set_cons_succ, zr_retb]
  exact zk0 h
def sx_S_refuseNoWord : xSpec := fun vs σ KT => ∃ (x : Int32) (w : Nat → Nat) (n : Nat) (tx : Nat → Nat) (tl vx : Nat) (bx : Bool) (vy : Nat) (by_ : Bool) (vr : Nat) (br : Bool) (vs_ vp ve : Nat) (τ : List va_E), vs = [.ref 0, .int x] ∧ σ = cS w n tx tl vx bx vy by_ vr br vs_ vp ve τ ∧ ¬ (nI 0 ≤ x ∧ x < nI n) ∧ KT xIOB σ
theorem sxr_S_refuseNoWord : ∀ vs σ KT, sx_S_refuseNoWord vs σ KT → ∃ a fs r, vs = .ref a :: r ∧ σ[a]? = some (.inr (4, fs)) := by
  rintro vs σ KT ⟨x, w, n, tx, tl, vx, bx, vy, by_, vr, br, vs_, vp, ve, τ, rfl, rfl, -⟩
  exact ⟨_, _, _, rfl, rfl⟩
def tx_S_refuseNoWord_0 : List Instr := [.aload_n 0, .iload_n 1, .invokevirtual 84, .ifCond .ne 13, .nop]
def tx_S_refuseNoWord_8 : List Instr := [.new 73, .dup, .ldc 193, .invokespecial 77, .athrow]
def tx_S_refuseNoWord_18 : List Instr := [.return_]
def dx_S_refuseNoWord : Nat → List Instr := fun pc => match pc with
  | 0 => tx_S_refuseNoWord_0
  | 18 => tx_S_refuseNoWord_18
  | _ => []
theorem dx_S_refuseNoWord_0 : dx_S_refuseNoWord 0 = tx_S_refuseNoWord_0 := rfl
theorem dx_S_refuseNoWord_18 : dx_S_refuseNoWord 18 = tx_S_refuseNoWord_18 := rfl
set_option maxRecDepth 100000 in
theorem kx_S_refuseNoWord : ∀ pc, zok c_S_refuseNoWord 2 pc (dx_S_refuseNoWord pc) = true := by
  intro pc
  unfold dx_S_refuseNoWord
  split
  · decide +kernel
  · decide +kernel
  · rfl
def rx_S_refuseNoWord : Room := { frames := 6, cells := 1, slots := 6, locals := 104 }
set_option maxRecDepth 100000 in
theorem cor_S_refuseNoWord : ∀ q ∈ ct_S_refuseNoWord, zCok "WideWordStack" rx_S_refuseNoWord q := by
  intro q hq
  unfold ct_S_refuseNoWord at hq
  simp only [List.mem_cons, List.not_mem_nil, or_false] at hq
  rcases hq with rfl
  · exact Or.inr ⟨84, y_S_hasWord, c_S_hasWord, 2, (some .boolean), r_S_hasWord, ⟨rfl, rfl, by decide, by decide⟩, zm_S_hasWord, Or.inr ⟨rfl, 1, 4, rfl, l_S_84, sr_S_hasWord, _, _, rfl⟩⟩
def ctx_S_refuseNoWord : List (Nat × Nat × xSpec) := []
theorem cox_S_refuseNoWord : ∀ q ∈ ctx_S_refuseNoWord, zCokX "WideWordStack" rx_S_refuseNoWord q := by
  intro q hq
  unfold ctx_S_refuseNoWord at hq
  cases hq
def ths_S_refuseNoWord : List (Nat × String) := [(8, xIOB)]
set_option maxRecDepth 100000 in
theorem tho_S_refuseNoWord : ∀ q ∈ ths_S_refuseNoWord, zSite "WideWordStack" c_S_refuseNoWord q.1 q.2 := by
  intro q hq
  unfold ths_S_refuseNoWord at hq
  simp only [List.mem_cons, List.not_mem_nil, or_false] at hq
  rcases hq with rfl
  · exact ⟨73, 193, 77, _, zwi 414 rfl rfl, zwi 415 rfl rfl, zwi 63 rfl rfl, List.mem_append_left _ (List.mem_filter.mpr ⟨List.mem_of_getElem? (i := 423) rfl, rfl⟩), zown_iob, by decide +kernel, by decide +kernel, by decide +kernel, by decide +kernel, by decide +kernel⟩
set_option maxHeartbeats 4000000 in
set_option maxRecDepth 100000 in
theorem zt_S_refuseNoWord : ∀ l : Launch, l.stackTraces = false → ∀ vs σ KT, sx_S_refuseNoWord vs σ KT → zMetX l y_S_refuseNoWord c_S_refuseNoWord 2 none rx_S_refuseNoWord vs σ KT := by
  rintro l hl vs σ KT ⟨x, w, n, tx, tl, vx, bx, vy, by_, vr, br, vs_, vp, ve, τ, rfl, rfl, hx, h⟩
  refine zmetX_of (own := "WideWordStack") (f := f_S) (kk := kk_S) (t := ct_S_refuseNoWord) (tx := ctx_S_refuseNoWord) (th := ths_S_refuseNoWord) (g := g_S) (cd := dx_S_refuseNoWord) hl (by decide +kernel) rfl fo_S ko_S go_S cor_S_refuseNoWord cox_S_refuseNoWord tho_S_refuseNoWord kx_S_refuseNoWord (Nat.le_of_ble_eq_true rfl) ⟨rfl, rfl, by decide, by decide⟩ ?_
  intro V hV hT
  show V 0 [some _, some _] [] _
  refine hV.1 0 _ _ _ ?_
  simp -implicitDefEqProofs only [dx_S_refuseNoWord_0, dx_S_refuseNoWord_18, tx_S_refuseNoWord_0, tx_S_refuseNoWord_18, ctx_S_refuseNoWord, zr_cX, zr_cx0, zr_cxm, zr_cxx1, zr_cxx2, zr_cxx3, zr_cxx4, zr_cxx5, or_false, false_or, or_self, zr_ct0, ct_S_refuseNoWord, zs_aload_n, zs_aload, zs_iload_n, zs_iload, zs_lload_n, zs_lload, zs_istore_n, zs_istore, zs_lstore_n, zs_lstore, zs_astore_n, zs_astore, zs_iinc, zs_iconst, zs_bipush, zs_sipush, zs_lconst0, zs_lconst1, zs_ldc2_w, zs_ldc_w, zs_iadd, zs_isub, zs_imul, zs_iand, zs_ior, zs_ixor, zs_ishl, zs_ishr, zs_iushr, zs_idiv, zs_irem, zs_ineg, zs_ladd, zs_lsub, zs_lmul, zs_land, zs_lor, zs_lxor, zs_ldiv, zs_lrem, zs_lcmp, zs_lshl, zs_lshr, zs_lushr, zs_i2l, zs_l2i, zs_i2c, zs_dup_i, zs_pop_i, zs_dup_a, zs_pop_a, zs_dup2, zs_pop2, zs_nop, zs_goto, zs_if_eq, zs_icmp_eq, zs_if_ne, zs_icmp_ne, zs_if_lt, zs_icmp_lt, zs_if_ge, zs_icmp_ge, zs_if_gt, zs_icmp_gt, zs_if_le, zs_icmp_le, zs_getf, zs_putf, zs_gets, zs_alen, zs_iald, zs_cald, zs_lald, zs_aald, zs_iast, zs_cast, zs_last, zs_invstatic, zs_invvirtual, zs_invspecial, zs_ireturn, zs_lreturn, zs_areturn, zs_return, zs_tsw, zs_lsw, zr_zva0, zr_zvas, zr_zvai0, zr_zvais, zr_zvi0, zr_zvis, zr_zvii0, zr_zviis, zr_zvl0, zr_zvls, zr_zvli0, zr_zvlis, zr_zs1_0, zr_zs1_1n, zr_zs1_1i, zr_zs1_1a, zr_zs1_1l, zr_zs1_s, zr_zs2_0, zr_zs2_1n, zr_zs2_1i, zr_zs2_1a, zr_zs2_1l, zr_zs2_s, zr_f0, zr_f1, zr_f2, zr_f3, zr_kp, zr_k0, zr_k1, zr_km1, zr_km2, zr_km4, zr_km8, zr_km16, zr_tp, zr_tn, zr_kl, zr_ki, zr_kil, zr_kii, zr_ov, zr_is, zr_cn, zr_cfi, zr_cfl, zr_cfr, zr_cfo, zr_isi, zr_isl, zr_isc, zr_isr, zr_isn0, zr_isn1, zr_isn2, zr_iso, zr_reti, zr_ctm, zr_cat0, zr_cati, zr_cata, zr_catl, zr_cs0, zr_cs1, zr_cs2, zr_cs3, zr_cs4, zr_cs5, zr_cs6, Nat.reduceLeDiff, Option.toList_none, Option.toList_some, List.nil_append, List.cons_append, Nat.le_refl, true_and, Nat.reduceAdd, Nat.reduceSub, Nat.reduceMul, Nat.reduceEqDiff, if_true, if_false, ite_true, ite_false, reduceIte, List.getElem?_cons_zero, List.getElem?_cons_succ, cS_g0, cS_g1, cS_g14, cS_g15, cS_g16, cS_g17, cS_g18, cS_g19, cS_g20, cS_g21, cS_g22, cS_g23, cS_g24, cS_g25, cS_g26, cS_s0, cS_s14, cS_s15, cS_s17, cS_s18, cS_s19, cS_s20, cS_s21, cS_s22, cS_s23, cS_s25, cS_s26, bI_t, bI_f, bI_eq0, bI_eq, zr_n10, zr_n01, eq_self, decide_eq_true_eq, Decidable.not_not, Classical.not_not, false_implies, true_implies, implies_true, and_true, true_and, not_true_eq_false, not_false_eq_true, zr_fitb, zr_fiti, zty_1_1, zty_2_1, zty_4_1, zty_5_1, zty_5_3, zty_5_4, zty_5_6, List.length_cons, List.length_nil, Nat.reduceLT, List.set_cons_zero, List.set_cons_succ, zr_retb]
  refine ⟨x, w, n, tx, tl, vx, bx, vy, by_, vr, br, vs_, vp, ve, τ, rfl, rfl, ?_⟩
  simp -implicitDefEqProofs only [dx_S_refuseNoWord_0, dx_S_refuseNoWord_18, tx_S_refuseNoWord_0, tx_S_refuseNoWord_18, ctx_S_refuseNoWord, zr_cX, zr_cx0, zr_cxm, zr_cxx1, zr_cxx2, zr_cxx3, zr_cxx4, zr_cxx5, or_false, false_or, or_self, zr_ct0, ct_S_refuseNoWord, zs_aload_n, zs_aload, zs_iload_n, zs_iload, zs_lload_n, zs_lload, zs_istore_n, zs_istore, zs_lstore_n, zs_lstore, zs_astore_n, zs_astore, zs_iinc, zs_iconst, zs_bipush, zs_sipush, zs_lconst0, zs_lconst1, zs_ldc2_w, zs_ldc_w, zs_iadd, zs_isub, zs_imul, zs_iand, zs_ior, zs_ixor, zs_ishl, zs_ishr, zs_iushr, zs_idiv, zs_irem, zs_ineg, zs_ladd, zs_lsub, zs_lmul, zs_land, zs_lor, zs_lxor, zs_ldiv, zs_lrem, zs_lcmp, zs_lshl, zs_lshr, zs_lushr, zs_i2l, zs_l2i, zs_i2c, zs_dup_i, zs_pop_i, zs_dup_a, zs_pop_a, zs_dup2, zs_pop2, zs_nop, zs_goto, zs_if_eq, zs_icmp_eq, zs_if_ne, zs_icmp_ne, zs_if_lt, zs_icmp_lt, zs_if_ge, zs_icmp_ge, zs_if_gt, zs_icmp_gt, zs_if_le, zs_icmp_le, zs_getf, zs_putf, zs_gets, zs_alen, zs_iald, zs_cald, zs_lald, zs_aald, zs_iast, zs_cast, zs_last, zs_invstatic, zs_invvirtual, zs_invspecial, zs_ireturn, zs_lreturn, zs_areturn, zs_return, zs_tsw, zs_lsw, zr_zva0, zr_zvas, zr_zvai0, zr_zvais, zr_zvi0, zr_zvis, zr_zvii0, zr_zviis, zr_zvl0, zr_zvls, zr_zvli0, zr_zvlis, zr_zs1_0, zr_zs1_1n, zr_zs1_1i, zr_zs1_1a, zr_zs1_1l, zr_zs1_s, zr_zs2_0, zr_zs2_1n, zr_zs2_1i, zr_zs2_1a, zr_zs2_1l, zr_zs2_s, zr_f0, zr_f1, zr_f2, zr_f3, zr_kp, zr_k0, zr_k1, zr_km1, zr_km2, zr_km4, zr_km8, zr_km16, zr_tp, zr_tn, zr_kl, zr_ki, zr_kil, zr_kii, zr_ov, zr_is, zr_cn, zr_cfi, zr_cfl, zr_cfr, zr_cfo, zr_isi, zr_isl, zr_isc, zr_isr, zr_isn0, zr_isn1, zr_isn2, zr_iso, zr_reti, zr_ctm, zr_cat0, zr_cati, zr_cata, zr_catl, zr_cs0, zr_cs1, zr_cs2, zr_cs3, zr_cs4, zr_cs5, zr_cs6, Nat.reduceLeDiff, Option.toList_none, Option.toList_some, List.nil_append, List.cons_append, Nat.le_refl, true_and, Nat.reduceAdd, Nat.reduceSub, Nat.reduceMul, Nat.reduceEqDiff, if_true, if_false, ite_true, ite_false, reduceIte, List.getElem?_cons_zero, List.getElem?_cons_succ, cS_g0, cS_g1, cS_g14, cS_g15, cS_g16, cS_g17, cS_g18, cS_g19, cS_g20, cS_g21, cS_g22, cS_g23, cS_g24, cS_g25, cS_g26, cS_s0, cS_s14, cS_s15, cS_s17, cS_s18, cS_s19, cS_s20, cS_s21, cS_s22, cS_s23, cS_s25, cS_s26, bI_t, bI_f, bI_eq0, bI_eq, zr_n10, zr_n01, eq_self, decide_eq_true_eq, Decidable.not_not, Classical.not_not, false_implies, true_implies, implies_true, and_true, true_and, not_true_eq_false, not_false_eq_true, zr_fitb, zr_fiti, zty_1_1, zty_2_1, zty_4_1, zty_5_1, zty_5_3, zty_5_4, zty_5_6, List.length_cons, List.length_nil, Nat.reduceLT, List.set_cons_zero, List.set_cons_succ, zr_retb]
  exact ⟨fun q => absurd q hx, fun _ => hT (8, xIOB) List.mem_cons_self _ _ h⟩
def sp_S_refuseWhenFull : zSpec := fun vs σ K => ∃ (w : Nat → Nat) (n : Nat) (tx : Nat → Nat) (tl vx : Nat) (bx : Bool) (vy : Nat) (by_ : Bool) (vr : Nat) (br : Bool) (vs_ vp ve : Nat) (τ : List va_E), vs = [.ref 0] ∧ σ = cS w n tx tl vx bx vy by_ vr br vs_ vp ve τ ∧ n < 12 ∧ K none σ
theorem sr_S_refuseWhenFull : ∀ vs σ K, sp_S_refuseWhenFull vs σ K → ∃ a fs r, vs = .ref a :: r ∧ σ[a]? = some (.inr (4, fs)) := by
  rintro vs σ K ⟨w, n, tx, tl, vx, bx, vy, by_, vr, br, vs_, vp, ve, τ, rfl, rfl, -⟩
  exact ⟨_, _, _, rfl, rfl⟩
def ct_S_refuseWhenFull : List (Nat × Nat × zSpec) := []
set_option maxRecDepth 100000 in
theorem co_S_refuseWhenFull : ∀ q ∈ ct_S_refuseWhenFull, zCok "WideWordStack" r_S_refuseWhenFull q := by
  intro q hq
  unfold ct_S_refuseWhenFull at hq
  cases hq
set_option maxHeartbeats 4000000 in
set_option maxRecDepth 100000 in
theorem zm_S_refuseWhenFull : ∀ l vs σ K, sp_S_refuseWhenFull vs σ K → zMet l y_S_refuseWhenFull c_S_refuseWhenFull 1 none r_S_refuseWhenFull vs σ K := by
  rintro l vs σ K ⟨w, n, tx, tl, vx, bx, vy, by_, vr, br, vs_, vp, ve, τ, rfl, rfl, hx, h⟩
  refine zmet_of (own := "WideWordStack") (f := f_S) (kk := kk_S) (t := ct_S_refuseWhenFull) (g := g_S) (cd := d_S_refuseWhenFull) (by decide +kernel) rfl fo_S ko_S go_S co_S_refuseWhenFull k_S_refuseWhenFull (Nat.le_of_ble_eq_true rfl) ?_
  intro V hV
  show V 0 [some _] [] _
  refine hV.1 0 _ _ _ ?_
  simp -implicitDefEqProofs only [d_S_refuseWhenFull_0, d_S_refuseWhenFull_19, t_S_refuseWhenFull_0, t_S_refuseWhenFull_19, f_S_16, ct_S_refuseWhenFull, zs_aload_n, zs_aload, zs_iload_n, zs_iload, zs_lload_n, zs_lload, zs_istore_n, zs_istore, zs_lstore_n, zs_lstore, zs_astore_n, zs_astore, zs_iinc, zs_iconst, zs_bipush, zs_sipush, zs_lconst0, zs_lconst1, zs_ldc2_w, zs_ldc_w, zs_iadd, zs_isub, zs_imul, zs_iand, zs_ior, zs_ixor, zs_ishl, zs_ishr, zs_iushr, zs_idiv, zs_irem, zs_ineg, zs_ladd, zs_lsub, zs_lmul, zs_land, zs_lor, zs_lxor, zs_ldiv, zs_lrem, zs_lcmp, zs_lshl, zs_lshr, zs_lushr, zs_i2l, zs_l2i, zs_i2c, zs_dup_i, zs_pop_i, zs_dup_a, zs_pop_a, zs_dup2, zs_pop2, zs_nop, zs_goto, zs_if_eq, zs_icmp_eq, zs_if_ne, zs_icmp_ne, zs_if_lt, zs_icmp_lt, zs_if_ge, zs_icmp_ge, zs_if_gt, zs_icmp_gt, zs_if_le, zs_icmp_le, zs_getf, zs_putf, zs_gets, zs_alen, zs_iald, zs_cald, zs_lald, zs_aald, zs_iast, zs_cast, zs_last, zs_invstatic, zs_invvirtual, zs_invspecial, zs_ireturn, zs_lreturn, zs_areturn, zs_return, zs_tsw, zs_lsw, zr_zva0, zr_zvas, zr_zvai0, zr_zvais, zr_zvi0, zr_zvis, zr_zvii0, zr_zviis, zr_zvl0, zr_zvls, zr_zvli0, zr_zvlis, zr_zs1_0, zr_zs1_1n, zr_zs1_1i, zr_zs1_1a, zr_zs1_1l, zr_zs1_s, zr_zs2_0, zr_zs2_1n, zr_zs2_1i, zr_zs2_1a, zr_zs2_1l, zr_zs2_s, zr_f0, zr_f1, zr_f2, zr_f3, zr_kp, zr_k0, zr_k1, zr_km1, zr_km2, zr_km4, zr_km8, zr_km16, zr_tp, zr_tn, zr_kl, zr_ki, zr_kil, zr_kii, zr_ov, zr_is, zr_cn, zr_cfi, zr_cfl, zr_cfr, zr_cfo, zr_isi, zr_isl, zr_isc, zr_isr, zr_isn0, zr_isn1, zr_isn2, zr_iso, zr_reti, zr_ctm, zr_cat0, zr_cati, zr_cata, zr_catl, zr_cs0, zr_cs1, zr_cs2, zr_cs3, zr_cs4, zr_cs5, zr_cs6, Nat.reduceLeDiff, Option.toList_none, Option.toList_some, List.nil_append, List.cons_append, Nat.le_refl, true_and, Nat.reduceAdd, Nat.reduceSub, Nat.reduceMul, Nat.reduceEqDiff, if_true, if_false, ite_true, ite_false, reduceIte, List.getElem?_cons_zero, List.getElem?_cons_succ, cS_g0, cS_g1, cS_g14, cS_g15, cS_g16, cS_g17, cS_g18, cS_g19, cS_g20, cS_g21, cS_g22, cS_g23, cS_g24, cS_g25, cS_g26, cS_s0, cS_s14, cS_s15, cS_s17, cS_s18, cS_s19, cS_s20, cS_s21, cS_s22, cS_s23, cS_s25, cS_s26, bI_t, bI_f, bI_eq0, bI_eq, zr_n10, zr_n01, eq_self, decide_eq_true_eq, Decidable.not_not, Classical.not_not, false_implies, true_implies, implies_true, and_true, true_and, not_true_eq_false, not_false_eq_true, zr_fitb, zr_fiti, zty_1_1, zty_2_1, zty_4_1, zty_5_1, zty_5_3, zty_5_4, zty_5_6, List.length_cons, List.length_nil, Nat.reduceLT, List.set_cons_zero, List.set_cons_succ, zr_retb]
  rw [zi_lt (by omega) (by decide)]
  refine ⟨fun _ => ?_, fun q => absurd hx q⟩
  refine hV.1 19 _ _ _ ?_
  simp -implicitDefEqProofs only [d_S_refuseWhenFull_0, d_S_refuseWhenFull_19, t_S_refuseWhenFull_0, t_S_refuseWhenFull_19, f_S_16, ct_S_refuseWhenFull, zs_aload_n, zs_aload, zs_iload_n, zs_iload, zs_lload_n, zs_lload, zs_istore_n, zs_istore, zs_lstore_n, zs_lstore, zs_astore_n, zs_astore, zs_iinc, zs_iconst, zs_bipush, zs_sipush, zs_lconst0, zs_lconst1, zs_ldc2_w, zs_ldc_w, zs_iadd, zs_isub, zs_imul, zs_iand, zs_ior, zs_ixor, zs_ishl, zs_ishr, zs_iushr, zs_idiv, zs_irem, zs_ineg, zs_ladd, zs_lsub, zs_lmul, zs_land, zs_lor, zs_lxor, zs_ldiv, zs_lrem, zs_lcmp, zs_lshl, zs_lshr, zs_lushr, zs_i2l, zs_l2i, zs_i2c, zs_dup_i, zs_pop_i, zs_dup_a, zs_pop_a, zs_dup2, zs_pop2, zs_nop, zs_goto, zs_if_eq, zs_icmp_eq, zs_if_ne, zs_icmp_ne, zs_if_lt, zs_icmp_lt, zs_if_ge, zs_icmp_ge, zs_if_gt, zs_icmp_gt, zs_if_le, zs_icmp_le, zs_getf, zs_putf, zs_gets, zs_alen, zs_iald, zs_cald, zs_lald, zs_aald, zs_iast, zs_cast, zs_last, zs_invstatic, zs_invvirtual, zs_invspecial, zs_ireturn, zs_lreturn, zs_areturn, zs_return, zs_tsw, zs_lsw, zr_zva0, zr_zvas, zr_zvai0, zr_zvais, zr_zvi0, zr_zvis, zr_zvii0, zr_zviis, zr_zvl0, zr_zvls, zr_zvli0, zr_zvlis, zr_zs1_0, zr_zs1_1n, zr_zs1_1i, zr_zs1_1a, zr_zs1_1l, zr_zs1_s, zr_zs2_0, zr_zs2_1n, zr_zs2_1i, zr_zs2_1a, zr_zs2_1l, zr_zs2_s, zr_f0, zr_f1, zr_f2, zr_f3, zr_kp, zr_k0, zr_k1, zr_km1, zr_km2, zr_km4, zr_km8, zr_km16, zr_tp, zr_tn, zr_kl, zr_ki, zr_kil, zr_kii, zr_ov, zr_is, zr_cn, zr_cfi, zr_cfl, zr_cfr, zr_cfo, zr_isi, zr_isl, zr_isc, zr_isr, zr_isn0, zr_isn1, zr_isn2, zr_iso, zr_reti, zr_ctm, zr_cat0, zr_cati, zr_cata, zr_catl, zr_cs0, zr_cs1, zr_cs2, zr_cs3, zr_cs4, zr_cs5, zr_cs6, Nat.reduceLeDiff, Option.toList_none, Option.toList_some, List.nil_append, List.cons_append, Nat.le_refl, true_and, Nat.reduceAdd, Nat.reduceSub, Nat.reduceMul, Nat.reduceEqDiff, if_true, if_false, ite_true, ite_false, reduceIte, List.getElem?_cons_zero, List.getElem?_cons_succ, cS_g0, cS_g1, cS_g14, cS_g15, cS_g16, cS_g17, cS_g18, cS_g19, cS_g20, cS_g21, cS_g22, cS_g23, cS_g24, cS_g25, cS_g26, cS_s0, cS_s14, cS_s15, cS_s17, cS_s18, cS_s19, cS_s20, cS_s21, cS_s22, cS_s23, cS_s25, cS_s26, bI_t, bI_f, bI_eq0, bI_eq, zr_n10, zr_n01, eq_self, decide_eq_true_eq, Decidable.not_not, Classical.not_not, false_implies, true_implies, implies_true, and_true, true_and, not_true_eq_false, not_false_eq_true, zr_fitb, zr_fiti, zty_1_1, zty_2_1, zty_4_1, zty_5_1, zty_5_3, zty_5_4, zty_5_6, List.length_cons, List.length_nil, Nat.reduceLT, List.set_cons_zero, List.set_cons_succ, zr_retb]
  exact zk0 h
def sx_S_refuseWhenFull : xSpec := fun vs σ KT => ∃ (w : Nat → Nat) (n : Nat) (tx : Nat → Nat) (tl vx : Nat) (bx : Bool) (vy : Nat) (by_ : Bool) (vr : Nat) (br : Bool) (vs_ vp ve : Nat) (τ : List va_E), vs = [.ref 0] ∧ σ = cS w n tx tl vx bx vy by_ vr br vs_ vp ve τ ∧ n = 12 ∧ KT xISE σ
theorem sxr_S_refuseWhenFull : ∀ vs σ KT, sx_S_refuseWhenFull vs σ KT → ∃ a fs r, vs = .ref a :: r ∧ σ[a]? = some (.inr (4, fs)) := by
  rintro vs σ KT ⟨w, n, tx, tl, vx, bx, vy, by_, vr, br, vs_, vp, ve, τ, rfl, rfl, -⟩
  exact ⟨_, _, _, rfl, rfl⟩
def tx_S_refuseWhenFull_0 : List Instr := [.aload_n 0, .getfield 16, .bipush 12, .if_icmp .lt 13, .nop]
def tx_S_refuseWhenFull_9 : List Instr := [.new 195, .dup, .ldc 197, .invokespecial 199, .athrow]
def tx_S_refuseWhenFull_19 : List Instr := [.return_]
def dx_S_refuseWhenFull : Nat → List Instr := fun pc => match pc with
  | 0 => tx_S_refuseWhenFull_0
  | 19 => tx_S_refuseWhenFull_19
  | _ => []
theorem dx_S_refuseWhenFull_0 : dx_S_refuseWhenFull 0 = tx_S_refuseWhenFull_0 := rfl
theorem dx_S_refuseWhenFull_19 : dx_S_refuseWhenFull 19 = tx_S_refuseWhenFull_19 := rfl
set_option maxRecDepth 100000 in
theorem kx_S_refuseWhenFull : ∀ pc, zok c_S_refuseWhenFull 1 pc (dx_S_refuseWhenFull pc) = true := by
  intro pc
  unfold dx_S_refuseWhenFull
  split
  · decide +kernel
  · decide +kernel
  · rfl
def rx_S_refuseWhenFull : Room := { frames := 6, cells := 1, slots := 6, locals := 104 }
set_option maxRecDepth 100000 in
theorem cor_S_refuseWhenFull : ∀ q ∈ ct_S_refuseWhenFull, zCok "WideWordStack" rx_S_refuseWhenFull q := by
  intro q hq
  unfold ct_S_refuseWhenFull at hq
  cases hq
def ctx_S_refuseWhenFull : List (Nat × Nat × xSpec) := []
theorem cox_S_refuseWhenFull : ∀ q ∈ ctx_S_refuseWhenFull, zCokX "WideWordStack" rx_S_refuseWhenFull q := by
  intro q hq
  unfold ctx_S_refuseWhenFull at hq
  cases hq
def ths_S_refuseWhenFull : List (Nat × String) := [(9, xISE)]
set_option maxRecDepth 100000 in
theorem tho_S_refuseWhenFull : ∀ q ∈ ths_S_refuseWhenFull, zSite "WideWordStack" c_S_refuseWhenFull q.1 q.2 := by
  intro q hq
  unfold ths_S_refuseWhenFull at hq
  simp only [List.mem_cons, List.not_mem_nil, or_false] at hq
  rcases hq with rfl
  · exact ⟨195, 197, 199, _, zwi 330 rfl rfl, zwi 331 rfl rfl, zwi 61 rfl rfl, List.mem_append_left _ (List.mem_filter.mpr ⟨List.mem_of_getElem? (i := 372) rfl, rfl⟩), zown_ise, by decide +kernel, by decide +kernel, by decide +kernel, by decide +kernel, by decide +kernel⟩
set_option maxHeartbeats 4000000 in
set_option maxRecDepth 100000 in
theorem zt_S_refuseWhenFull : ∀ l : Launch, l.stackTraces = false → ∀ vs σ KT, sx_S_refuseWhenFull vs σ KT → zMetX l y_S_refuseWhenFull c_S_refuseWhenFull 1 none rx_S_refuseWhenFull vs σ KT := by
  rintro l hl vs σ KT ⟨w, n, tx, tl, vx, bx, vy, by_, vr, br, vs_, vp, ve, τ, rfl, rfl, hx, h⟩
  refine zmetX_of (own := "WideWordStack") (f := f_S) (kk := kk_S) (t := ct_S_refuseWhenFull) (tx := ctx_S_refuseWhenFull) (th := ths_S_refuseWhenFull) (g := g_S) (cd := dx_S_refuseWhenFull) hl (by decide +kernel) rfl fo_S ko_S go_S cor_S_refuseWhenFull cox_S_refuseWhenFull tho_S_refuseWhenFull kx_S_refuseWhenFull (Nat.le_of_ble_eq_true rfl) ⟨rfl, rfl, by decide, by decide⟩ ?_
  intro V hV hT
  show V 0 [some _] [] _
  refine hV.1 0 _ _ _ ?_
  simp -implicitDefEqProofs only [dx_S_refuseWhenFull_0, dx_S_refuseWhenFull_19, tx_S_refuseWhenFull_0, tx_S_refuseWhenFull_19, ctx_S_refuseWhenFull, zr_cX, zr_cx0, zr_cxm, zr_cxx1, zr_cxx2, zr_cxx3, zr_cxx4, zr_cxx5, or_false, false_or, or_self, zr_ct0, f_S_16, ct_S_refuseWhenFull, zs_aload_n, zs_aload, zs_iload_n, zs_iload, zs_lload_n, zs_lload, zs_istore_n, zs_istore, zs_lstore_n, zs_lstore, zs_astore_n, zs_astore, zs_iinc, zs_iconst, zs_bipush, zs_sipush, zs_lconst0, zs_lconst1, zs_ldc2_w, zs_ldc_w, zs_iadd, zs_isub, zs_imul, zs_iand, zs_ior, zs_ixor, zs_ishl, zs_ishr, zs_iushr, zs_idiv, zs_irem, zs_ineg, zs_ladd, zs_lsub, zs_lmul, zs_land, zs_lor, zs_lxor, zs_ldiv, zs_lrem, zs_lcmp, zs_lshl, zs_lshr, zs_lushr, zs_i2l, zs_l2i, zs_i2c, zs_dup_i, zs_pop_i, zs_dup_a, zs_pop_a, zs_dup2, zs_pop2, zs_nop, zs_goto, zs_if_eq, zs_icmp_eq, zs_if_ne, zs_icmp_ne, zs_if_lt, zs_icmp_lt, zs_if_ge, zs_icmp_ge, zs_if_gt, zs_icmp_gt, zs_if_le, zs_icmp_le, zs_getf, zs_putf, zs_gets, zs_alen, zs_iald, zs_cald, zs_lald, zs_aald, zs_iast, zs_cast, zs_last, zs_invstatic, zs_invvirtual, zs_invspecial, zs_ireturn, zs_lreturn, zs_areturn, zs_return, zs_tsw, zs_lsw, zr_zva0, zr_zvas, zr_zvai0, zr_zvais, zr_zvi0, zr_zvis, zr_zvii0, zr_zviis, zr_zvl0, zr_zvls, zr_zvli0, zr_zvlis, zr_zs1_0, zr_zs1_1n, zr_zs1_1i, zr_zs1_1a, zr_zs1_1l, zr_zs1_s, zr_zs2_0, zr_zs2_1n, zr_zs2_1i, zr_zs2_1a, zr_zs2_1l, zr_zs2_s, zr_f0, zr_f1, zr_f2, zr_f3, zr_kp, zr_k0, zr_k1, zr_km1, zr_km2, zr_km4, zr_km8, zr_km16, zr_tp, zr_tn, zr_kl, zr_ki, zr_kil, zr_kii, zr_ov, zr_is, zr_cn, zr_cfi, zr_cfl, zr_cfr, zr_cfo, zr_isi, zr_isl, zr_isc, zr_isr, zr_isn0, zr_isn1, zr_isn2, zr_iso, zr_reti, zr_ctm, zr_cat0, zr_cati, zr_cata, zr_catl, zr_cs0, zr_cs1, zr_cs2, zr_cs3, zr_cs4, zr_cs5, zr_cs6, Nat.reduceLeDiff, Option.toList_none, Option.toList_some, List.nil_append, List.cons_append, Nat.le_refl, true_and, Nat.reduceAdd, Nat.reduceSub, Nat.reduceMul, Nat.reduceEqDiff, if_true, if_false, ite_true, ite_false, reduceIte, List.getElem?_cons_zero, List.getElem?_cons_succ, cS_g0, cS_g1, cS_g14, cS_g15, cS_g16, cS_g17, cS_g18, cS_g19, cS_g20, cS_g21, cS_g22, cS_g23, cS_g24, cS_g25, cS_g26, cS_s0, cS_s14, cS_s15, cS_s17, cS_s18, cS_s19, cS_s20, cS_s21, cS_s22, cS_s23, cS_s25, cS_s26, bI_t, bI_f, bI_eq0, bI_eq, zr_n10, zr_n01, eq_self, decide_eq_true_eq, Decidable.not_not, Classical.not_not, false_implies, true_implies, implies_true, and_true, true_and, not_true_eq_false, not_false_eq_true, zr_fitb, zr_fiti, zty_1_1, zty_2_1, zty_4_1, zty_5_1, zty_5_3, zty_5_4, zty_5_6, List.length_cons, List.length_nil, Nat.reduceLT, List.set_cons_zero, List.set_cons_succ, zr_retb]
  rw [zi_lt (by omega) (by decide)]
  exact ⟨fun q => by omega, fun _ => hT (9, xISE) List.mem_cons_self _ _ h⟩
def sp_S_refuseFewerThan : zSpec := fun vs σ K => ∃ (k : Nat) (w : Nat → Nat) (n : Nat) (tx : Nat → Nat) (tl vx : Nat) (bx : Bool) (vy : Nat) (by_ : Bool) (vr : Nat) (br : Bool) (vs_ vp ve : Nat) (τ : List va_E), vs = [.ref 0, .int (nI k)] ∧ σ = cS w n tx tl vx bx vy by_ vr br vs_ vp ve τ ∧ k < 1000 ∧ n ≤ 12 ∧ k ≤ n ∧ K none σ
theorem sr_S_refuseFewerThan : ∀ vs σ K, sp_S_refuseFewerThan vs σ K → ∃ a fs r, vs = .ref a :: r ∧ σ[a]? = some (.inr (4, fs)) := by
  rintro vs σ K ⟨k, w, n, tx, tl, vx, bx, vy, by_, vr, br, vs_, vp, ve, τ, rfl, rfl, -⟩
  exact ⟨_, _, _, rfl, rfl⟩
def ct_S_refuseFewerThan : List (Nat × Nat × zSpec) := []
set_option maxRecDepth 100000 in
theorem co_S_refuseFewerThan : ∀ q ∈ ct_S_refuseFewerThan, zCok "WideWordStack" r_S_refuseFewerThan q := by
  intro q hq
  unfold ct_S_refuseFewerThan at hq
  cases hq
set_option maxHeartbeats 4000000 in
set_option maxRecDepth 100000 in
theorem zm_S_refuseFewerThan : ∀ l vs σ K, sp_S_refuseFewerThan vs σ K → zMet l y_S_refuseFewerThan c_S_refuseFewerThan 2 none r_S_refuseFewerThan vs σ K := by
  rintro l vs σ K ⟨k, w, n, tx, tl, vx, bx, vy, by_, vr, br, vs_, vp, ve, τ, rfl, rfl, hk, hn, hx, h⟩
  refine zmet_of (own := "WideWordStack") (f := f_S) (kk := kk_S) (t := ct_S_refuseFewerThan) (g := g_S) (cd := d_S_refuseFewerThan) (by decide +kernel) rfl fo_S ko_S go_S co_S_refuseFewerThan k_S_refuseFewerThan (Nat.le_of_ble_eq_true rfl) ?_
  intro V hV
  show V 0 [some _, some _] [] _
  refine hV.1 0 _ _ _ ?_
  simp -implicitDefEqProofs only [d_S_refuseFewerThan_0, d_S_refuseFewerThan_18, t_S_refuseFewerThan_0, t_S_refuseFewerThan_18, f_S_16, ct_S_refuseFewerThan, zs_aload_n, zs_aload, zs_iload_n, zs_iload, zs_lload_n, zs_lload, zs_istore_n, zs_istore, zs_lstore_n, zs_lstore, zs_astore_n, zs_astore, zs_iinc, zs_iconst, zs_bipush, zs_sipush, zs_lconst0, zs_lconst1, zs_ldc2_w, zs_ldc_w, zs_iadd, zs_isub, zs_imul, zs_iand, zs_ior, zs_ixor, zs_ishl, zs_ishr, zs_iushr, zs_idiv, zs_irem, zs_ineg, zs_ladd, zs_lsub, zs_lmul, zs_land, zs_lor, zs_lxor, zs_ldiv, zs_lrem, zs_lcmp, zs_lshl, zs_lshr, zs_lushr, zs_i2l, zs_l2i, zs_i2c, zs_dup_i, zs_pop_i, zs_dup_a, zs_pop_a, zs_dup2, zs_pop2, zs_nop, zs_goto, zs_if_eq, zs_icmp_eq, zs_if_ne, zs_icmp_ne, zs_if_lt, zs_icmp_lt, zs_if_ge, zs_icmp_ge, zs_if_gt, zs_icmp_gt, zs_if_le, zs_icmp_le, zs_getf, zs_putf, zs_gets, zs_alen, zs_iald, zs_cald, zs_lald, zs_aald, zs_iast, zs_cast, zs_last, zs_invstatic, zs_invvirtual, zs_invspecial, zs_ireturn, zs_lreturn, zs_areturn, zs_return, zs_tsw, zs_lsw, zr_zva0, zr_zvas, zr_zvai0, zr_zvais, zr_zvi0, zr_zvis, zr_zvii0, zr_zviis, zr_zvl0, zr_zvls, zr_zvli0, zr_zvlis, zr_zs1_0, zr_zs1_1n, zr_zs1_1i, zr_zs1_1a, zr_zs1_1l, zr_zs1_s, zr_zs2_0, zr_zs2_1n, zr_zs2_1i, zr_zs2_1a, zr_zs2_1l, zr_zs2_s, zr_f0, zr_f1, zr_f2, zr_f3, zr_kp, zr_k0, zr_k1, zr_km1, zr_km2, zr_km4, zr_km8, zr_km16, zr_tp, zr_tn, zr_kl, zr_ki, zr_kil, zr_kii, zr_ov, zr_is, zr_cn, zr_cfi, zr_cfl, zr_cfr, zr_cfo, zr_isi, zr_isl, zr_isc, zr_isr, zr_isn0, zr_isn1, zr_isn2, zr_iso, zr_reti, zr_ctm, zr_cat0, zr_cati, zr_cata, zr_catl, zr_cs0, zr_cs1, zr_cs2, zr_cs3, zr_cs4, zr_cs5, zr_cs6, Nat.reduceLeDiff, Option.toList_none, Option.toList_some, List.nil_append, List.cons_append, Nat.le_refl, true_and, Nat.reduceAdd, Nat.reduceSub, Nat.reduceMul, Nat.reduceEqDiff, if_true, if_false, ite_true, ite_false, reduceIte, List.getElem?_cons_zero, List.getElem?_cons_succ, cS_g0, cS_g1, cS_g14, cS_g15, cS_g16, cS_g17, cS_g18, cS_g19, cS_g20, cS_g21, cS_g22, cS_g23, cS_g24, cS_g25, cS_g26, cS_s0, cS_s14, cS_s15, cS_s17, cS_s18, cS_s19, cS_s20, cS_s21, cS_s22, cS_s23, cS_s25, cS_s26, bI_t, bI_f, bI_eq0, bI_eq, zr_n10, zr_n01, eq_self, decide_eq_true_eq, Decidable.not_not, Classical.not_not, false_implies, true_implies, implies_true, and_true, true_and, not_true_eq_false, not_false_eq_true, zr_fitb, zr_fiti, zty_1_1, zty_2_1, zty_4_1, zty_5_1, zty_5_3, zty_5_4, zty_5_6, List.length_cons, List.length_nil, Nat.reduceLT, List.set_cons_zero, List.set_cons_succ, zr_retb]
  rw [zi_le (by omega) (by omega)]
  refine ⟨fun _ => ?_, fun q => absurd hx q⟩
  refine hV.1 18 _ _ _ ?_
  simp -implicitDefEqProofs only [d_S_refuseFewerThan_0, d_S_refuseFewerThan_18, t_S_refuseFewerThan_0, t_S_refuseFewerThan_18, f_S_16, ct_S_refuseFewerThan, zs_aload_n, zs_aload, zs_iload_n, zs_iload, zs_lload_n, zs_lload, zs_istore_n, zs_istore, zs_lstore_n, zs_lstore, zs_astore_n, zs_astore, zs_iinc, zs_iconst, zs_bipush, zs_sipush, zs_lconst0, zs_lconst1, zs_ldc2_w, zs_ldc_w, zs_iadd, zs_isub, zs_imul, zs_iand, zs_ior, zs_ixor, zs_ishl, zs_ishr, zs_iushr, zs_idiv, zs_irem, zs_ineg, zs_ladd, zs_lsub, zs_lmul, zs_land, zs_lor, zs_lxor, zs_ldiv, zs_lrem, zs_lcmp, zs_lshl, zs_lshr, zs_lushr, zs_i2l, zs_l2i, zs_i2c, zs_dup_i, zs_pop_i, zs_dup_a, zs_pop_a, zs_dup2, zs_pop2, zs_nop, zs_goto, zs_if_eq, zs_icmp_eq, zs_if_ne, zs_icmp_ne, zs_if_lt, zs_icmp_lt, zs_if_ge, zs_icmp_ge, zs_if_gt, zs_icmp_gt, zs_if_le, zs_icmp_le, zs_getf, zs_putf, zs_gets, zs_alen, zs_iald, zs_cald, zs_lald, zs_aald, zs_iast, zs_cast, zs_last, zs_invstatic, zs_invvirtual, zs_invspecial, zs_ireturn, zs_lreturn, zs_areturn, zs_return, zs_tsw, zs_lsw, zr_zva0, zr_zvas, zr_zvai0, zr_zvais, zr_zvi0, zr_zvis, zr_zvii0, zr_zviis, zr_zvl0, zr_zvls, zr_zvli0, zr_zvlis, zr_zs1_0, zr_zs1_1n, zr_zs1_1i, zr_zs1_1a, zr_zs1_1l, zr_zs1_s, zr_zs2_0, zr_zs2_1n, zr_zs2_1i, zr_zs2_1a, zr_zs2_1l, zr_zs2_s, zr_f0, zr_f1, zr_f2, zr_f3, zr_kp, zr_k0, zr_k1, zr_km1, zr_km2, zr_km4, zr_km8, zr_km16, zr_tp, zr_tn, zr_kl, zr_ki, zr_kil, zr_kii, zr_ov, zr_is, zr_cn, zr_cfi, zr_cfl, zr_cfr, zr_cfo, zr_isi, zr_isl, zr_isc, zr_isr, zr_isn0, zr_isn1, zr_isn2, zr_iso, zr_reti, zr_ctm, zr_cat0, zr_cati, zr_cata, zr_catl, zr_cs0, zr_cs1, zr_cs2, zr_cs3, zr_cs4, zr_cs5, zr_cs6, Nat.reduceLeDiff, Option.toList_none, Option.toList_some, List.nil_append, List.cons_append, Nat.le_refl, true_and, Nat.reduceAdd, Nat.reduceSub, Nat.reduceMul, Nat.reduceEqDiff, if_true, if_false, ite_true, ite_false, reduceIte, List.getElem?_cons_zero, List.getElem?_cons_succ, cS_g0, cS_g1, cS_g14, cS_g15, cS_g16, cS_g17, cS_g18, cS_g19, cS_g20, cS_g21, cS_g22, cS_g23, cS_g24, cS_g25, cS_g26, cS_s0, cS_s14, cS_s15, cS_s17, cS_s18, cS_s19, cS_s20, cS_s21, cS_s22, cS_s23, cS_s25, cS_s26, bI_t, bI_f, bI_eq0, bI_eq, zr_n10, zr_n01, eq_self, decide_eq_true_eq, Decidable.not_not, Classical.not_not, false_implies, true_implies, implies_true, and_true, true_and, not_true_eq_false, not_false_eq_true, zr_fitb, zr_fiti, zty_1_1, zty_2_1, zty_4_1, zty_5_1, zty_5_3, zty_5_4, zty_5_6, List.length_cons, List.length_nil, Nat.reduceLT, List.set_cons_zero, List.set_cons_succ, zr_retb]
  exact zk0 h
def sx_S_refuseFewerThan : xSpec := fun vs σ KT => ∃ (k : Nat) (w : Nat → Nat) (n : Nat) (tx : Nat → Nat) (tl vx : Nat) (bx : Bool) (vy : Nat) (by_ : Bool) (vr : Nat) (br : Bool) (vs_ vp ve : Nat) (τ : List va_E), vs = [.ref 0, .int (nI k)] ∧ σ = cS w n tx tl vx bx vy by_ vr br vs_ vp ve τ ∧ k < 1000 ∧ n ≤ 12 ∧ ¬ k ≤ n ∧ KT xISE σ
theorem sxr_S_refuseFewerThan : ∀ vs σ KT, sx_S_refuseFewerThan vs σ KT → ∃ a fs r, vs = .ref a :: r ∧ σ[a]? = some (.inr (4, fs)) := by
  rintro vs σ KT ⟨k, w, n, tx, tl, vx, bx, vy, by_, vr, br, vs_, vp, ve, τ, rfl, rfl, -⟩
  exact ⟨_, _, _, rfl, rfl⟩
def tx_S_refuseFewerThan_0 : List Instr := [.aload_n 0, .getfield 16, .iload_n 1, .if_icmp .ge 13, .nop]
def tx_S_refuseFewerThan_8 : List Instr := [.new 195, .dup, .ldc 200, .invokespecial 199, .athrow]
def tx_S_refuseFewerThan_18 : List Instr := [.return_]
def dx_S_refuseFewerThan : Nat → List Instr := fun pc => match pc with
  | 0 => tx_S_refuseFewerThan_0
  | 18 => tx_S_refuseFewerThan_18
  | _ => []
theorem dx_S_refuseFewerThan_0 : dx_S_refuseFewerThan 0 = tx_S_refuseFewerThan_0 := rfl
theorem dx_S_refuseFewerThan_18 : dx_S_refuseFewerThan 18 = tx_S_refuseFewerThan_18 := rfl
set_option maxRecDepth 100000 in
theorem kx_S_refuseFewerThan : ∀ pc, zok c_S_refuseFewerThan 2 pc (dx_S_refuseFewerThan pc) = true := by
  intro pc
  unfold dx_S_refuseFewerThan
  split
  · decide +kernel
  · decide +kernel
  · rfl
def rx_S_refuseFewerThan : Room := { frames := 6, cells := 1, slots := 6, locals := 104 }
set_option maxRecDepth 100000 in
theorem cor_S_refuseFewerThan : ∀ q ∈ ct_S_refuseFewerThan, zCok "WideWordStack" rx_S_refuseFewerThan q := by
  intro q hq
  unfold ct_S_refuseFewerThan at hq
  cases hq
def ctx_S_refuseFewerThan : List (Nat × Nat × xSpec) := []
theorem cox_S_refuseFewerThan : ∀ q ∈ ctx_S_refuseFewerThan, zCokX "WideWordStack" rx_S_refuseFewerThan q := by
  intro q hq
  unfold ctx_S_refuseFewerThan at hq
  cases hq
def ths_S_refuseFewerThan : List (Nat × String) := [(8, xISE)]
set_option maxRecDepth 100000 in
theorem tho_S_refuseFewerThan : ∀ q ∈ ths_S_refuseFewerThan, zSite "WideWordStack" c_S_refuseFewerThan q.1 q.2 := by
  intro q hq
  unfold ths_S_refuseFewerThan at hq
  simp only [List.mem_cons, List.not_mem_nil, or_false] at hq
  rcases hq with rfl
  · exact ⟨195, 200, 199, _, zwi 330 rfl rfl, zwi 331 rfl rfl, zwi 61 rfl rfl, List.mem_append_left _ (List.mem_filter.mpr ⟨List.mem_of_getElem? (i := 456) rfl, rfl⟩), zown_ise, by decide +kernel, by decide +kernel, by decide +kernel, by decide +kernel, by decide +kernel⟩
set_option maxHeartbeats 4000000 in
set_option maxRecDepth 100000 in
theorem zt_S_refuseFewerThan : ∀ l : Launch, l.stackTraces = false → ∀ vs σ KT, sx_S_refuseFewerThan vs σ KT → zMetX l y_S_refuseFewerThan c_S_refuseFewerThan 2 none rx_S_refuseFewerThan vs σ KT := by
  rintro l hl vs σ KT ⟨k, w, n, tx, tl, vx, bx, vy, by_, vr, br, vs_, vp, ve, τ, rfl, rfl, hk, hn, hx, h⟩
  refine zmetX_of (own := "WideWordStack") (f := f_S) (kk := kk_S) (t := ct_S_refuseFewerThan) (tx := ctx_S_refuseFewerThan) (th := ths_S_refuseFewerThan) (g := g_S) (cd := dx_S_refuseFewerThan) hl (by decide +kernel) rfl fo_S ko_S go_S cor_S_refuseFewerThan cox_S_refuseFewerThan tho_S_refuseFewerThan kx_S_refuseFewerThan (Nat.le_of_ble_eq_true rfl) ⟨rfl, rfl, by decide, by decide⟩ ?_
  intro V hV hT
  show V 0 [some _, some _] [] _
  refine hV.1 0 _ _ _ ?_
  simp -implicitDefEqProofs only [dx_S_refuseFewerThan_0, dx_S_refuseFewerThan_18, tx_S_refuseFewerThan_0, tx_S_refuseFewerThan_18, ctx_S_refuseFewerThan, zr_cX, zr_cx0, zr_cxm, zr_cxx1, zr_cxx2, zr_cxx3, zr_cxx4, zr_cxx5, or_false, false_or, or_self, zr_ct0, f_S_16, ct_S_refuseFewerThan, zs_aload_n, zs_aload, zs_iload_n, zs_iload, zs_lload_n, zs_lload, zs_istore_n, zs_istore, zs_lstore_n, zs_lstore, zs_astore_n, zs_astore, zs_iinc, zs_iconst, zs_bipush, zs_sipush, zs_lconst0, zs_lconst1, zs_ldc2_w, zs_ldc_w, zs_iadd, zs_isub, zs_imul, zs_iand, zs_ior, zs_ixor, zs_ishl, zs_ishr, zs_iushr, zs_idiv, zs_irem, zs_ineg, zs_ladd, zs_lsub, zs_lmul, zs_land, zs_lor, zs_lxor, zs_ldiv, zs_lrem, zs_lcmp, zs_lshl, zs_lshr, zs_lushr, zs_i2l, zs_l2i, zs_i2c, zs_dup_i, zs_pop_i, zs_dup_a, zs_pop_a, zs_dup2, zs_pop2, zs_nop, zs_goto, zs_if_eq, zs_icmp_eq, zs_if_ne, zs_icmp_ne, zs_if_lt, zs_icmp_lt, zs_if_ge, zs_icmp_ge, zs_if_gt, zs_icmp_gt, zs_if_le, zs_icmp_le, zs_getf, zs_putf, zs_gets, zs_alen, zs_iald, zs_cald, zs_lald, zs_aald, zs_iast, zs_cast, zs_last, zs_invstatic, zs_invvirtual, zs_invspecial, zs_ireturn, zs_lreturn, zs_areturn, zs_return, zs_tsw, zs_lsw, zr_zva0, zr_zvas, zr_zvai0, zr_zvais, zr_zvi0, zr_zvis, zr_zvii0, zr_zviis, zr_zvl0, zr_zvls, zr_zvli0, zr_zvlis, zr_zs1_0, zr_zs1_1n, zr_zs1_1i, zr_zs1_1a, zr_zs1_1l, zr_zs1_s, zr_zs2_0, zr_zs2_1n, zr_zs2_1i, zr_zs2_1a, zr_zs2_1l, zr_zs2_s, zr_f0, zr_f1, zr_f2, zr_f3, zr_kp, zr_k0, zr_k1, zr_km1, zr_km2, zr_km4, zr_km8, zr_km16, zr_tp, zr_tn, zr_kl, zr_ki, zr_kil, zr_kii, zr_ov, zr_is, zr_cn, zr_cfi, zr_cfl, zr_cfr, zr_cfo, zr_isi, zr_isl, zr_isc, zr_isr, zr_isn0, zr_isn1, zr_isn2, zr_iso, zr_reti, zr_ctm, zr_cat0, zr_cati, zr_cata, zr_catl, zr_cs0, zr_cs1, zr_cs2, zr_cs3, zr_cs4, zr_cs5, zr_cs6, Nat.reduceLeDiff, Option.toList_none, Option.toList_some, List.nil_append, List.cons_append, Nat.le_refl, true_and, Nat.reduceAdd, Nat.reduceSub, Nat.reduceMul, Nat.reduceEqDiff, if_true, if_false, ite_true, ite_false, reduceIte, List.getElem?_cons_zero, List.getElem?_cons_succ, cS_g0, cS_g1, cS_g14, cS_g15, cS_g16, cS_g17, cS_g18, cS_g19, cS_g20, cS_g21, cS_g22, cS_g23, cS_g24, cS_g25, cS_g26, cS_s0, cS_s14, cS_s15, cS_s17, cS_s18, cS_s19, cS_s20, cS_s21, cS_s22, cS_s23, cS_s25, cS_s26, bI_t, bI_f, bI_eq0, bI_eq, zr_n10, zr_n01, eq_self, decide_eq_true_eq, Decidable.not_not, Classical.not_not, false_implies, true_implies, implies_true, and_true, true_and, not_true_eq_false, not_false_eq_true, zr_fitb, zr_fiti, zty_1_1, zty_2_1, zty_4_1, zty_5_1, zty_5_3, zty_5_4, zty_5_6, List.length_cons, List.length_nil, Nat.reduceLT, List.set_cons_zero, List.set_cons_succ, zr_retb]
  rw [zi_le (by omega) (by omega)]
  exact ⟨fun q => absurd q hx, fun _ => hT (8, xISE) List.mem_cons_self _ _ h⟩
def sp_S_refuseUnlessExact : zSpec := fun vs σ K => ∃ (x : Int32) (w : Nat → Nat) (n : Nat) (tx : Nat → Nat) (tl vx : Nat) (bx : Bool) (vy : Nat) (by_ : Bool) (vr : Nat) (br : Bool) (vs_ vp ve : Nat) (τ : List va_E), vs = [.ref 0, .int x] ∧ σ = cS w n tx tl vx bx vy by_ vr br vs_ vp ve τ ∧ (nI 0 ≤ x ∧ x ≤ nI 4) ∧ K none σ
theorem sr_S_refuseUnlessExact : ∀ vs σ K, sp_S_refuseUnlessExact vs σ K → ∃ a fs r, vs = .ref a :: r ∧ σ[a]? = some (.inr (4, fs)) := by
  rintro vs σ K ⟨x, w, n, tx, tl, vx, bx, vy, by_, vr, br, vs_, vp, ve, τ, rfl, rfl, -⟩
  exact ⟨_, _, _, rfl, rfl⟩
def ct_S_refuseUnlessExact : List (Nat × Nat × zSpec) := [(432, 1, sp_E_isOperation)]
set_option maxRecDepth 100000 in
theorem co_S_refuseUnlessExact : ∀ q ∈ ct_S_refuseUnlessExact, zCok "WideWordStack" r_S_refuseUnlessExact q := by
  intro q hq
  unfold ct_S_refuseUnlessExact at hq
  simp only [List.mem_cons, List.not_mem_nil, or_false] at hq
  rcases hq with rfl
  · exact Or.inr ⟨144, y_E_isOperation, c_E_isOperation, 1, (some .boolean), r_E_isOperation, ⟨rfl, rfl, by decide, by decide⟩, zm_E_isOperation, Or.inl ⟨rfl, l_S_144⟩⟩
set_option maxHeartbeats 4000000 in
set_option maxRecDepth 100000 in
theorem zm_S_refuseUnlessExact : ∀ l vs σ K, sp_S_refuseUnlessExact vs σ K → zMet l y_S_refuseUnlessExact c_S_refuseUnlessExact 2 none r_S_refuseUnlessExact vs σ K := by
  rintro l vs σ K ⟨x, w, n, tx, tl, vx, bx, vy, by_, vr, br, vs_, vp, ve, τ, rfl, rfl, hx, h⟩
  refine zmet_of (own := "WideWordStack") (f := f_S) (kk := kk_S) (t := ct_S_refuseUnlessExact) (g := g_S) (cd := d_S_refuseUnlessExact) (by decide +kernel) rfl fo_S ko_S go_S co_S_refuseUnlessExact k_S_refuseUnlessExact (Nat.le_of_ble_eq_true rfl) ?_
  intro V hV
  show V 0 [some _, some _] [] _
  refine hV.1 0 _ _ _ ?_
  simp -implicitDefEqProofs only [d_S_refuseUnlessExact_0, d_S_refuseUnlessExact_17, t_S_refuseUnlessExact_0, t_S_refuseUnlessExact_17, ct_S_refuseUnlessExact, zs_aload_n, zs_aload, zs_iload_n, zs_iload, zs_lload_n, zs_lload, zs_istore_n, zs_istore, zs_lstore_n, zs_lstore, zs_astore_n, zs_astore, zs_iinc, zs_iconst, zs_bipush, zs_sipush, zs_lconst0, zs_lconst1, zs_ldc2_w, zs_ldc_w, zs_iadd, zs_isub, zs_imul, zs_iand, zs_ior, zs_ixor, zs_ishl, zs_ishr, zs_iushr, zs_idiv, zs_irem, zs_ineg, zs_ladd, zs_lsub, zs_lmul, zs_land, zs_lor, zs_lxor, zs_ldiv, zs_lrem, zs_lcmp, zs_lshl, zs_lshr, zs_lushr, zs_i2l, zs_l2i, zs_i2c, zs_dup_i, zs_pop_i, zs_dup_a, zs_pop_a, zs_dup2, zs_pop2, zs_nop, zs_goto, zs_if_eq, zs_icmp_eq, zs_if_ne, zs_icmp_ne, zs_if_lt, zs_icmp_lt, zs_if_ge, zs_icmp_ge, zs_if_gt, zs_icmp_gt, zs_if_le, zs_icmp_le, zs_getf, zs_putf, zs_gets, zs_alen, zs_iald, zs_cald, zs_lald, zs_aald, zs_iast, zs_cast, zs_last, zs_invstatic, zs_invvirtual, zs_invspecial, zs_ireturn, zs_lreturn, zs_areturn, zs_return, zs_tsw, zs_lsw, zr_zva0, zr_zvas, zr_zvai0, zr_zvais, zr_zvi0, zr_zvis, zr_zvii0, zr_zviis, zr_zvl0, zr_zvls, zr_zvli0, zr_zvlis, zr_zs1_0, zr_zs1_1n, zr_zs1_1i, zr_zs1_1a, zr_zs1_1l, zr_zs1_s, zr_zs2_0, zr_zs2_1n, zr_zs2_1i, zr_zs2_1a, zr_zs2_1l, zr_zs2_s, zr_f0, zr_f1, zr_f2, zr_f3, zr_kp, zr_k0, zr_k1, zr_km1, zr_km2, zr_km4, zr_km8, zr_km16, zr_tp, zr_tn, zr_kl, zr_ki, zr_kil, zr_kii, zr_ov, zr_is, zr_cn, zr_cfi, zr_cfl, zr_cfr, zr_cfo, zr_isi, zr_isl, zr_isc, zr_isr, zr_isn0, zr_isn1, zr_isn2, zr_iso, zr_reti, zr_ctm, zr_cat0, zr_cati, zr_cata, zr_catl, zr_cs0, zr_cs1, zr_cs2, zr_cs3, zr_cs4, zr_cs5, zr_cs6, Nat.reduceLeDiff, Option.toList_none, Option.toList_some, List.nil_append, List.cons_append, Nat.le_refl, true_and, Nat.reduceAdd, Nat.reduceSub, Nat.reduceMul, Nat.reduceEqDiff, if_true, if_false, ite_true, ite_false, reduceIte, List.getElem?_cons_zero, List.getElem?_cons_succ, cS_g0, cS_g1, cS_g14, cS_g15, cS_g16, cS_g17, cS_g18, cS_g19, cS_g20, cS_g21, cS_g22, cS_g23, cS_g24, cS_g25, cS_g26, cS_s0, cS_s14, cS_s15, cS_s17, cS_s18, cS_s19, cS_s20, cS_s21, cS_s22, cS_s23, cS_s25, cS_s26, bI_t, bI_f, bI_eq0, bI_eq, zr_n10, zr_n01, eq_self, decide_eq_true_eq, Decidable.not_not, Classical.not_not, false_implies, true_implies, implies_true, and_true, true_and, not_true_eq_false, not_false_eq_true, zr_fitb, zr_fiti, zty_1_1, zty_2_1, zty_4_1, zty_5_1, zty_5_3, zty_5_4, zty_5_6, List.length_cons, List.length_nil, Nat.reduceLT, List.set_cons_zero, List.set_cons_succ, zr_retb]
  refine ⟨x, rfl, ?_⟩
  simp -implicitDefEqProofs only [d_S_refuseUnlessExact_0, d_S_refuseUnlessExact_17, t_S_refuseUnlessExact_0, t_S_refuseUnlessExact_17, ct_S_refuseUnlessExact, zs_aload_n, zs_aload, zs_iload_n, zs_iload, zs_lload_n, zs_lload, zs_istore_n, zs_istore, zs_lstore_n, zs_lstore, zs_astore_n, zs_astore, zs_iinc, zs_iconst, zs_bipush, zs_sipush, zs_lconst0, zs_lconst1, zs_ldc2_w, zs_ldc_w, zs_iadd, zs_isub, zs_imul, zs_iand, zs_ior, zs_ixor, zs_ishl, zs_ishr, zs_iushr, zs_idiv, zs_irem, zs_ineg, zs_ladd, zs_lsub, zs_lmul, zs_land, zs_lor, zs_lxor, zs_ldiv, zs_lrem, zs_lcmp, zs_lshl, zs_lshr, zs_lushr, zs_i2l, zs_l2i, zs_i2c, zs_dup_i, zs_pop_i, zs_dup_a, zs_pop_a, zs_dup2, zs_pop2, zs_nop, zs_goto, zs_if_eq, zs_icmp_eq, zs_if_ne, zs_icmp_ne, zs_if_lt, zs_icmp_lt, zs_if_ge, zs_icmp_ge, zs_if_gt, zs_icmp_gt, zs_if_le, zs_icmp_le, zs_getf, zs_putf, zs_gets, zs_alen, zs_iald, zs_cald, zs_lald, zs_aald, zs_iast, zs_cast, zs_last, zs_invstatic, zs_invvirtual, zs_invspecial, zs_ireturn, zs_lreturn, zs_areturn, zs_return, zs_tsw, zs_lsw, zr_zva0, zr_zvas, zr_zvai0, zr_zvais, zr_zvi0, zr_zvis, zr_zvii0, zr_zviis, zr_zvl0, zr_zvls, zr_zvli0, zr_zvlis, zr_zs1_0, zr_zs1_1n, zr_zs1_1i, zr_zs1_1a, zr_zs1_1l, zr_zs1_s, zr_zs2_0, zr_zs2_1n, zr_zs2_1i, zr_zs2_1a, zr_zs2_1l, zr_zs2_s, zr_f0, zr_f1, zr_f2, zr_f3, zr_kp, zr_k0, zr_k1, zr_km1, zr_km2, zr_km4, zr_km8, zr_km16, zr_tp, zr_tn, zr_kl, zr_ki, zr_kil, zr_kii, zr_ov, zr_is, zr_cn, zr_cfi, zr_cfl, zr_cfr, zr_cfo, zr_isi, zr_isl, zr_isc, zr_isr, zr_isn0, zr_isn1, zr_isn2, zr_iso, zr_reti, zr_ctm, zr_cat0, zr_cati, zr_cata, zr_catl, zr_cs0, zr_cs1, zr_cs2, zr_cs3, zr_cs4, zr_cs5, zr_cs6, Nat.reduceLeDiff, Option.toList_none, Option.toList_some, List.nil_append, List.cons_append, Nat.le_refl, true_and, Nat.reduceAdd, Nat.reduceSub, Nat.reduceMul, Nat.reduceEqDiff, if_true, if_false, ite_true, ite_false, reduceIte, List.getElem?_cons_zero, List.getElem?_cons_succ, cS_g0, cS_g1, cS_g14, cS_g15, cS_g16, cS_g17, cS_g18, cS_g19, cS_g20, cS_g21, cS_g22, cS_g23, cS_g24, cS_g25, cS_g26, cS_s0, cS_s14, cS_s15, cS_s17, cS_s18, cS_s19, cS_s20, cS_s21, cS_s22, cS_s23, cS_s25, cS_s26, bI_t, bI_f, bI_eq0, bI_eq, zr_n10, zr_n01, eq_self, decide_eq_true_eq, Decidable.not_not, Classical.not_not, false_implies, true_implies, implies_true, and_true, true_and, not_true_eq_false, not_false_eq_true, zr_fitb, zr_fiti, zty_1_1, zty_2_1, zty_4_1, zty_5_1, zty_5_3, zty_5_4, zty_5_6, List.length_cons, List.length_nil, Nat.reduceLT, List.set_cons_zero, List.set_cons_succ, zr_retb]
  refine ⟨fun _ => ?_, fun q => absurd hx q⟩
  refine hV.1 17 _ _ _ ?_
  simp -implicitDefEqProofs only [d_S_refuseUnlessExact_0, d_S_refuseUnlessExact_17, t_S_refuseUnlessExact_0, t_S_refuseUnlessExact_17, ct_S_refuseUnlessExact, zs_aload_n, zs_aload, zs_iload_n, zs_iload, zs_lload_n, zs_lload, zs_istore_n, zs_istore, zs_lstore_n, zs_lstore, zs_astore_n, zs_astore, zs_iinc, zs_iconst, zs_bipush, zs_sipush, zs_lconst0, zs_lconst1, zs_ldc2_w, zs_ldc_w, zs_iadd, zs_isub, zs_imul, zs_iand, zs_ior, zs_ixor, zs_ishl, zs_ishr, zs_iushr, zs_idiv, zs_irem, zs_ineg, zs_ladd, zs_lsub, zs_lmul, zs_land, zs_lor, zs_lxor, zs_ldiv, zs_lrem, zs_lcmp, zs_lshl, zs_lshr, zs_lushr, zs_i2l, zs_l2i, zs_i2c, zs_dup_i, zs_pop_i, zs_dup_a, zs_pop_a, zs_dup2, zs_pop2, zs_nop, zs_goto, zs_if_eq, zs_icmp_eq, zs_if_ne, zs_icmp_ne, zs_if_lt, zs_icmp_lt, zs_if_ge, zs_icmp_ge, zs_if_gt, zs_icmp_gt, zs_if_le, zs_icmp_le, zs_getf, zs_putf, zs_gets, zs_alen, zs_iald, zs_cald, zs_lald, zs_aald, zs_iast, zs_cast, zs_last, zs_invstatic, zs_invvirtual, zs_invspecial, zs_ireturn, zs_lreturn, zs_areturn, zs_return, zs_tsw, zs_lsw, zr_zva0, zr_zvas, zr_zvai0, zr_zvais, zr_zvi0, zr_zvis, zr_zvii0, zr_zviis, zr_zvl0, zr_zvls, zr_zvli0, zr_zvlis, zr_zs1_0, zr_zs1_1n, zr_zs1_1i, zr_zs1_1a, zr_zs1_1l, zr_zs1_s, zr_zs2_0, zr_zs2_1n, zr_zs2_1i, zr_zs2_1a, zr_zs2_1l, zr_zs2_s, zr_f0, zr_f1, zr_f2, zr_f3, zr_kp, zr_k0, zr_k1, zr_km1, zr_km2, zr_km4, zr_km8, zr_km16, zr_tp, zr_tn, zr_kl, zr_ki, zr_kil, zr_kii, zr_ov, zr_is, zr_cn, zr_cfi, zr_cfl, zr_cfr, zr_cfo, zr_isi, zr_isl, zr_isc, zr_isr, zr_isn0, zr_isn1, zr_isn2, zr_iso, zr_reti, zr_ctm, zr_cat0, zr_cati, zr_cata, zr_catl, zr_cs0, zr_cs1, zr_cs2, zr_cs3, zr_cs4, zr_cs5, zr_cs6, Nat.reduceLeDiff, Option.toList_none, Option.toList_some, List.nil_append, List.cons_append, Nat.le_refl, true_and, Nat.reduceAdd, Nat.reduceSub, Nat.reduceMul, Nat.reduceEqDiff, if_true, if_false, ite_true, ite_false, reduceIte, List.getElem?_cons_zero, List.getElem?_cons_succ, cS_g0, cS_g1, cS_g14, cS_g15, cS_g16, cS_g17, cS_g18, cS_g19, cS_g20, cS_g21, cS_g22, cS_g23, cS_g24, cS_g25, cS_g26, cS_s0, cS_s14, cS_s15, cS_s17, cS_s18, cS_s19, cS_s20, cS_s21, cS_s22, cS_s23, cS_s25, cS_s26, bI_t, bI_f, bI_eq0, bI_eq, zr_n10, zr_n01, eq_self, decide_eq_true_eq, Decidable.not_not, Classical.not_not, false_implies, true_implies, implies_true, and_true, true_and, not_true_eq_false, not_false_eq_true, zr_fitb, zr_fiti, zty_1_1, zty_2_1, zty_4_1, zty_5_1, zty_5_3, zty_5_4, zty_5_6, List.length_cons, List.length_nil, Nat.reduceLT, List.set_cons_zero, List.set_cons_succ, zr_retb]
  exact zk0 h
def sx_S_refuseUnlessExact : xSpec := fun vs σ KT => ∃ (x : Int32) (w : Nat → Nat) (n : Nat) (tx : Nat → Nat) (tl vx : Nat) (bx : Bool) (vy : Nat) (by_ : Bool) (vr : Nat) (br : Bool) (vs_ vp ve : Nat) (τ : List va_E), vs = [.ref 0, .int x] ∧ σ = cS w n tx tl vx bx vy by_ vr br vs_ vp ve τ ∧ ¬ (nI 0 ≤ x ∧ x ≤ nI 4) ∧ KT xIAE σ
theorem sxr_S_refuseUnlessExact : ∀ vs σ KT, sx_S_refuseUnlessExact vs σ KT → ∃ a fs r, vs = .ref a :: r ∧ σ[a]? = some (.inr (4, fs)) := by
  rintro vs σ KT ⟨x, w, n, tx, tl, vx, bx, vy, by_, vr, br, vs_, vp, ve, τ, rfl, rfl, -⟩
  exact ⟨_, _, _, rfl, rfl⟩
def tx_S_refuseUnlessExact_0 : List Instr := [.iload_n 1, .invokestatic 144, .ifCond .ne 13, .nop]
def tx_S_refuseUnlessExact_7 : List Instr := [.new 94, .dup, .ldc 202, .invokespecial 98, .athrow]
def tx_S_refuseUnlessExact_17 : List Instr := [.return_]
def dx_S_refuseUnlessExact : Nat → List Instr := fun pc => match pc with
  | 0 => tx_S_refuseUnlessExact_0
  | 17 => tx_S_refuseUnlessExact_17
  | _ => []
theorem dx_S_refuseUnlessExact_0 : dx_S_refuseUnlessExact 0 = tx_S_refuseUnlessExact_0 := rfl
theorem dx_S_refuseUnlessExact_17 : dx_S_refuseUnlessExact 17 = tx_S_refuseUnlessExact_17 := rfl
set_option maxRecDepth 100000 in
theorem kx_S_refuseUnlessExact : ∀ pc, zok c_S_refuseUnlessExact 2 pc (dx_S_refuseUnlessExact pc) = true := by
  intro pc
  unfold dx_S_refuseUnlessExact
  split
  · decide +kernel
  · decide +kernel
  · rfl
def rx_S_refuseUnlessExact : Room := { frames := 6, cells := 1, slots := 6, locals := 104 }
set_option maxRecDepth 100000 in
theorem cor_S_refuseUnlessExact : ∀ q ∈ ct_S_refuseUnlessExact, zCok "WideWordStack" rx_S_refuseUnlessExact q := by
  intro q hq
  unfold ct_S_refuseUnlessExact at hq
  simp only [List.mem_cons, List.not_mem_nil, or_false] at hq
  rcases hq with rfl
  · exact Or.inr ⟨144, y_E_isOperation, c_E_isOperation, 1, (some .boolean), r_E_isOperation, ⟨rfl, rfl, by decide, by decide⟩, zm_E_isOperation, Or.inl ⟨rfl, l_S_144⟩⟩
def ctx_S_refuseUnlessExact : List (Nat × Nat × xSpec) := []
theorem cox_S_refuseUnlessExact : ∀ q ∈ ctx_S_refuseUnlessExact, zCokX "WideWordStack" rx_S_refuseUnlessExact q := by
  intro q hq
  unfold ctx_S_refuseUnlessExact at hq
  cases hq
def ths_S_refuseUnlessExact : List (Nat × String) := [(7, xIAE)]
set_option maxRecDepth 100000 in
theorem tho_S_refuseUnlessExact : ∀ q ∈ ths_S_refuseUnlessExact, zSite "WideWordStack" c_S_refuseUnlessExact q.1 q.2 := by
  intro q hq
  unfold ths_S_refuseUnlessExact at hq
  simp only [List.mem_cons, List.not_mem_nil, or_false] at hq
  rcases hq with rfl
  · exact ⟨94, 202, 98, _, zwi 479 rfl rfl, zwi 480 rfl rfl, zwi 67 rfl rfl, List.mem_append_left _ (List.mem_filter.mpr ⟨List.mem_of_getElem? (i := 608) rfl, rfl⟩), zown_iae, by decide +kernel, by decide +kernel, by decide +kernel, by decide +kernel, by decide +kernel⟩
set_option maxHeartbeats 4000000 in
set_option maxRecDepth 100000 in
theorem zt_S_refuseUnlessExact : ∀ l : Launch, l.stackTraces = false → ∀ vs σ KT, sx_S_refuseUnlessExact vs σ KT → zMetX l y_S_refuseUnlessExact c_S_refuseUnlessExact 2 none rx_S_refuseUnlessExact vs σ KT := by
  rintro l hl vs σ KT ⟨x, w, n, tx, tl, vx, bx, vy, by_, vr, br, vs_, vp, ve, τ, rfl, rfl, hx, h⟩
  refine zmetX_of (own := "WideWordStack") (f := f_S) (kk := kk_S) (t := ct_S_refuseUnlessExact) (tx := ctx_S_refuseUnlessExact) (th := ths_S_refuseUnlessExact) (g := g_S) (cd := dx_S_refuseUnlessExact) hl (by decide +kernel) rfl fo_S ko_S go_S cor_S_refuseUnlessExact cox_S_refuseUnlessExact tho_S_refuseUnlessExact kx_S_refuseUnlessExact (Nat.le_of_ble_eq_true rfl) ⟨rfl, rfl, by decide, by decide⟩ ?_
  intro V hV hT
  show V 0 [some _, some _] [] _
  refine hV.1 0 _ _ _ ?_
  simp -implicitDefEqProofs only [dx_S_refuseUnlessExact_0, dx_S_refuseUnlessExact_17, tx_S_refuseUnlessExact_0, tx_S_refuseUnlessExact_17, ctx_S_refuseUnlessExact, zr_cX, zr_cx0, zr_cxm, zr_cxx1, zr_cxx2, zr_cxx3, zr_cxx4, zr_cxx5, or_false, false_or, or_self, zr_ct0, ct_S_refuseUnlessExact, zs_aload_n, zs_aload, zs_iload_n, zs_iload, zs_lload_n, zs_lload, zs_istore_n, zs_istore, zs_lstore_n, zs_lstore, zs_astore_n, zs_astore, zs_iinc, zs_iconst, zs_bipush, zs_sipush, zs_lconst0, zs_lconst1, zs_ldc2_w, zs_ldc_w, zs_iadd, zs_isub, zs_imul, zs_iand, zs_ior, zs_ixor, zs_ishl, zs_ishr, zs_iushr, zs_idiv, zs_irem, zs_ineg, zs_ladd, zs_lsub, zs_lmul, zs_land, zs_lor, zs_lxor, zs_ldiv, zs_lrem, zs_lcmp, zs_lshl, zs_lshr, zs_lushr, zs_i2l, zs_l2i, zs_i2c, zs_dup_i, zs_pop_i, zs_dup_a, zs_pop_a, zs_dup2, zs_pop2, zs_nop, zs_goto, zs_if_eq, zs_icmp_eq, zs_if_ne, zs_icmp_ne, zs_if_lt, zs_icmp_lt, zs_if_ge, zs_icmp_ge, zs_if_gt, zs_icmp_gt, zs_if_le, zs_icmp_le, zs_getf, zs_putf, zs_gets, zs_alen, zs_iald, zs_cald, zs_lald, zs_aald, zs_iast, zs_cast, zs_last, zs_invstatic, zs_invvirtual, zs_invspecial, zs_ireturn, zs_lreturn, zs_areturn, zs_return, zs_tsw, zs_lsw, zr_zva0, zr_zvas, zr_zvai0, zr_zvais, zr_zvi0, zr_zvis, zr_zvii0, zr_zviis, zr_zvl0, zr_zvls, zr_zvli0, zr_zvlis, zr_zs1_0, zr_zs1_1n, zr_zs1_1i, zr_zs1_1a, zr_zs1_1l, zr_zs1_s, zr_zs2_0, zr_zs2_1n, zr_zs2_1i, zr_zs2_1a, zr_zs2_1l, zr_zs2_s, zr_f0, zr_f1, zr_f2, zr_f3, zr_kp, zr_k0, zr_k1, zr_km1, zr_km2, zr_km4, zr_km8, zr_km16, zr_tp, zr_tn, zr_kl, zr_ki, zr_kil, zr_kii, zr_ov, zr_is, zr_cn, zr_cfi, zr_cfl, zr_cfr, zr_cfo, zr_isi, zr_isl, zr_isc, zr_isr, zr_isn0, zr_isn1, zr_isn2, zr_iso, zr_reti, zr_ctm, zr_cat0, zr_cati, zr_cata, zr_catl, zr_cs0, zr_cs1, zr_cs2, zr_cs3, zr_cs4, zr_cs5, zr_cs6, Nat.reduceLeDiff, Option.toList_none, Option.toList_some, List.nil_append, List.cons_append, Nat.le_refl, true_and, Nat.reduceAdd, Nat.reduceSub, Nat.reduceMul, Nat.reduceEqDiff, if_true, if_false, ite_true, ite_false, reduceIte, List.getElem?_cons_zero, List.getElem?_cons_succ, cS_g0, cS_g1, cS_g14, cS_g15, cS_g16, cS_g17, cS_g18, cS_g19, cS_g20, cS_g21, cS_g22, cS_g23, cS_g24, cS_g25, cS_g26, cS_s0, cS_s14, cS_s15, cS_s17, cS_s18, cS_s19, cS_s20, cS_s21, cS_s22, cS_s23, cS_s25, cS_s26, bI_t, bI_f, bI_eq0, bI_eq, zr_n10, zr_n01, eq_self, decide_eq_true_eq, Decidable.not_not, Classical.not_not, false_implies, true_implies, implies_true, and_true, true_and, not_true_eq_false, not_false_eq_true, zr_fitb, zr_fiti, zty_1_1, zty_2_1, zty_4_1, zty_5_1, zty_5_3, zty_5_4, zty_5_6, List.length_cons, List.length_nil, Nat.reduceLT, List.set_cons_zero, List.set_cons_succ, zr_retb]
  refine ⟨x, rfl, ?_⟩
  simp -implicitDefEqProofs only [dx_S_refuseUnlessExact_0, dx_S_refuseUnlessExact_17, tx_S_refuseUnlessExact_0, tx_S_refuseUnlessExact_17, ctx_S_refuseUnlessExact, zr_cX, zr_cx0, zr_cxm, zr_cxx1, zr_cxx2, zr_cxx3, zr_cxx4, zr_cxx5, or_false, false_or, or_self, zr_ct0, ct_S_refuseUnlessExact, zs_aload_n, zs_aload, zs_iload_n, zs_iload, zs_lload_n, zs_lload, zs_istore_n, zs_istore, zs_lstore_n, zs_lstore, zs_astore_n, zs_astore, zs_iinc, zs_iconst, zs_bipush, zs_sipush, zs_lconst0, zs_lconst1, zs_ldc2_w, zs_ldc_w, zs_iadd, zs_isub, zs_imul, zs_iand, zs_ior, zs_ixor, zs_ishl, zs_ishr, zs_iushr, zs_idiv, zs_irem, zs_ineg, zs_ladd, zs_lsub, zs_lmul, zs_land, zs_lor, zs_lxor, zs_ldiv, zs_lrem, zs_lcmp, zs_lshl, zs_lshr, zs_lushr, zs_i2l, zs_l2i, zs_i2c, zs_dup_i, zs_pop_i, zs_dup_a, zs_pop_a, zs_dup2, zs_pop2, zs_nop, zs_goto, zs_if_eq, zs_icmp_eq, zs_if_ne, zs_icmp_ne, zs_if_lt, zs_icmp_lt, zs_if_ge, zs_icmp_ge, zs_if_gt, zs_icmp_gt, zs_if_le, zs_icmp_le, zs_getf, zs_putf, zs_gets, zs_alen, zs_iald, zs_cald, zs_lald, zs_aald, zs_iast, zs_cast, zs_last, zs_invstatic, zs_invvirtual, zs_invspecial, zs_ireturn, zs_lreturn, zs_areturn, zs_return, zs_tsw, zs_lsw, zr_zva0, zr_zvas, zr_zvai0, zr_zvais, zr_zvi0, zr_zvis, zr_zvii0, zr_zviis, zr_zvl0, zr_zvls, zr_zvli0, zr_zvlis, zr_zs1_0, zr_zs1_1n, zr_zs1_1i, zr_zs1_1a, zr_zs1_1l, zr_zs1_s, zr_zs2_0, zr_zs2_1n, zr_zs2_1i, zr_zs2_1a, zr_zs2_1l, zr_zs2_s, zr_f0, zr_f1, zr_f2, zr_f3, zr_kp, zr_k0, zr_k1, zr_km1, zr_km2, zr_km4, zr_km8, zr_km16, zr_tp, zr_tn, zr_kl, zr_ki, zr_kil, zr_kii, zr_ov, zr_is, zr_cn, zr_cfi, zr_cfl, zr_cfr, zr_cfo, zr_isi, zr_isl, zr_isc, zr_isr, zr_isn0, zr_isn1, zr_isn2, zr_iso, zr_reti, zr_ctm, zr_cat0, zr_cati, zr_cata, zr_catl, zr_cs0, zr_cs1, zr_cs2, zr_cs3, zr_cs4, zr_cs5, zr_cs6, Nat.reduceLeDiff, Option.toList_none, Option.toList_some, List.nil_append, List.cons_append, Nat.le_refl, true_and, Nat.reduceAdd, Nat.reduceSub, Nat.reduceMul, Nat.reduceEqDiff, if_true, if_false, ite_true, ite_false, reduceIte, List.getElem?_cons_zero, List.getElem?_cons_succ, cS_g0, cS_g1, cS_g14, cS_g15, cS_g16, cS_g17, cS_g18, cS_g19, cS_g20, cS_g21, cS_g22, cS_g23, cS_g24, cS_g25, cS_g26, cS_s0, cS_s14, cS_s15, cS_s17, cS_s18, cS_s19, cS_s20, cS_s21, cS_s22, cS_s23, cS_s25, cS_s26, bI_t, bI_f, bI_eq0, bI_eq, zr_n10, zr_n01, eq_self, decide_eq_true_eq, Decidable.not_not, Classical.not_not, false_implies, true_implies, implies_true, and_true, true_and, not_true_eq_false, not_false_eq_true, zr_fitb, zr_fiti, zty_1_1, zty_2_1, zty_4_1, zty_5_1, zty_5_3, zty_5_4, zty_5_6, List.length_cons, List.length_nil, Nat.reduceLT, List.set_cons_zero, List.set_cons_succ, zr_retb]
  exact ⟨fun q => absurd q hx, fun _ => hT (7, xIAE) List.mem_cons_self _ _ h⟩
