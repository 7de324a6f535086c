/-! The law from its entry -/
theorem zts_of {s : State} {args : Array Value} (h : ∀ w ∈ lw_tbl, w.before args s = true) : ∀ w ∈ zwt, w.before args s = true := fun w hw => h w (zwt_in hw)
set_option maxRecDepth 100000 in
theorem zK_start {s : State} {args : Array Value} (h : ∀ w ∈ lw_tbl, w.before args s = true) : ∃ (D : va_G) (cA : Nat → ClassId), va_K D zcl (ztys cA) s := by
  have hz := zts_of h
  obtain ⟨c0, i0, u0⟩ := u_known hz (zcl_ok 0 (by decide) _ rfl).1 (hz _ (zwi 99 rfl rfl))
  obtain ⟨c1, i1, u1⟩ := u_known hz (zcl_ok 1 (by decide) _ rfl).1 (hz _ (zwi 84 rfl rfl))
  obtain ⟨c2, i2, u2⟩ := u_known hz (zcl_ok 2 (by decide) _ rfl).1 (hz _ (zwi 105 rfl rfl))
  obtain ⟨c3, i3, u3⟩ := u_known hz (zcl_ok 3 (by decide) _ rfl).1 (hz _ (zwi 131 rfl rfl))
  obtain ⟨c4, i4, u4⟩ := u_known hz (zcl_ok 4 (by decide) _ rfl).1 (hz _ (zwi 74 rfl rfl))
  obtain ⟨c5, i5, u5⟩ := u_known hz (zcl_ok 5 (by decide) _ rfl).1 (hz _ (zwi 737 rfl rfl))
  obtain ⟨a0, ka0, co0, f0, g0, h0⟩ := Cond.arrayClass_spec (hz _ (zwi 764 rfl rfl : Cond.arrayClass .int ∈ zwt))
  obtain ⟨a1, ka1, co1, f1, g1, h1⟩ := Cond.arrayClass_spec (hz _ (zwi 96 rfl rfl : Cond.arrayClass .long ∈ zwt))
  obtain ⟨a2, ka2, co2, f2, g2, h2⟩ := Cond.arrayClass_spec (hz _ (zwi 97 rfl rfl : Cond.arrayClass .char ∈ zwt))
  obtain ⟨co3, a3, ka3, fc3, g3, h3, f3⟩ := Cond.arrayOver_specA (t := .long) (h _ (List.mem_of_getElem? (i := 82) rfl))
  refine ⟨(fun c => match c with | 0 => c0 | 1 => c1 | 2 => c2 | 3 => c3 | 4 => c4 | _ => c5, fun c => match c with | 0 => i0 | 1 => i1 | 2 => i2 | 3 => i3 | 4 => i4 | _ => i5), (fun k => match k with | 0 => a0 | 1 => a1 | 2 => a2 | _ => a3), fun c q hq => ?_, fun k q hk => ?_⟩
  · have hl := zcl_lt hq
    rcases (show c = 0 ∨ c = 1 ∨ c = 2 ∨ c = 3 ∨ c = 4 ∨ c = 5 by omega) with rfl | rfl | rfl | rfl | rfl | rfl <;> cases hq
    · exact u0
    · exact u1
    · exact u2
    · exact u3
    · exact u4
    · exact u5
  · have hl : k < 4 := (List.getElem?_eq_some_iff.mp hk).1
    rcases (show k = 0 ∨ k = 1 ∨ k = 2 ∨ k = 3 by omega) with rfl | rfl | rfl | rfl <;> cases hk
    · exact ⟨fun n z => ⟨fun k h => (by cases h), ka0, g0, co0, h0⟩, f0⟩
    · exact ⟨fun n z => ⟨fun k h => (by cases h), ka1, g1, co1, h1⟩, f1⟩
    · exact ⟨fun n z => ⟨fun k h => (by cases h), ka2, g2, co2, h2⟩, f2⟩
    · exact ⟨fun n z => ⟨fun k h => (by cases h), ka3, g3, co3, h3⟩, f3⟩
theorem zeql {args : Array Value} {s : State} {t : Term} {z : Int64} (h : (Cond.eq t (.long z)).before args s = true) : t.eval args s none [] s = some (.long z) := by
  cases hv : t.eval args s none [] s with
  | none => simp [Cond.before, Cond.holds, Cond.value, hv] at h
  | some w =>
    cases w <;> simp [Cond.before, Cond.holds, Cond.value, Term.eval, hv] at h
    rw [h]
set_option maxRecDepth 100000 in
theorem zst_SIGNED_END {s : State} {args : Array Value} (h : ∀ w ∈ lw_tbl, w.before args s = true) (hg : ∀ w ∈ flatC (Jvm.Cond.and given_1 narrow_1), w.before args s = true) {A : Nat → Prop} (hA : ∀ a : Nat, a < s.heap.size → ¬ A a) : ∃ t, va_T .long t 16 (fun j => .long (zseF j)) A s s.heap ∧ va_Z "WideWordStack$Whole" "SIGNED_END" "[J" (.ref t) A s s.heap := by
  have hz := zts_of h
  obtain ⟨t, ht, hT⟩ := va_Tof (tm := (Term.static "WideWordStack$Whole" "SIGNED_END" "[J")) (ty := .long) (N := 16) (f := fun j => .long (zseF j)) (by decide) (hg (Cond.arrayOf (Term.static "WideWordStack$Whole" "SIGNED_END" "[J") .long) (by decide +kernel)) (va_eqt (z := 16) (hg (Cond.eq (Term.length (Term.static "WideWordStack$Whole" "SIGNED_END" "[J")) (Term.int 16)) (by decide +kernel))) (fun j hj => by
    rcases (show j = 0 ∨ j = 1 ∨ j = 2 ∨ j = 3 ∨ j = 4 ∨ j = 5 ∨ j = 6 ∨ j = 7 ∨ j = 8 ∨ j = 9 ∨ j = 10 ∨ j = 11 ∨ j = 12 ∨ j = 13 ∨ j = 14 ∨ j = 15 by omega) with rfl | rfl | rfl | rfl | rfl | rfl | rfl | rfl | rfl | rfl | rfl | rfl | rfl | rfl | rfl | rfl
    · exact zeql (hg (Cond.eq (Term.elem (Term.static "WideWordStack$Whole" "SIGNED_END" "[J") (Term.int 0)) (Term.long 0)) (by decide +kernel))
    · exact zeql (hg (Cond.eq (Term.elem (Term.static "WideWordStack$Whole" "SIGNED_END" "[J") (Term.int 1)) (Term.long 0)) (by decide +kernel))
    · exact zeql (hg (Cond.eq (Term.elem (Term.static "WideWordStack$Whole" "SIGNED_END" "[J") (Term.int 2)) (Term.long 0)) (by decide +kernel))
    · exact zeql (hg (Cond.eq (Term.elem (Term.static "WideWordStack$Whole" "SIGNED_END" "[J") (Term.int 3)) (Term.long 0)) (by decide +kernel))
    · exact zeql (hg (Cond.eq (Term.elem (Term.static "WideWordStack$Whole" "SIGNED_END" "[J") (Term.int 4)) (Term.long 0)) (by decide +kernel))
    · exact zeql (hg (Cond.eq (Term.elem (Term.static "WideWordStack$Whole" "SIGNED_END" "[J") (Term.int 5)) (Term.long 0)) (by decide +kernel))
    · exact zeql (hg (Cond.eq (Term.elem (Term.static "WideWordStack$Whole" "SIGNED_END" "[J") (Term.int 6)) (Term.long 0)) (by decide +kernel))
    · exact zeql (hg (Cond.eq (Term.elem (Term.static "WideWordStack$Whole" "SIGNED_END" "[J") (Term.int 7)) (Term.long 2147483648)) (by decide +kernel))
    · exact zeql (hg (Cond.eq (Term.elem (Term.static "WideWordStack$Whole" "SIGNED_END" "[J") (Term.int 8)) (Term.long 0)) (by decide +kernel))
    · exact zeql (hg (Cond.eq (Term.elem (Term.static "WideWordStack$Whole" "SIGNED_END" "[J") (Term.int 9)) (Term.long 0)) (by decide +kernel))
    · exact zeql (hg (Cond.eq (Term.elem (Term.static "WideWordStack$Whole" "SIGNED_END" "[J") (Term.int 10)) (Term.long 0)) (by decide +kernel))
    · exact zeql (hg (Cond.eq (Term.elem (Term.static "WideWordStack$Whole" "SIGNED_END" "[J") (Term.int 11)) (Term.long 0)) (by decide +kernel))
    · exact zeql (hg (Cond.eq (Term.elem (Term.static "WideWordStack$Whole" "SIGNED_END" "[J") (Term.int 12)) (Term.long 0)) (by decide +kernel))
    · exact zeql (hg (Cond.eq (Term.elem (Term.static "WideWordStack$Whole" "SIGNED_END" "[J") (Term.int 13)) (Term.long 0)) (by decide +kernel))
    · exact zeql (hg (Cond.eq (Term.elem (Term.static "WideWordStack$Whole" "SIGNED_END" "[J") (Term.int 14)) (Term.long 0)) (by decide +kernel))
    · exact zeql (hg (Cond.eq (Term.elem (Term.static "WideWordStack$Whole" "SIGNED_END" "[J") (Term.int 15)) (Term.long 0)) (by decide +kernel))) hA
  exact ⟨t, hT, va_Zof (h _ (List.mem_of_getElem? (i := 289) rfl)) (hz _ (zwi 55 rfl rfl)) ht hA⟩
set_option maxRecDepth 100000 in
theorem zst_UNSIGNED_END {s : State} {args : Array Value} (h : ∀ w ∈ lw_tbl, w.before args s = true) (hg : ∀ w ∈ flatC (Jvm.Cond.and given_1 narrow_1), w.before args s = true) {A : Nat → Prop} (hA : ∀ a : Nat, a < s.heap.size → ¬ A a) : ∃ t, va_T .long t 16 (fun j => .long (zueF j)) A s s.heap ∧ va_Z "WideWordStack$Whole" "UNSIGNED_END" "[J" (.ref t) A s s.heap := by
  have hz := zts_of h
  obtain ⟨t, ht, hT⟩ := va_Tof (tm := (Term.static "WideWordStack$Whole" "UNSIGNED_END" "[J")) (ty := .long) (N := 16) (f := fun j => .long (zueF j)) (by decide) (hg (Cond.arrayOf (Term.static "WideWordStack$Whole" "UNSIGNED_END" "[J") .long) (by decide +kernel)) (va_eqt (z := 16) (hg (Cond.eq (Term.length (Term.static "WideWordStack$Whole" "UNSIGNED_END" "[J")) (Term.int 16)) (by decide +kernel))) (fun j hj => by
    rcases (show j = 0 ∨ j = 1 ∨ j = 2 ∨ j = 3 ∨ j = 4 ∨ j = 5 ∨ j = 6 ∨ j = 7 ∨ j = 8 ∨ j = 9 ∨ j = 10 ∨ j = 11 ∨ j = 12 ∨ j = 13 ∨ j = 14 ∨ j = 15 by omega) with rfl | rfl | rfl | rfl | rfl | rfl | rfl | rfl | rfl | rfl | rfl | rfl | rfl | rfl | rfl | rfl
    · exact zeql (hg (Cond.eq (Term.elem (Term.static "WideWordStack$Whole" "UNSIGNED_END" "[J") (Term.int 0)) (Term.long 0)) (by decide +kernel))
    · exact zeql (hg (Cond.eq (Term.elem (Term.static "WideWordStack$Whole" "UNSIGNED_END" "[J") (Term.int 1)) (Term.long 0)) (by decide +kernel))
    · exact zeql (hg (Cond.eq (Term.elem (Term.static "WideWordStack$Whole" "UNSIGNED_END" "[J") (Term.int 2)) (Term.long 0)) (by decide +kernel))
    · exact zeql (hg (Cond.eq (Term.elem (Term.static "WideWordStack$Whole" "UNSIGNED_END" "[J") (Term.int 3)) (Term.long 0)) (by decide +kernel))
    · exact zeql (hg (Cond.eq (Term.elem (Term.static "WideWordStack$Whole" "UNSIGNED_END" "[J") (Term.int 4)) (Term.long 0)) (by decide +kernel))
    · exact zeql (hg (Cond.eq (Term.elem (Term.static "WideWordStack$Whole" "UNSIGNED_END" "[J") (Term.int 5)) (Term.long 0)) (by decide +kernel))
    · exact zeql (hg (Cond.eq (Term.elem (Term.static "WideWordStack$Whole" "UNSIGNED_END" "[J") (Term.int 6)) (Term.long 0)) (by decide +kernel))
    · exact zeql (hg (Cond.eq (Term.elem (Term.static "WideWordStack$Whole" "UNSIGNED_END" "[J") (Term.int 7)) (Term.long 0)) (by decide +kernel))
    · exact zeql (hg (Cond.eq (Term.elem (Term.static "WideWordStack$Whole" "UNSIGNED_END" "[J") (Term.int 8)) (Term.long 1)) (by decide +kernel))
    · exact zeql (hg (Cond.eq (Term.elem (Term.static "WideWordStack$Whole" "UNSIGNED_END" "[J") (Term.int 9)) (Term.long 0)) (by decide +kernel))
    · exact zeql (hg (Cond.eq (Term.elem (Term.static "WideWordStack$Whole" "UNSIGNED_END" "[J") (Term.int 10)) (Term.long 0)) (by decide +kernel))
    · exact zeql (hg (Cond.eq (Term.elem (Term.static "WideWordStack$Whole" "UNSIGNED_END" "[J") (Term.int 11)) (Term.long 0)) (by decide +kernel))
    · exact zeql (hg (Cond.eq (Term.elem (Term.static "WideWordStack$Whole" "UNSIGNED_END" "[J") (Term.int 12)) (Term.long 0)) (by decide +kernel))
    · exact zeql (hg (Cond.eq (Term.elem (Term.static "WideWordStack$Whole" "UNSIGNED_END" "[J") (Term.int 13)) (Term.long 0)) (by decide +kernel))
    · exact zeql (hg (Cond.eq (Term.elem (Term.static "WideWordStack$Whole" "UNSIGNED_END" "[J") (Term.int 14)) (Term.long 0)) (by decide +kernel))
    · exact zeql (hg (Cond.eq (Term.elem (Term.static "WideWordStack$Whole" "UNSIGNED_END" "[J") (Term.int 15)) (Term.long 0)) (by decide +kernel))) hA
  exact ⟨t, hT, va_Zof (h _ (List.mem_of_getElem? (i := 287) rfl)) (hz _ (zwi 55 rfl rfl)) ht hA⟩
theorem zsr_start {s : State} {args : Array Value} {n d : String} {A : Nat → Prop} (hl : (Cond.laysStatic Bundle.tN n d).before args s = true) (hr : (Cond.isRef (.static Bundle.tN n d)).before args s = true) (hA : ∀ a : Nat, a < s.heap.size → ¬ A a) : zSR n d A s := by
  obtain ⟨c, k, i, f, a, cell, hc, hi, hst, ha, hcell, hs, hcls, hlt, hty⟩ := Cond.laysStatic_spec hl
  obtain ⟨v, hv, hvr⟩ := Cond.isRef_spec hr
  obtain ⟨-, a', cell', ha', hcell', -, hslot⟩ := Term.static_spec hi hv
  cases ha.symm.trans ha'
  cases hcell.symm.trans hcell'
  exact ⟨c, k, i, f, a, cell, v, hc, hi, hst, ha, hcell, hs, hcls, hlt, hty, hslot, hvr, hA a (Array.getElem?_eq_some_iff.mp hcell).1⟩
set_option maxRecDepth 100000 in
theorem zts_start {s : State} {args : Array Value} (h : ∀ w ∈ lw_tbl, w.before args s = true) (hg : ∀ w ∈ flatC (Jvm.Cond.and given_1 narrow_1), w.before args s = true) {A : Nat → Prop} (hA : ∀ a : Nat, a < s.heap.size → ¬ A a) : zTS A s := by
  refine ⟨fun w hw => ?_, zsr_start (h _ (List.mem_of_getElem? (i := 357) rfl)) (hg _ (by decide +kernel)) hA, zsr_start (h _ (List.mem_of_getElem? (i := 359) rfl)) (hg _ (by decide +kernel)) hA⟩
  rcases List.mem_append.mp hw with h1 | h1
  · exact zxk_go (zxw_k hw) (State.WarmedH.refl s) (h w (List.mem_filter.mp h1).1)
  · refine zxk_go (a := args) (zxw_k hw) (State.WarmedH.refl s) ?_
    simp only [zxn, List.mem_cons, List.not_mem_nil, or_false] at h1
    rcases h1 with rfl | rfl | rfl | rfl
    · exact hg _ (by decide +kernel)
    · exact hg _ (by decide +kernel)
    · exact hg _ (by decide +kernel)
    · exact hg _ (by decide +kernel)
theorem LR0 (n : Nat) : LR n 0 = .inl (1, n, .inr (.inl (fun _ => 0))) := by
  show (Sum.inl (1, n, Sum.inr (Sum.inl (fun j => lN (dg 4294967296 0 j)))) : va_E) = _
  simp only [dg_zero]
  rfl
/-- the store as the law's loop finds it -/
theorem zs_start : zsM1 ++ [zA 1 1] = mS (cS (fun _ => 0) 0 (fun _ => 0) 0 0 false 0 false 0 false 0 0 0 []) 0 (fun _ => 0) (fun _ => 0) 0 0 (fun _ => 0) false [LO (fun _ => 0)] := by
  have e1 : zRow0 = LR 8 0 := (LR0 8).symm
  have e2 : zA 1 16 = LR 16 0 := (LR0 16).symm
  have e3 : zA 1 8 = LR 8 0 := (LR0 8).symm
  have e4 : zA 0 384 = ID 384 (skf (fun _ => 0)) := by
    show (Sum.inl (0, 384, Sum.inl (fun _ => 0)) : va_E) = Sum.inl (0, 384, Sum.inl (fun j => nI (skf (fun _ => 0) j)))
    have : (fun j => nI (skf (fun _ => 0) j)) = fun _ => (0 : Int32) := by
      funext j
      unfold skf
      rw [dg_zero]
      rfl
    rw [this]
  have e5 : zA 0 490 = ID 490 (rof (fun _ => 0)) := by
    show (Sum.inl (0, 490, Sum.inl (fun _ => 0)) : va_E) = Sum.inl (0, 490, Sum.inl (fun j => nI (rof (fun _ => 0) j)))
    have : (fun j => nI (rof (fun _ => 0) j)) = fun _ => (0 : Int32) := by
      funext j
      unfold rof
      rw [dg_zero]
      rfl
    rw [this]
  unfold zsM1
  rw [e1, e2, e3, e4, e5]
  rfl
theorem lInv_start : lInv (zsM1 ++ [zA 1 1]) := ⟨_, _, _, _, _, _, _, _, _, _, _, _, _, _, _, _, _, _, _, zs_start, by decide, fun _ _ => Nat.pow_pos (by decide), fun _ _ => Nat.pow_pos (by decide), fun _ _ => rfl, by decide, fun _ _ => rfl, fun _ _ => by decide, Nat.pow_pos (by decide)⟩
set_option maxHeartbeats 4000000 in
set_option maxRecDepth 100000 in
theorem whole_start {p : Program} {e : Env} {s : State} {m : MethodId} {below : List Frame} {meth : Method} {c : Code} (l : Launch) (hl : l.stackTraces = false) {b L : Nat} {xs : Nat → Int32} (hL : L ≤ 4608) (C0 : lw_At p s m meth c b L xs) : W p l e room_1 s m #[Value.ref b] below meth c s.heap [] 0 0 (lw_Z below #[Value.ref b] s) (entryFrame m ([Value.ref b] : List Value).toArray 8) := by
  obtain ⟨hx, hbc, hr, hml, hown, htb, hX, hb, hlocks, hgv⟩ := C0
  have hg := flat_of_before _ hgv
  obtain ⟨A, hAe⟩ : ∃ A : Nat → Prop, A = fun q => s.heap.size ≤ q := ⟨_, rfl⟩
  have hA0 : ∀ a : Nat, a < s.heap.size → ¬ A a := fun a h => by rw [hAe]; exact Nat.not_le.mpr h
  have hA : ∀ q : Nat, s.heap.size ≤ q → A q := fun q h => by rw [hAe]; exact h
  obtain ⟨D, cA, hK⟩ := zK_start htb
  obtain ⟨t1, hT1, hZ1⟩ := zst_SIGNED_END htb hg hA0
  obtain ⟨t2, hT2, hZ2⟩ := zst_UNSIGNED_END htb hg hA0
  have hTS := zts_start htb hg hA0
  have hAO : zAO s := htb _ (List.mem_of_getElem? (i := 82) rfl)
  obtain ⟨ad0, had⟩ : ∃ ad0 : Nat → Nat, ad0 = fun i => if i = 1000 then t1 else if i = 1001 then t2 else b := ⟨_, rfl⟩
  have d0 : ad0 1000 = t1 := by rw [had]; rfl
  have d1 : ad0 1001 = t2 := by rw [had]; rfl
  have d2 : ad0 1002 = b := by rw [had]; rfl
  have hST : zST ad0 A s := by unfold zST; rw [d0, d1]; exact ⟨hT1, hT2, hZ1, hZ2⟩
  have cx : zCx p s m #[Value.ref b] c code "WideWordStackLaw" D cA A 8 := ⟨hx, hbc, hml, hown, zts_of htb, hK, hA⟩
  have key : zCV p l e room_1 s m #[Value.ref b] below meth c (lw_Z below #[Value.ref b] s) D cA A 8 ad0 0 ad0 0 0 0 [some (.ref 1002), none, none, none, none, none, none, none] [] [] := by
    refine vc_new (ci := 4) (N := 6) (fs := [.null, .int (nI 0), .null, .null, .null, .null]) cx (by decide +kernel) (zwi 73 rfl rfl) (zwi 74 rfl rfl) (zwi 52 rfl rfl) rfl (by decide) (fun _ => rfl) (by decide) (by decide) (zBd_of rfl) (by decide) (by decide) ?_
    intro ad1
    show zCV p l e room_1 s m #[Value.ref b] below meth c (lw_Z below #[Value.ref b] s) D cA A 8 ad0 0 ad1 1 6 3 [some (.ref 1002), none, none, none, none, none, none, none] [.ref 0] [.inr (4, [.null, .int (nI 0), .null, .null, .null, .null])]
    refine vc_step (is := [.dup, .nop]) (f := f_L) (kk := kk_L) (g := g_L) (ret := none) (RT := fun _ _ => False) cx hST fo_L ko_L go_L (fun o L σ pc h => h.elim) (by decide +kernel) ?_
    simp -implicitDefEqProofs only [zs_aload_n, zs_aload, zs_iload_n, zs_iload, zs_lload_n, zs_lload, zs_istore_n, zs_istore, zs_lstore_n, zs_lstore, zs_astore_n, zs_astore, zs_iinc, zs_iconst, zs_bipush, zs_sipush, zs_lconst0, zs_lconst1, zs_ldc2_w, zs_ldc_w, zs_iadd, zs_isub, zs_imul, zs_iand, zs_ior, zs_ixor, zs_ishl, zs_ishr, zs_iushr, zs_idiv, zs_irem, zs_ineg, zs_ladd, zs_lsub, zs_lmul, zs_land, zs_lor, zs_lxor, zs_ldiv, zs_lrem, zs_lcmp, zs_lshl, zs_lshr, zs_lushr, zs_i2l, zs_l2i, zs_i2c, zs_dup_i, zs_pop_i, zs_dup_a, zs_pop_a, zs_dup2, zs_pop2, zs_nop, zs_goto, zs_if_eq, zs_icmp_eq, zs_if_ne, zs_icmp_ne, zs_if_lt, zs_icmp_lt, zs_if_ge, zs_icmp_ge, zs_if_gt, zs_icmp_gt, zs_if_le, zs_icmp_le, zs_getf, zs_putf, zs_gets, zs_alen, zs_iald, zs_cald, zs_lald, zs_aald, zs_iast, zs_cast, zs_last, zs_invstatic, zs_invvirtual, zs_invspecial, zs_ireturn, zs_lreturn, zs_areturn, zs_return, zs_tsw, zs_lsw, zr_zva0, zr_zvas, zr_zvai0, zr_zvais, zr_zvi0, zr_zvis, zr_zvii0, zr_zviis, zr_zvl0, zr_zvls, zr_zvli0, zr_zvlis, zr_zs1_0, zr_zs1_1n, zr_zs1_1i, zr_zs1_1a, zr_zs1_1l, zr_zs1_s, zr_zs2_0, zr_zs2_1n, zr_zs2_1i, zr_zs2_1a, zr_zs2_1l, zr_zs2_s, zr_f0, zr_f1, zr_f2, zr_f3, zr_kp, zr_k0, zr_k1, zr_km1, zr_km2, zr_km4, zr_km8, zr_km16, zr_tp, zr_tn, zr_kl, zr_ki, zr_kil, zr_kii, zr_ov, zr_is, zr_cn, zr_cfi, zr_cfl, zr_cfr, zr_cfo, zr_isi, zr_isl, zr_isc, zr_isr, zr_isn0, zr_isn1, zr_isn2, zr_iso, zr_reti, zr_ctm, zr_cat0, zr_cati, zr_cata, zr_catl, zr_cs0, zr_cs1, zr_cs2, zr_cs3, zr_cs4, zr_cs5, zr_cs6, Nat.reduceLeDiff, Option.toList_none, Option.toList_some, List.nil_append, List.cons_append, Nat.le_refl, true_and, Nat.reduceAdd, Nat.reduceSub, Nat.reduceMul, Nat.reduceEqDiff, if_true, if_false, ite_true, ite_false, reduceIte, List.getElem?_cons_zero, List.getElem?_cons_succ, zr_ct0]
    refine vc_call (As := []) (a := 0) cx hST hAO (zc_S l (K := fun σ2 => σ2 = zsS1) rfl) ⟨rfl, rfl, by decide, by decide⟩ (zwi 77 rfl rfl) (zwi 52 rfl rfl) (zwi 75 rfl rfl) (zwi 76 rfl rfl) rfl ⟨by decide +kernel, by decide +kernel, by decide +kernel⟩ (by decide +kernel) rfl (by decide) ⟨fun q hq => zoB_ok (List.all_eq_true.mp (show List.all [some (.ref 1002), none, none, none, none, none, none, none] (zoB 1) = true from rfl) q hq), fun v hv => zvB_ok (List.all_eq_true.mp (show List.all [.ref 0] (zvB 1) = true from rfl) v hv)⟩ (by decide) ⟨by decide, by decide⟩ ?_
    rintro _ ad2 rfl
    show zCV p l e room_1 s m #[Value.ref b] below meth c (lw_Z below #[Value.ref b] s) D cA A 8 ad0 0 ad2 27 288 7 [some (.ref 1002), none, none, none, none, none, none, none] [.ref 0] zsS1
    refine vc_step (is := [.astore_n 1, .nop]) (f := f_L) (kk := kk_L) (g := g_L) (ret := none) (RT := fun _ _ => False) cx hST fo_L ko_L go_L (fun o L σ pc h => h.elim) (by decide +kernel) ?_
    simp -implicitDefEqProofs only [zs_aload_n, zs_aload, zs_iload_n, zs_iload, zs_lload_n, zs_lload, zs_istore_n, zs_istore, zs_lstore_n, zs_lstore, zs_astore_n, zs_astore, zs_iinc, zs_iconst, zs_bipush, zs_sipush, zs_lconst0, zs_lconst1, zs_ldc2_w, zs_ldc_w, zs_iadd, zs_isub, zs_imul, zs_iand, zs_ior, zs_ixor, zs_ishl, zs_ishr, zs_iushr, zs_idiv, zs_irem, zs_ineg, zs_ladd, zs_lsub, zs_lmul, zs_land, zs_lor, zs_lxor, zs_ldiv, zs_lrem, zs_lcmp, zs_lshl, zs_lshr, zs_lushr, zs_i2l, zs_l2i, zs_i2c, zs_dup_i, zs_pop_i, zs_dup_a, zs_pop_a, zs_dup2, zs_pop2, zs_nop, zs_goto, zs_if_eq, zs_icmp_eq, zs_if_ne, zs_icmp_ne, zs_if_lt, zs_icmp_lt, zs_if_ge, zs_icmp_ge, zs_if_gt, zs_icmp_gt, zs_if_le, zs_icmp_le, zs_getf, zs_putf, zs_gets, zs_alen, zs_iald, zs_cald, zs_lald, zs_aald, zs_iast, zs_cast, zs_last, zs_invstatic, zs_invvirtual, zs_invspecial, zs_ireturn, zs_lreturn, zs_areturn, zs_return, zs_tsw, zs_lsw, zr_zva0, zr_zvas, zr_zvai0, zr_zvais, zr_zvi0, zr_zvis, zr_zvii0, zr_zviis, zr_zvl0, zr_zvls, zr_zvli0, zr_zvlis, zr_zs1_0, zr_zs1_1n, zr_zs1_1i, zr_zs1_1a, zr_zs1_1l, zr_zs1_s, zr_zs2_0, zr_zs2_1n, zr_zs2_1i, zr_zs2_1a, zr_zs2_1l, zr_zs2_s, zr_f0, zr_f1, zr_f2, zr_f3, zr_kp, zr_k0, zr_k1, zr_km1, zr_km2, zr_km4, zr_km8, zr_km16, zr_tp, zr_tn, zr_kl, zr_ki, zr_kil, zr_kii, zr_ov, zr_is, zr_cn, zr_cfi, zr_cfl, zr_cfr, zr_cfo, zr_isi, zr_isl, zr_isc, zr_isr, zr_isn0, zr_isn1, zr_isn2, zr_iso, zr_reti, zr_ctm, zr_cat0, zr_cati, zr_cata, zr_catl, zr_cs0, zr_cs1, zr_cs2, zr_cs3, zr_cs4, zr_cs5, zr_cs6, Nat.reduceLeDiff, Option.toList_none, Option.toList_some, List.nil_append, List.cons_append, Nat.le_refl, true_and, Nat.reduceAdd, Nat.reduceSub, Nat.reduceMul, Nat.reduceEqDiff, if_true, if_false, ite_true, ite_false, reduceIte, List.getElem?_cons_zero, List.getElem?_cons_succ, zr_ct0]
    show zCV p l e room_1 s m #[Value.ref b] below meth c (lw_Z below #[Value.ref b] s) D cA A 8 ad0 0 ad2 27 288 8 [some (.ref 1002), some (.ref 0), none, none, none, none, none, none] [] zsS1
    refine vc_new (ci := 5) (N := 7) (fs := [.null, .int (nI 0), .null, .int (nI 0), .int (nI 0), .null, .int (nI 0)]) cx (by decide +kernel) (zwi 736 rfl rfl) (zwi 737 rfl rfl) (zwi 57 rfl rfl) rfl (by decide) (fun _ => rfl) (by decide) (by decide) (zBd_of rfl) (by decide) (by decide) ?_
    intro ad3
    show zCV p l e room_1 s m #[Value.ref b] below meth c (lw_Z below #[Value.ref b] s) D cA A 8 ad0 0 ad3 28 295 11 [some (.ref 1002), some (.ref 0), none, none, none, none, none, none] [.ref 27] zsM0
    refine vc_step (is := [.dup, .nop]) (f := f_L) (kk := kk_L) (g := g_L) (ret := none) (RT := fun _ _ => False) cx hST fo_L ko_L go_L (fun o L σ pc h => h.elim) (by decide +kernel) ?_
    simp -implicitDefEqProofs only [zs_aload_n, zs_aload, zs_iload_n, zs_iload, zs_lload_n, zs_lload, zs_istore_n, zs_istore, zs_lstore_n, zs_lstore, zs_astore_n, zs_astore, zs_iinc, zs_iconst, zs_bipush, zs_sipush, zs_lconst0, zs_lconst1, zs_ldc2_w, zs_ldc_w, zs_iadd, zs_isub, zs_imul, zs_iand, zs_ior, zs_ixor, zs_ishl, zs_ishr, zs_iushr, zs_idiv, zs_irem, zs_ineg, zs_ladd, zs_lsub, zs_lmul, zs_land, zs_lor, zs_lxor, zs_ldiv, zs_lrem, zs_lcmp, zs_lshl, zs_lshr, zs_lushr, zs_i2l, zs_l2i, zs_i2c, zs_dup_i, zs_pop_i, zs_dup_a, zs_pop_a, zs_dup2, zs_pop2, zs_nop, zs_goto, zs_if_eq, zs_icmp_eq, zs_if_ne, zs_icmp_ne, zs_if_lt, zs_icmp_lt, zs_if_ge, zs_icmp_ge, zs_if_gt, zs_icmp_gt, zs_if_le, zs_icmp_le, zs_getf, zs_putf, zs_gets, zs_alen, zs_iald, zs_cald, zs_lald, zs_aald, zs_iast, zs_cast, zs_last, zs_invstatic, zs_invvirtual, zs_invspecial, zs_ireturn, zs_lreturn, zs_areturn, zs_return, zs_tsw, zs_lsw, zr_zva0, zr_zvas, zr_zvai0, zr_zvais, zr_zvi0, zr_zvis, zr_zvii0, zr_zviis, zr_zvl0, zr_zvls, zr_zvli0, zr_zvlis, zr_zs1_0, zr_zs1_1n, zr_zs1_1i, zr_zs1_1a, zr_zs1_1l, zr_zs1_s, zr_zs2_0, zr_zs2_1n, zr_zs2_1i, zr_zs2_1a, zr_zs2_1l, zr_zs2_s, zr_f0, zr_f1, zr_f2, zr_f3, zr_kp, zr_k0, zr_k1, zr_km1, zr_km2, zr_km4, zr_km8, zr_km16, zr_tp, zr_tn, zr_kl, zr_ki, zr_kil, zr_kii, zr_ov, zr_is, zr_cn, zr_cfi, zr_cfl, zr_cfr, zr_cfo, zr_isi, zr_isl, zr_isc, zr_isr, zr_isn0, zr_isn1, zr_isn2, zr_iso, zr_reti, zr_ctm, zr_cat0, zr_cati, zr_cata, zr_catl, zr_cs0, zr_cs1, zr_cs2, zr_cs3, zr_cs4, zr_cs5, zr_cs6, Nat.reduceLeDiff, Option.toList_none, Option.toList_some, List.nil_append, List.cons_append, Nat.le_refl, true_and, Nat.reduceAdd, Nat.reduceSub, Nat.reduceMul, Nat.reduceEqDiff, if_true, if_false, ite_true, ite_false, reduceIte, List.getElem?_cons_zero, List.getElem?_cons_succ, zr_ct0]
    refine vc_call (As := []) (a := 27) cx hST hAO (zc_M l (K := fun σ2 => σ2 = zsM1) rfl) ⟨rfl, rfl, by decide, by decide⟩ (zwi 740 rfl rfl) (zwi 57 rfl rfl) (zwi 738 rfl rfl) (zwi 739 rfl rfl) rfl ⟨by decide +kernel, by decide +kernel, by decide +kernel⟩ (by decide +kernel) rfl (by decide) ⟨fun q hq => zoB_ok (List.all_eq_true.mp (show List.all [some (.ref 1002), some (.ref 0), none, none, none, none, none, none] (zoB 28) = true from rfl) q hq), fun v hv => zvB_ok (List.all_eq_true.mp (show List.all [.ref 27] (zvB 28) = true from rfl) v hv)⟩ (by decide) ⟨by decide, by decide⟩ ?_
    rintro _ ad4 rfl
    show zCV p l e room_1 s m #[Value.ref b] below meth c (lw_Z below #[Value.ref b] s) D cA A 8 ad0 0 ad4 31 1249 15 [some (.ref 1002), some (.ref 0), none, none, none, none, none, none] [.ref 27] zsM1
    refine vc_step (is := [.astore_n 2, .iconst 1, .nop]) (f := f_L) (kk := kk_L) (g := g_L) (ret := none) (RT := fun _ _ => False) cx hST fo_L ko_L go_L (fun o L σ pc h => h.elim) (by decide +kernel) ?_
    simp -implicitDefEqProofs only [zs_aload_n, zs_aload, zs_iload_n, zs_iload, zs_lload_n, zs_lload, zs_istore_n, zs_istore, zs_lstore_n, zs_lstore, zs_astore_n, zs_astore, zs_iinc, zs_iconst, zs_bipush, zs_sipush, zs_lconst0, zs_lconst1, zs_ldc2_w, zs_ldc_w, zs_iadd, zs_isub, zs_imul, zs_iand, zs_ior, zs_ixor, zs_ishl, zs_ishr, zs_iushr, zs_idiv, zs_irem, zs_ineg, zs_ladd, zs_lsub, zs_lmul, zs_land, zs_lor, zs_lxor, zs_ldiv, zs_lrem, zs_lcmp, zs_lshl, zs_lshr, zs_lushr, zs_i2l, zs_l2i, zs_i2c, zs_dup_i, zs_pop_i, zs_dup_a, zs_pop_a, zs_dup2, zs_pop2, zs_nop, zs_goto, zs_if_eq, zs_icmp_eq, zs_if_ne, zs_icmp_ne, zs_if_lt, zs_icmp_lt, zs_if_ge, zs_icmp_ge, zs_if_gt, zs_icmp_gt, zs_if_le, zs_icmp_le, zs_getf, zs_putf, zs_gets, zs_alen, zs_iald, zs_cald, zs_lald, zs_aald, zs_iast, zs_cast, zs_last, zs_invstatic, zs_invvirtual, zs_invspecial, zs_ireturn, zs_lreturn, zs_areturn, zs_return, zs_tsw, zs_lsw, zr_zva0, zr_zvas, zr_zvai0, zr_zvais, zr_zvi0, zr_zvis, zr_zvii0, zr_zviis, zr_zvl0, zr_zvls, zr_zvli0, zr_zvlis, zr_zs1_0, zr_zs1_1n, zr_zs1_1i, zr_zs1_1a, zr_zs1_1l, zr_zs1_s, zr_zs2_0, zr_zs2_1n, zr_zs2_1i, zr_zs2_1a, zr_zs2_1l, zr_zs2_s, zr_f0, zr_f1, zr_f2, zr_f3, zr_kp, zr_k0, zr_k1, zr_km1, zr_km2, zr_km4, zr_km8, zr_km16, zr_tp, zr_tn, zr_kl, zr_ki, zr_kil, zr_kii, zr_ov, zr_is, zr_cn, zr_cfi, zr_cfl, zr_cfr, zr_cfo, zr_isi, zr_isl, zr_isc, zr_isr, zr_isn0, zr_isn1, zr_isn2, zr_iso, zr_reti, zr_ctm, zr_cat0, zr_cati, zr_cata, zr_catl, zr_cs0, zr_cs1, zr_cs2, zr_cs3, zr_cs4, zr_cs5, zr_cs6, Nat.reduceLeDiff, Option.toList_none, Option.toList_some, List.nil_append, List.cons_append, Nat.le_refl, true_and, Nat.reduceAdd, Nat.reduceSub, Nat.reduceMul, Nat.reduceEqDiff, if_true, if_false, ite_true, ite_false, reduceIte, List.getElem?_cons_zero, List.getElem?_cons_succ, zr_ct0]
    refine vc_newa (kd := 1) (N := 1) (dt := .inr (.inl (fun _ => 0))) (at_ := .long) cx (by decide +kernel) (by decide) rfl (zwi 96 rfl rfl) (by decide) (by decide) (by decide) (fun _ => rfl) (fun _ => rfl) (by decide) (by decide) (zBd_of rfl) (by decide) (by decide) ?_
    intro ad5
    show zCV p l e room_1 s m #[Value.ref b] below meth c (lw_Z below #[Value.ref b] s) D cA A 8 ad0 0 ad5 32 1250 19 [some (.ref 1002), some (.ref 0), some (.ref 27), none, none, none, none, none] [.ref 31] (zsM1 ++ [zA 1 1])
    refine vc_step (is := [.astore_n 3, .iconst 0, .istore 4, .nop]) (f := f_L) (kk := kk_L) (g := g_L) (ret := none) (RT := fun _ _ => False) cx hST fo_L ko_L go_L (fun o L σ pc h => h.elim) (by decide +kernel) ?_
    simp -implicitDefEqProofs only [zs_aload_n, zs_aload, zs_iload_n, zs_iload, zs_lload_n, zs_lload, zs_istore_n, zs_istore, zs_lstore_n, zs_lstore, zs_astore_n, zs_astore, zs_iinc, zs_iconst, zs_bipush, zs_sipush, zs_lconst0, zs_lconst1, zs_ldc2_w, zs_ldc_w, zs_iadd, zs_isub, zs_imul, zs_iand, zs_ior, zs_ixor, zs_ishl, zs_ishr, zs_iushr, zs_idiv, zs_irem, zs_ineg, zs_ladd, zs_lsub, zs_lmul, zs_land, zs_lor, zs_lxor, zs_ldiv, zs_lrem, zs_lcmp, zs_lshl, zs_lshr, zs_lushr, zs_i2l, zs_l2i, zs_i2c, zs_dup_i, zs_pop_i, zs_dup_a, zs_pop_a, zs_dup2, zs_pop2, zs_nop, zs_goto, zs_if_eq, zs_icmp_eq, zs_if_ne, zs_icmp_ne, zs_if_lt, zs_icmp_lt, zs_if_ge, zs_icmp_ge, zs_if_gt, zs_icmp_gt, zs_if_le, zs_icmp_le, zs_getf, zs_putf, zs_gets, zs_alen, zs_iald, zs_cald, zs_lald, zs_aald, zs_iast, zs_cast, zs_last, zs_invstatic, zs_invvirtual, zs_invspecial, zs_ireturn, zs_lreturn, zs_areturn, zs_return, zs_tsw, zs_lsw, zr_zva0, zr_zvas, zr_zvai0, zr_zvais, zr_zvi0, zr_zvis, zr_zvii0, zr_zviis, zr_zvl0, zr_zvls, zr_zvli0, zr_zvlis, zr_zs1_0, zr_zs1_1n, zr_zs1_1i, zr_zs1_1a, zr_zs1_1l, zr_zs1_s, zr_zs2_0, zr_zs2_1n, zr_zs2_1i, zr_zs2_1a, zr_zs2_1l, zr_zs2_s, zr_f0, zr_f1, zr_f2, zr_f3, zr_kp, zr_k0, zr_k1, zr_km1, zr_km2, zr_km4, zr_km8, zr_km16, zr_tp, zr_tn, zr_kl, zr_ki, zr_kil, zr_kii, zr_ov, zr_is, zr_cn, zr_cfi, zr_cfl, zr_cfr, zr_cfo, zr_isi, zr_isl, zr_isc, zr_isr, zr_isn0, zr_isn1, zr_isn2, zr_iso, zr_reti, zr_ctm, zr_cat0, zr_cati, zr_cata, zr_catl, zr_cs0, zr_cs1, zr_cs2, zr_cs3, zr_cs4, zr_cs5, zr_cs6, Nat.reduceLeDiff, Option.toList_none, Option.toList_some, List.nil_append, List.cons_append, Nat.le_refl, true_and, Nat.reduceAdd, Nat.reduceSub, Nat.reduceMul, Nat.reduceEqDiff, if_true, if_false, ite_true, ite_false, reduceIte, List.getElem?_cons_zero, List.getElem?_cons_succ, zr_ct0]
    intro ha5
    have hST5 := hST.agr ha5
    have d5 : ad5 1002 = b := by rw [ha5 1002 (Or.inr (by decide))]; exact d2
    have rl := law_rules (below := below) (e := e) hl hAe cx hST5 hTS hr hlocks hX hb d5 hL
    exact law_loop rl hL _ 0 0 _ (Nat.le_refl _) lInv_start (Nat.zero_le _) (Nat.le_refl _)
  have ent := zH_entry ad0 (n := 8) (vs := [Value.ref 1002]) (by decide)
  have e3 : ([Value.ref 1002] : List Value).map (zv ad0) = [Value.ref b] := by show [Value.ref (ad0 1002)] = _; rw [d2]
  rw [e3] at ent
  have w := key (fun i _ => rfl) _ s.heap [] ent (fun k q h => (by cases h)) ⟨fun i j p q h => (by cases h), fun k q h => (by cases h)⟩ va_S.rf
  rw [lg_entry_eq]
  exact w
