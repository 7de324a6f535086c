/-- what is true of the classes of the store -/
theorem zcl_ok : ∀ ci, ci < 6 → ∀ q, zcl[ci]? = some q → (∀ w ∈ u_ws q.1 q.2.1 q.2.2, w ∈ zwt) ∧ (∀ k, k < q.2.2 → parseFieldDescriptor (q.2.1 k).2.2.1 = some (zty ci k)) ∧ (∀ a, a < q.2.2 → ∀ b, b < q.2.2 → a ≠ b → (q.2.1 a).2.1 ≠ (q.2.1 b).2.1) ∧ (∀ k, k < q.2.2 → (q.2.1 k).1 = q.1) ∧ (∀ k, k < q.2.2 → (zty ci k = .int ∨ zty ci k = .boolean) → (q.2.1 k).2.2.2 = false) := by
  intro ci hci q hq
  rcases (show ci = 0 ∨ ci = 1 ∨ ci = 2 ∨ ci = 3 ∨ ci = 4 ∨ ci = 5 by omega) with rfl | rfl | rfl | rfl | rfl | rfl <;> cases hq <;> refine ⟨by decide +kernel, by decide +kernel, by decide +kernel, by decide +kernel, by decide +kernel⟩
theorem zcl_lt {ci : Nat} {q : vw_C} (h : zcl[ci]? = some q) : ci < 6 := (List.getElem?_eq_some_iff.mp h).1
/-- the static arrays, read only -/
def zST (ad : Nat → Nat) (A : Nat → Prop) (U : State) : Prop := va_T .long (ad 1000) 16 (fun j => .long (zseF j)) A U U.heap ∧ va_T .long (ad 1001) 16 (fun j => .long (zueF j)) A U U.heap ∧ va_Z "WideWordStack$Whole" "SIGNED_END" "[J" (.ref (ad 1000)) A U U.heap ∧ va_Z "WideWordStack$Whole" "UNSIGNED_END" "[J" (.ref (ad 1001)) A U U.heap
/-- from a place of the code, with these locals, stack and store, the machine comes where w says -/
def zV (w : Heap → List Loc → JFrame → Prop) (m : MethodId) (H0 : Heap) (D : va_G) (cA : Nat → ClassId) (ad : Nat → Nat) (A : Nat → Prop) (nL : Nat) (pc : Nat) (L : List (Option Value)) (st : List Value) (σ : List va_E) : Prop :=
  ∀ (ls : Array Slot) (H : Heap) (locs : List Loc), zH ad nL ls L → va_P D zcl (zw cA ad σ) H → va_D A (zw cA ad σ) → va_S A H0 H locs → w H locs (F0 m pc ls (st.map (zv ad)))
def zFok (own : String) (f : Nat → Option (Nat × Nat)) : Prop := ∀ j q, f j = some q → ∃ r, zcl[q.1]? = some r ∧ q.2 < r.2.2 ∧ Cond.fieldLink own j r.1 (r.2.1 q.2).2.1 (r.2.1 q.2).2.2.1 ∈ zwt
def zKok (own : String) (kk : Nat → Option Value) : Prop := (∀ j x, kk j = some (.int x) → Cond.constant own j x ∈ zwt) ∧ ∀ j x, kk j = some (.long x) → Cond.constantLong own j x ∈ zwt
def zGok (own : String) (g : Nat → Option Nat) : Prop := ∀ j a, g j = some a → (a = 1000 ∧ Cond.fieldLink own j "WideWordStack$Whole" "SIGNED_END" "[J" ∈ zwt) ∨ (a = 1001 ∧ Cond.fieldLink own j "WideWordStack$Whole" "UNSIGNED_END" "[J" ∈ zwt)
theorem z_look {σ : List va_E} {a n : Nat} {g0 : Nat → Int64} (h : zlook σ a = some (.inl (1, n, .inr (.inl g0)))) : σ[a]? = some (.inl (1, n, .inr (.inl g0))) ∨ (σ[a]? = none ∧ n = 16 ∧ ((a = 1000 ∧ g0 = zseF) ∨ (a = 1001 ∧ g0 = zueF))) := by
  unfold zlook at h
  split at h
  · rename_i q hq
    rw [hq]
    exact Or.inl h
  · rename_i hq
    by_cases h1 : a = 1000
    · rw [if_pos h1] at h
      cases h
      exact Or.inr ⟨hq, rfl, Or.inl ⟨h1, rfl⟩⟩
    · rw [if_neg h1] at h
      by_cases h2 : a = 1001
      · rw [if_pos h2] at h
        cases h
        exact Or.inr ⟨hq, rfl, Or.inr ⟨h2, rfl⟩⟩
      · rw [if_neg h2] at h
        cases h
theorem z_look' {σ : List va_E} {a k n : Nat} {g0 : Nat → Int32} (h : zlook σ a = some (.inl (k, n, .inl g0))) : σ[a]? = some (.inl (k, n, .inl g0)) ∨ (False ∧ True) := by
  unfold zlook at h
  split at h
  · rename_i q hq
    rw [hq]
    exact Or.inl h
  · by_cases h1 : a = 1000
    · rw [if_pos h1] at h
      cases h
    · rw [if_neg h1] at h
      by_cases h2 : a = 1001
      · rw [if_pos h2] at h
        cases h
      · rw [if_neg h2] at h
        cases h
theorem z_lookup {pc : Nat} {d : Int} (hd : zjo pc d = true) : ∀ (ps : List (Int × Int)), (∀ o ∈ ps, zjo pc o.2 = true) → ∀ x, zjo pc (Op.lookupswitch.offset ps d x) = true := by
  intro ps
  induction ps with
  | nil => intro _ x; exact hd
  | cons q r ih =>
    intro h x
    unfold Op.lookupswitch.offset
    split
    · exact h q List.mem_cons_self
    · exact ih (fun o ho => h o (List.mem_cons_of_mem _ ho)) x
section Sound
variable {p : Program} {l : Launch} {e : Env} {R : Room} {s : State} {m : MethodId} {args : Array Value} {below : List Frame} {meth : Method} {c : Code} {cells slots : Nat} {Q : State → Prop}
variable {cc : ByteArray} {own : String} {D : va_G} {cA : Nat → ClassId} {ad : Nat → Nat} {A : Nat → Prop} {nL : Nat} {V : Nat → List (Option Value) → List Value → List va_E → Prop}
theorem z_zv_cat (v : Value) : (zv ad v).category = v.category := by cases v <;> rfl
theorem z_in {i : Nat} {q : va_E} {σ : List va_E} (h : σ[i]? = some q) : (zw cA ad σ)[i]? = some (ad i, ze cA ad q) := zw_at h
theorem zi_ok {f : Nat → Option (Nat × Nat)} {kk : Nat → Option Value} {cl : Nat → List Value → List va_E → (List Value → List va_E → Prop) → Prop} {ret : Option FieldType} {g : Nat → Option Nat}
    {RT : Option Value → List va_E → Prop} {k : List (Option Value) → List Value → List va_E → Prop} {pc : Nat} {L : List (Option Value)} {st : List Value} {σ : List va_E} {i : Instr}
    (hV : V = zV (fun H locs g => W p l e R s m args below meth c H locs cells slots Q g) m s.heap D cA ad A nL)
    (hx : p.tables.exec = Jvm.exec) (hb : c.code = cc) (hown : s.vm.findClass own = some m.cls) (hts : ∀ w ∈ zwt, w.before args s = true) (hK : va_K D zcl (ztys cA) s) (hST : zST ad A s)
    (hf : zFok own f) (hkk : zKok own kk) (hg : zGok own g)
    (hc : ∀ (key : Nat) (L : List (Option Value)) (st : List Value) (σ : List va_E) (K : List Value → List va_E → Prop) (pc : Nat), cl key st σ K → (∃ j, (key = 3 * j ∧ decode cc pc = .ok (.invokestatic j, 3)) ∨ (key = 3 * j + 1 ∧ decode cc pc = .ok (.invokevirtual j, 3)) ∨ (key = 3 * j + 2 ∧ decode cc pc = .ok (.invokespecial j, 3))) → (∀ st' σ', K st' σ' → V (pc + 3) L st' σ') → V pc L st σ)
    (hR : ∀ (o : Option Value) (L : List (Option Value)) (σ : List va_E) (pc : Nat), RT o σ → ((∃ x, o = some (.int x) ∧ zret ret x ∧ decode cc pc = .ok (.ireturn, 1)) ∨ (∃ x, o = some (.long x) ∧ ret = some .long ∧ decode cc pc = .ok (.lreturn, 1)) ∨ (∃ a, o = some (.ref a) ∧ ret = some (.array .long) ∧ decode cc pc = .ok (.areturn, 1)) ∨ (o = none ∧ ret = none ∧ decode cc pc = .ok (.return_, 1))) → V pc L o.toList σ)
    (hd : decode cc pc = .ok (i, zln pc i)) (hq : zcf nL pc i = true)
    (hk : ∀ L' st' σ', k L' st' σ' → V (pc + zln pc i) L' st' σ')
    (h : zi f kk cl ret g V RT k pc L st σ i) : V pc L st σ := by
  have hn0 : nI 0 = (0 : Int32) := rfl
  have hl0 : lN 0 = (0 : Int64) := rfl
  cases i
  case nop => exact h
  case aload_n j =>
    obtain ⟨a, h1, h2⟩ := zlda_e h
    subst hV
    intro ls H locs hl hP hD hS
    exact lv_aload_n hx hb hd rfl (hl.2.2.2 _ _ h1) (hk _ _ _ h2 ls H locs hl hP hD hS)
  case aload j =>
    obtain ⟨a, h1, h2⟩ := zlda_e h
    subst hV
    intro ls H locs hl hP hD hS
    exact lv_aload hx hb hd (hl.2.2.2 _ _ h1) (hk _ _ _ h2 ls H locs hl hP hD hS)
  case iload_n j =>
    obtain ⟨a, h1, h2⟩ := zldi_e h
    subst hV
    intro ls H locs hl hP hD hS
    exact lv_iload_n hx hb hd rfl (hl.2.2.2 _ _ h1) (hk _ _ _ h2 ls H locs hl hP hD hS)
  case iload j =>
    obtain ⟨a, h1, h2⟩ := zldi_e h
    subst hV
    intro ls H locs hl hP hD hS
    exact lv_iload hx hb hd (hl.2.2.2 _ _ h1) (hk _ _ _ h2 ls H locs hl hP hD hS)
  case lload_n j =>
    obtain ⟨a, h1, h2⟩ := zldl_e h
    subst hV
    intro ls H locs hl hP hD hS
    exact lv_lload_n hx hb hd rfl (hl.2.2.2 _ _ h1) (hk _ _ _ h2 ls H locs hl hP hD hS)
  case lload j =>
    obtain ⟨a, h1, h2⟩ := zldl_e h
    subst hV
    intro ls H locs hl hP hD hS
    exact lv_lload hx hb hd (hl.2.2.2 _ _ h1) (hk _ _ _ h2 ls H locs hl hP hD hS)
  case istore_n j =>
    obtain ⟨x, r, rfl, h2⟩ := z1i_e h
    subst hV
    intro ls H locs hl hP hD hS
    exact lv_istore_n hx hb hd rfl hl.has (of_decide_eq_true hq) rfl (fun ls' h' => hk _ _ _ h2 ls' H locs (hl.set1 (v := .int x) h') hP hD hS)
  case istore j =>
    obtain ⟨x, r, rfl, h2⟩ := z1i_e h
    subst hV
    intro ls H locs hl hP hD hS
    exact lv_istore hx hb hd hl.has (of_decide_eq_true hq) rfl (fun ls' h' => hk _ _ _ h2 ls' H locs (hl.set1 (v := .int x) h') hP hD hS)
  case lstore_n j =>
    obtain ⟨x, r, rfl, h2⟩ := z1l_e h
    subst hV
    intro ls H locs hl hP hD hS
    exact lv_lstore_n hx hb hd rfl hl.has (of_decide_eq_true hq) rfl (fun ls' h' => hk _ _ _ h2 ls' H locs (hl.set2 (v := .long x) h') hP hD hS)
  case lstore j =>
    obtain ⟨x, r, rfl, h2⟩ := z1l_e h
    subst hV
    intro ls H locs hl hP hD hS
    exact lv_lstore hx hb hd hl.has (of_decide_eq_true hq) rfl (fun ls' h' => hk _ _ _ h2 ls' H locs (hl.set2 (v := .long x) h') hP hD hS)
  case astore_n j =>
    obtain ⟨x, r, rfl, h2⟩ := z1a_e h
    subst hV
    intro ls H locs hl hP hD hS
    exact lv_astore_n hx hb hd rfl hl.has (of_decide_eq_true hq) rfl (fun ls' h' => hk _ _ _ h2 ls' H locs (hl.set1 (v := .ref x) h') hP hD hS)
  case astore j =>
    obtain ⟨x, r, rfl, h2⟩ := z1a_e h
    subst hV
    intro ls H locs hl hP hD hS
    exact lv_astore hx hb hd hl.has (of_decide_eq_true hq) rfl (fun ls' h' => hk _ _ _ h2 ls' H locs (hl.set1 (v := .ref x) h') hP hD hS)
  case iinc j n =>
    obtain ⟨x, h1, h2⟩ := zldi_e h
    subst hV
    intro ls H locs hl hP hD hS
    have hq1 := Bool.and_eq_true _ _ ▸ hq
    have hm : (j, Value.int x) ∈ zLl ad L := zLl_mem.mpr ⟨.int x, h1, rfl⟩
    obtain ⟨k', hk'⟩ := List.getElem?_of_mem hm
    exact lv_iinc hx hb hd hl.has hk' (by rw [of_decide_eq_true hq1.2]) (of_decide_eq_true hq1.1) rfl (fun ls' h' => hk _ _ _ h2 ls' H locs (hl.set1 (v := .int (x + zkc n)) h') hP hD hS)
  case iconst n =>
    subst hV
    intro ls H locs hl hP hD hS
    exact lv_iconst hx hb hd (of_decide_eq_true hq) (hk _ _ _ h ls H locs hl hP hD hS)
  case bipush n =>
    subst hV
    intro ls H locs hl hP hD hS
    exact lv_bipush hx hb hd (of_decide_eq_true hq) (hk _ _ _ h ls H locs hl hP hD hS)
  case sipush n =>
    subst hV
    intro ls H locs hl hP hD hS
    exact lv_sipush hx hb hd (of_decide_eq_true hq) (hk _ _ _ h ls H locs hl hP hD hS)
  case lconst n =>
    subst hV
    intro ls H locs hl hP hD hS
    exact lv_lconst hx hb hd rfl (hk _ _ _ h ls H locs hl hP hD hS)
  case ldc_w j =>
    rcases hj : kk j with _ | v <;> simp only [zi, hj] at h
    cases v <;> simp only at h
    subst hV
    intro ls H locs hl hP hD hS
    exact lv_ldcw hx hb hown (hts _ (hkk.1 _ _ hj)) hd (hk _ _ _ h ls H locs hl hP hD hS)
  case ldc2_w j =>
    rcases hj : kk j with _ | v <;> simp only [zi, hj] at h
    cases v <;> simp only at h
    subst hV
    intro ls H locs hl hP hD hS
    exact lv_ldc2 hx hb hown (hts _ (hkk.2 _ _ hj)) hd (hk _ _ _ h ls H locs hl hP hD hS)
  case iadd =>
    obtain ⟨x, y, r, rfl, h2⟩ := z2i_e h
    subst hV
    intro ls H locs hl hP hD hS
    exact lv_iadd hx hb hd (hk _ _ _ h2 ls H locs hl hP hD hS)
  case isub =>
    obtain ⟨x, y, r, rfl, h2⟩ := z2i_e h
    subst hV
    intro ls H locs hl hP hD hS
    exact lv_isub hx hb hd (hk _ _ _ h2 ls H locs hl hP hD hS)
  case imul =>
    obtain ⟨x, y, r, rfl, h2⟩ := z2i_e h
    subst hV
    intro ls H locs hl hP hD hS
    exact lv_imul hx hb hd (hk _ _ _ h2 ls H locs hl hP hD hS)
  case iand =>
    obtain ⟨x, y, r, rfl, h2⟩ := z2i_e h
    subst hV
    intro ls H locs hl hP hD hS
    exact lv_iand hx hb hd (hk _ _ _ h2 ls H locs hl hP hD hS)
  case ior =>
    obtain ⟨x, y, r, rfl, h2⟩ := z2i_e h
    subst hV
    intro ls H locs hl hP hD hS
    exact lv_ior hx hb hd (hk _ _ _ h2 ls H locs hl hP hD hS)
  case ixor =>
    obtain ⟨x, y, r, rfl, h2⟩ := z2i_e h
    subst hV
    intro ls H locs hl hP hD hS
    exact lv_ixor hx hb hd (hk _ _ _ h2 ls H locs hl hP hD hS)
  case ishl =>
    obtain ⟨x, y, r, rfl, h2⟩ := z2i_e h
    subst hV
    intro ls H locs hl hP hD hS
    exact lv_ishl hx hb hd (hk _ _ _ h2 ls H locs hl hP hD hS)
  case ishr =>
    obtain ⟨x, y, r, rfl, h2⟩ := z2i_e h
    subst hV
    intro ls H locs hl hP hD hS
    exact lv_ishr hx hb hd (hk _ _ _ h2 ls H locs hl hP hD hS)
  case iushr =>
    obtain ⟨x, y, r, rfl, h2⟩ := z2i_e h
    subst hV
    intro ls H locs hl hP hD hS
    exact lv_iushr hx hb hd rfl (hk _ _ _ h2 ls H locs hl hP hD hS)
  case idiv =>
    obtain ⟨x, y, r, rfl, h1, h2⟩ := z2i_e h
    subst hV
    intro ls H locs hl hP hD hS
    exact lv_idiv hx hb hd h1 (hk _ _ _ h2 ls H locs hl hP hD hS)
  case irem =>
    obtain ⟨x, y, r, rfl, h1, h2⟩ := z2i_e h
    subst hV
    intro ls H locs hl hP hD hS
    exact lv_irem hx hb hd h1 (hk _ _ _ h2 ls H locs hl hP hD hS)
  case ineg =>
    obtain ⟨x, r, rfl, h2⟩ := z1i_e h
    subst hV
    intro ls H locs hl hP hD hS
    exact lv_ineg hx hb hd (hk _ _ _ h2 ls H locs hl hP hD hS)
  case ladd =>
    obtain ⟨x, y, r, rfl, h2⟩ := z2l_e h
    subst hV
    intro ls H locs hl hP hD hS
    exact lv_ladd hx hb hd (hk _ _ _ h2 ls H locs hl hP hD hS)
  case lsub =>
    obtain ⟨x, y, r, rfl, h2⟩ := z2l_e h
    subst hV
    intro ls H locs hl hP hD hS
    exact lv_lsub hx hb hd (hk _ _ _ h2 ls H locs hl hP hD hS)
  case lmul =>
    obtain ⟨x, y, r, rfl, h2⟩ := z2l_e h
    subst hV
    intro ls H locs hl hP hD hS
    exact lv_lmul hx hb hd (hk _ _ _ h2 ls H locs hl hP hD hS)
  case land =>
    obtain ⟨x, y, r, rfl, h2⟩ := z2l_e h
    subst hV
    intro ls H locs hl hP hD hS
    exact lv_land hx hb hd (hk _ _ _ h2 ls H locs hl hP hD hS)
  case lor =>
    obtain ⟨x, y, r, rfl, h2⟩ := z2l_e h
    subst hV
    intro ls H locs hl hP hD hS
    exact lv_lor hx hb hd (hk _ _ _ h2 ls H locs hl hP hD hS)
  case lxor =>
    obtain ⟨x, y, r, rfl, h2⟩ := z2l_e h
    subst hV
    intro ls H locs hl hP hD hS
    exact lv_lxor hx hb hd (hk _ _ _ h2 ls H locs hl hP hD hS)
  case ldiv =>
    obtain ⟨x, y, r, rfl, h1, h2⟩ := z2l_e h
    subst hV
    intro ls H locs hl hP hD hS
    exact lv_ldiv hx hb hd h1 (hk _ _ _ h2 ls H locs hl hP hD hS)
  case lrem =>
    obtain ⟨x, y, r, rfl, h1, h2⟩ := z2l_e h
    subst hV
    intro ls H locs hl hP hD hS
    exact lv_lrem hx hb hd h1 (hk _ _ _ h2 ls H locs hl hP hD hS)
  case lcmp =>
    obtain ⟨x, y, r, rfl, h2⟩ := z2l_e h
    subst hV
    intro ls H locs hl hP hD hS
    exact W.lcmp hx hb hd (hk _ _ _ h2 ls H locs hl hP hD hS)
  case lshl =>
    obtain ⟨x, y, r, rfl, h2⟩ := zil_e h
    subst hV
    intro ls H locs hl hP hD hS
    exact lv_lshl hx hb hd rfl (hk _ _ _ h2 ls H locs hl hP hD hS)
  case lshr =>
    obtain ⟨x, y, r, rfl, h2⟩ := zil_e h
    subst hV
    intro ls H locs hl hP hD hS
    exact lv_lshr hx hb hd rfl (hk _ _ _ h2 ls H locs hl hP hD hS)
  case lushr =>
    obtain ⟨x, y, r, rfl, h2⟩ := zil_e h
    subst hV
    intro ls H locs hl hP hD hS
    exact lv_lushr hx hb hd rfl (hk _ _ _ h2 ls H locs hl hP hD hS)
  case i2l =>
    obtain ⟨x, r, rfl, h2⟩ := z1i_e h
    subst hV
    intro ls H locs hl hP hD hS
    exact lv_i2l hx hb hd rfl (hk _ _ _ h2 ls H locs hl hP hD hS)
  case l2i =>
    obtain ⟨x, r, rfl, h2⟩ := z1l_e h
    subst hV
    intro ls H locs hl hP hD hS
    exact lv_l2i hx hb hd rfl (hk _ _ _ h2 ls H locs hl hP hD hS)
  case i2c =>
    obtain ⟨x, r, rfl, h2⟩ := z1i_e h
    subst hV
    intro ls H locs hl hP hD hS
    exact lv_i2c hx hb hd rfl (hk _ _ _ h2 ls H locs hl hP hD hS)
  case dup =>
    obtain ⟨v, r, rfl, h1, h2⟩ := z1v_e h
    subst hV
    intro ls H locs hl hP hD hS
    exact lv_dup hx hb hd (by rw [z_zv_cat]; exact h1) (hk _ _ _ h2 ls H locs hl hP hD hS)
  case pop =>
    obtain ⟨v, r, rfl, h1, h2⟩ := z1v_e h
    subst hV
    intro ls H locs hl hP hD hS
    exact lv_pop hx hb hd (by rw [z_zv_cat]; exact h1) (hk _ _ _ h2 ls H locs hl hP hD hS)
  case dup2 =>
    obtain ⟨v, w, r, rfl, h1, h2⟩ := z2v_e h
    subst hV
    intro ls H locs hl hP hD hS
    exact lv_dup2_11 hx hb hd (by rw [z_zv_cat]; exact h1.1) (by rw [z_zv_cat]; exact h1.2) (hk _ _ _ h2 ls H locs hl hP hD hS)
  case pop2 =>
    obtain ⟨v, r, rfl, h1, h2⟩ := z1v_e h
    subst hV
    intro ls H locs hl hP hD hS
    exact lv_pop2_2 hx hb hd (by rw [z_zv_cat]; exact h1) (hk _ _ _ h2 ls H locs hl hP hD hS)
  case goto off =>
    subst hV
    intro ls H locs hl hP hD hS
    exact lv_goto hx hb hd (ztg_ok hq) (h ls H locs hl hP hD hS)
  case ifCond cd off =>
    obtain ⟨x, r, rfl, h2⟩ := z1i_e h
    subst hV
    intro ls H locs hl hP hD hS
    cases cd
    case eq => exact lv_if_eq hx hb hd (ztg_ok hq) (fun q => h2.1 q ls H locs hl hP hD hS) (fun q => hk _ _ _ (h2.2 q) ls H locs hl hP hD hS)
    case ne => exact lv_if_ne hx hb hd (ztg_ok hq) (fun q => h2.1 q ls H locs hl hP hD hS) (fun q => hk _ _ _ (h2.2 (fun q' => q' q)) ls H locs hl hP hD hS)
    case lt => exact lv_if_lt hx hb hd (ztg_ok hq) (fun q => h2.1 q ls H locs hl hP hD hS) (fun q => hk _ _ _ (h2.2 q) ls H locs hl hP hD hS)
    case ge => exact lv_if_ge hx hb hd (ztg_ok hq) (fun q => h2.1 q ls H locs hl hP hD hS) (fun q => hk _ _ _ (h2.2 q) ls H locs hl hP hD hS)
    case gt => exact lv_if_gt hx hb hd (ztg_ok hq) (fun q => h2.1 q ls H locs hl hP hD hS) (fun q => hk _ _ _ (h2.2 q) ls H locs hl hP hD hS)
    case le => exact lv_if_le hx hb hd (ztg_ok hq) (fun q => h2.1 q ls H locs hl hP hD hS) (fun q => hk _ _ _ (h2.2 q) ls H locs hl hP hD hS)
  case if_icmp cd off =>
    obtain ⟨x, y, r, rfl, h2⟩ := z2i_e h
    subst hV
    intro ls H locs hl hP hD hS
    cases cd
    case eq => exact lv_icmp_eq hx hb hd (ztg_ok hq) (fun q => h2.1 q ls H locs hl hP hD hS) (fun q => hk _ _ _ (h2.2 q) ls H locs hl hP hD hS)
    case ne => exact lv_icmp_ne hx hb hd (ztg_ok hq) (fun q => h2.1 q ls H locs hl hP hD hS) (fun q => hk _ _ _ (h2.2 (fun q' => q' q)) ls H locs hl hP hD hS)
    case lt => exact lv_icmp_lt hx hb hd (ztg_ok hq) (fun q => h2.1 q ls H locs hl hP hD hS) (fun q => hk _ _ _ (h2.2 q) ls H locs hl hP hD hS)
    case ge => exact lv_icmp_ge hx hb hd (ztg_ok hq) (fun q => h2.1 q ls H locs hl hP hD hS) (fun q => hk _ _ _ (h2.2 q) ls H locs hl hP hD hS)
    case gt => exact lv_icmp_gt hx hb hd (ztg_ok hq) (fun q => h2.1 q ls H locs hl hP hD hS) (fun q => hk _ _ _ (h2.2 q) ls H locs hl hP hD hS)
    case le => exact lv_icmp_le hx hb hd (ztg_ok hq) (fun q => h2.1 q ls H locs hl hP hD hS) (fun q => hk _ _ _ (h2.2 q) ls H locs hl hP hD hS)
  case tableswitch d lo hi offs =>
    obtain ⟨x, r, rfl, h2⟩ := z1i_e h
    subst hV
    intro ls H locs hl hP hD hS
    have hq1 : ((zjo pc d && offs.all (fun o => zjo pc o)) && decide (hi - lo + 1 = offs.size)) = true := hq
    rw [Bool.and_eq_true, Bool.and_eq_true] at hq1
    obtain ⟨⟨q1, q2⟩, q3⟩ := hq1
    have q3 := of_decide_eq_true q3
    by_cases ho : x.toInt < lo ∨ hi < x.toInt
    · exact lv_tableOut hx hb hd ho (ztg_ok q1) (h2.1 ho ls H locs hl hP hD hS)
    · have g1 : ¬ x.toInt < lo := fun z => ho (Or.inl z)
      have g2 : ¬ hi < x.toInt := fun z => ho (Or.inr z)
      have hlt : (x.toInt - lo).toNat < offs.size := by omega
      have hoff : offs[(x.toInt - lo).toNat]? = some offs[(x.toInt - lo).toNat] := Array.getElem?_eq_getElem hlt
      have hjo : zjo pc offs[(x.toInt - lo).toNat] = true := Array.all_eq_true.mp q2 _ hlt
      exact lv_tableIn hx hb hd g1 g2 hoff (ztg_ok hjo) (h2.2 _ g1 g2 hoff ls H locs hl hP hD hS)
  case getfield j =>
    obtain ⟨a, r, rfl, h2⟩ := z1a_e h
    obtain ⟨q, hj, h2⟩ := zo_e h2
    obtain ⟨fs, hfs, h2⟩ := zco_e h2
    obtain ⟨v, hv, h2⟩ := zo_e h2
    subst hV
    intro ls H locs hl hP hD hS
    obtain ⟨⟨C, T, N⟩, hr, hkN, hlk⟩ := hf _ _ hj
    obtain ⟨c1, c2, c3, c4, c5⟩ := zcl_ok _ (zcl_lt hr) _ hr
    have e4 : (T q.2).1 = C := c4 _ hkN
    exact va_get (D := D) (ci := q.1) (v := zv ad v) (C := C) (T := T) (N := N) hx hb hts c1 hown hK hP a (zw_at hfs) hr q.2 hkN (hts _ hlk) (fun x9 h9 => by rw [e4] at h9; exact h9) (by rw [List.getElem?_map, hv]; rfl) hd (hk _ _ _ h2 ls H locs hl hP hD hS)
  case putfield j =>
    obtain ⟨a, v, r, rfl, h2⟩ := zva_e h
    obtain ⟨q, hj, h2⟩ := zo_e h2
    obtain ⟨fs, hfs, h1, h3, h2⟩ := zco_e h2
    subst hV
    intro ls H locs hl hP hD hS
    obtain ⟨⟨C, T, N⟩, hr, hkN, hlk⟩ := hf _ _ hj
    obtain ⟨c1, c2, c3, c4, c5⟩ := zcl_ok _ (zcl_lt hr) _ hr
    have e4 : (T q.2).1 = C := c4 _ hkN
    have e5 : (T q.2).2.2.2 = false ∧ zv ad v = v ∧ narrow (zty q.1 q.2) v = v ∧ fits (zty q.1 q.2) v = true := by
      have e6 := c5 q.2 hkN
      revert e6 h3
      cases zty q.1 q.2 <;> intro h3 e6
      case int => obtain ⟨x, rfl⟩ := h3; exact ⟨e6 (Or.inl rfl), rfl, rfl, rfl⟩
      case boolean => rcases h3 with rfl | rfl <;> exact ⟨e6 (Or.inr rfl), rfl, by decide +kernel, by decide +kernel⟩
      all_goals exact h3.elim
    have hset := zw_set cA ad σ a (.inr (q.1, fs.set q.2 v))
    have hmap : (fs.map (zv ad)).set q.2 (zv ad v) = (fs.set q.2 v).map (zv ad) := by rw [List.map_set]
    refine va_put (D := D) (ci := q.1) (v := zv ad v) (ty := zty q.1 q.2) (C := C) (T := T) (N := N) hx hb hts c1 (zty q.1) c2 c3 hown hK hP hD hS a (zw_at hfs) hr q.2 hkN (hts _ hlk) (fun x9 h9 => by rw [e4] at h9; exact h9) e5.1 (c2 _ hkN) (by rw [e5.2.1]; exact e5.2.2.1) (by rw [e5.2.1]; exact e5.2.2.2) (by simpa using h1) hd (fun H1 locs1 hP1 hD1 hS1 => ?_)
    rw [hmap] at hP1 hD1
    exact hk _ _ _ h2 ls H1 locs1 hl (by rw [hset]; exact hP1) (by rw [hset]; exact hD1) hS1
  case getstatic j =>
    obtain ⟨a, hj, h2⟩ := zo_e h
    subst hV
    intro ls H locs hl hP hD hS
    rcases hg _ _ hj with ⟨rfl, hlk⟩ | ⟨rfl, hlk⟩
    · exact va_gets hx hb hST.2.2.1 hS hown (hts _ hlk) (fun x9 h9 => h9) hd (hk _ _ _ h2 ls H locs hl hP hD hS)
    · exact va_gets hx hb hST.2.2.2 hS hown (hts _ hlk) (fun x9 h9 => h9) hd (hk _ _ _ h2 ls H locs hl hP hD hS)
  case lookupswitch d ps =>
    obtain ⟨x, r, rfl, h2⟩ := z1i_e h
    subst hV
    intro ls H locs hl hP hD hS
    have hq1 : ((zjo pc d && ps.all (fun o => zjo pc o.2)) && (ps.toList.zip (ps.toList.drop 1)).all (fun (a, next) => a.1 < next.1)) = true := hq
    rw [Bool.and_eq_true, Bool.and_eq_true] at hq1
    obtain ⟨⟨q1, q2⟩, q3⟩ := hq1
    have hjo : zjo pc (Op.lookupswitch.offset ps.toList d x.toInt) = true := by
      have q4 : ∀ o ∈ ps.toList, zjo pc o.2 = true := fun o ho => by
        obtain ⟨i, hi⟩ := List.getElem?_of_mem ho
        rw [Array.getElem?_toList] at hi
        obtain ⟨hlt, he⟩ := Array.getElem?_eq_some_iff.mp hi
        have q5 := Array.all_eq_true.mp q2 i hlt
        rw [he] at q5
        exact q5
      exact z_lookup q1 _ q4 _
    exact lv_lookup hx hb hd q3 rfl (ztg_ok hjo) (h2 ls H locs hl hP hD hS)
  case iaload =>
    obtain ⟨a, x, r, rfl, h2⟩ := zia_e h
    obtain ⟨n, g0, hg0, h1, h2⟩ := zci_e h2
    subst hV
    intro ls H locs hl hP hD hS
    exact va_iald hx hb hK hP a 0 (zw_at hg0) rfl h1 hd (hk _ _ _ h2 ls H locs hl hP hD hS)
  case caload =>
    obtain ⟨a, x, r, rfl, h2⟩ := zia_e h
    obtain ⟨n, g0, hg0, h1, h2⟩ := zcc_e h2
    subst hV
    intro ls H locs hl hP hD hS
    exact va_cald hx hb hK hP a 2 (zw_at hg0) rfl h1 hd (hk _ _ _ h2 ls H locs hl hP hD hS)
  case laload =>
    obtain ⟨a, x, r, rfl, h2⟩ := zia_e h
    obtain ⟨n, g0, hg0, h1, h2⟩ := zcl_e h2
    subst hV
    intro ls H locs hl hP hD hS
    rcases z_look hg0 with hs | ⟨hro, rfl, ht⟩
    · exact va_lald hx hb hK hP a 1 (zw_at hs) rfl h1 hd (hk _ _ _ h2 ls H locs hl hP hD hS)
    · have hT : va_T .long (ad a) 16 (fun j => .long (g0 j)) A s s.heap := by
        rcases ht with ⟨rfl, rfl⟩ | ⟨rfl, rfl⟩
        · exact hST.1
        · exact hST.2.1
      obtain ⟨cell, t1, t2, t3, t4, t5, t6, t7⟩ := hT
      have hlt : x.toNatClampNeg < 16 := Nat.not_le.mp fun q => h1 (Or.inr q)
      refine W.lald (v := .long (g0 x.toNatClampNeg)) hx hb (by rw [hS.2.1 _ (Array.getElem?_eq_some_iff.mp t1).1 t7]; exact t1) t2 t3 ?_ (t6 _ hlt) rfl rfl hd (hk _ _ _ h2 ls H locs hl hP hD hS)
      rintro (q | q)
      · exact h1 (Or.inl q)
      · exact h1 (Or.inr (Nat.le_trans t4 q))
  case arraylength =>
    obtain ⟨a, r, rfl, h2⟩ := z1a_e h
    obtain ⟨n, h2, h3⟩ := zlen_e h2
    subst hV
    intro ls H locs hl hP hD hS
    rcases h3 with ⟨g0, hg0⟩ | ⟨g0, hg0⟩ | ⟨g0, hg0⟩
    · rcases z_look' hg0 with hs | ⟨h9, -⟩
      · exact va_alen hx hb hK hP a 0 (zw_at hs) rfl rfl hd (hk _ _ _ h2 ls H locs hl hP hD hS)
      · cases h9
    · rcases z_look hg0 with hs | ⟨hro, rfl, ht⟩
      · exact va_alen hx hb hK hP a 1 (zw_at hs) rfl rfl hd (hk _ _ _ h2 ls H locs hl hP hD hS)
      · have hT : va_T .long (ad a) 16 (fun j => .long (g0 j)) A s s.heap := by
          rcases ht with ⟨rfl, rfl⟩ | ⟨rfl, rfl⟩
          · exact hST.1
          · exact hST.2.1
        obtain ⟨cell, t1, t2, t3, t4, t5, t6, t7⟩ := hT
        exact W.alen hx hb (by rw [hS.2.1 _ (Array.getElem?_eq_some_iff.mp t1).1 t7]; exact t1) t2 t5 rfl rfl hd (hk _ _ _ h2 ls H locs hl hP hD hS)
    · rcases z_look' hg0 with hs | ⟨h9, -⟩
      · exact va_alen hx hb hK hP a 2 (zw_at hs) rfl rfl hd (hk _ _ _ h2 ls H locs hl hP hD hS)
      · cases h9
  case aaload =>
    obtain ⟨a, x, r, rfl, h2⟩ := zia_e h
    obtain ⟨n, g0, hg0, h1, h2⟩ := zcr_e h2
    obtain ⟨b, hb0, h2⟩ := zo_e h2
    subst hV
    intro ls H locs hl hP hD hS
    have ha := zw_at (cA := cA) (ad := ad) hg0
    have hlt : x.toNatClampNeg < n := Nat.not_le.mp fun q => h1 (Or.inr q)
    exact W.aald (v := .ref (ad b)) (ty := .array .long) hx hb (hP a _ ha) ((hK.2 3 _ rfl).1 n (fun j => va_rf ((g0 j).map ad))) rfl (fun q => by cases q) (by show ¬ (x < 0 ∨ (arrV _ _ _).slots.size ≤ _); rw [arrV_size]; exact h1) (by show (arrV _ _ _).slots[_]? = _; rw [arrV_read _ _ hlt]; show some (va_rf (Option.map ad (g0 x.toNatClampNeg))) = _; rw [hb0]; rfl) rfl rfl hd (hk _ _ _ h2 ls H locs hl hP hD hS)
  case iastore =>
    obtain ⟨a, x, v, r, rfl, h2⟩ := ziia_e h
    obtain ⟨n, g0, hg0, h1, h2⟩ := zci_e h2
    subst hV
    intro ls H locs hl hP hD hS
    have hset := zw_set cA ad σ a (.inl (0, n, .inl (upd g0 x.toNatClampNeg v)))
    exact va_iast hx hb hK hP hD hS a 0 (zw_at hg0) rfl h1 hd (fun H1 locs1 hP1 hD1 hS1 => hk _ _ _ h2 ls H1 locs1 hl (by rw [hset]; exact hP1) (by rw [hset]; exact hD1) hS1)
  case castore =>
    obtain ⟨a, x, v, r, rfl, h2⟩ := ziia_e h
    obtain ⟨n, g0, hg0, h1, h2⟩ := zcc_e h2
    subst hV
    intro ls H locs hl hP hD hS
    have hset := zw_set cA ad σ a (.inl (2, n, .inl (upd g0 x.toNatClampNeg (vp_nar .char v))))
    exact va_cast hx hb hK hP hD hS a 2 (zw_at hg0) rfl h1 hd (fun H1 locs1 hP1 hD1 hS1 => hk _ _ _ h2 ls H1 locs1 hl (by rw [hset]; exact hP1) (by rw [hset]; exact hD1) hS1)
  case lastore =>
    obtain ⟨a, x, v, r, rfl, h2⟩ := zlia_e h
    obtain ⟨n, g0, hg0, h1, h2⟩ := zcl_e h2
    subst hV
    intro ls H locs hl hP hD hS
    have hset := zw_set cA ad σ a (.inl (1, n, .inr (.inl (vp_updL g0 x.toNatClampNeg v))))
    exact va_last hx hb hK hP hD hS a 1 (zw_at hg0) rfl h1 hd (fun H1 locs1 hP1 hD1 hS1 => hk _ _ _ h2 ls H1 locs1 hl (by rw [hset]; exact hP1) (by rw [hset]; exact hD1) hS1)
  case invokestatic j =>
    exact hc _ L st σ _ pc h ⟨j, Or.inl ⟨rfl, hd⟩⟩ (fun st' σ' h' => hk _ _ _ h')
  case invokevirtual j =>
    exact hc _ L st σ _ pc h ⟨j, Or.inr (Or.inl ⟨rfl, hd⟩)⟩ (fun st' σ' h' => hk _ _ _ h')
  case invokespecial j =>
    exact hc _ L st σ _ pc h ⟨j, Or.inr (Or.inr ⟨rfl, hd⟩)⟩ (fun st' σ' h' => hk _ _ _ h')
  case ireturn =>
    simp only [zi] at h
    split at h
    · exact hR _ L σ pc h.2 (Or.inl ⟨_, rfl, h.1, hd⟩)
    · exact h.elim
  case lreturn =>
    simp only [zi] at h
    split at h
    · exact hR _ L σ pc h.2 (Or.inr (Or.inl ⟨_, rfl, h.1, hd⟩))
    · exact h.elim
  case areturn =>
    simp only [zi] at h
    split at h
    · exact hR _ L σ pc h.2 (Or.inr (Or.inr (Or.inl ⟨_, rfl, h.1, hd⟩)))
    · exact h.elim
  case return_ =>
    simp only [zi] at h
    split at h
    · exact hR _ L σ pc h.2 (Or.inr (Or.inr (Or.inr ⟨rfl, h.1, hd⟩)))
    · exact h.elim
  all_goals exact h.elim
/-- the code from a place on, over the machine -/
theorem zx_ok {f : Nat → Option (Nat × Nat)} {kk : Nat → Option Value} {cl : Nat → List Value → List va_E → (List Value → List va_E → Prop) → Prop} {ret : Option FieldType} {g : Nat → Option Nat}
    {RT : Option Value → List va_E → Prop}
    (hV : V = zV (fun H locs g => W p l e R s m args below meth c H locs cells slots Q g) m s.heap D cA ad A nL)
    (hx : p.tables.exec = Jvm.exec) (hb : c.code = cc) (hown : s.vm.findClass own = some m.cls) (hts : ∀ w ∈ zwt, w.before args s = true) (hK : va_K D zcl (ztys cA) s) (hST : zST ad A s)
    (hf : zFok own f) (hkk : zKok own kk) (hg : zGok own g)
    (hc : ∀ (key : Nat) (L : List (Option Value)) (st : List Value) (σ : List va_E) (K : List Value → List va_E → Prop) (pc : Nat), cl key st σ K → (∃ j, (key = 3 * j ∧ decode cc pc = .ok (.invokestatic j, 3)) ∨ (key = 3 * j + 1 ∧ decode cc pc = .ok (.invokevirtual j, 3)) ∨ (key = 3 * j + 2 ∧ decode cc pc = .ok (.invokespecial j, 3))) → (∀ st' σ', K st' σ' → V (pc + 3) L st' σ') → V pc L st σ)
    (hR : ∀ (o : Option Value) (L : List (Option Value)) (σ : List va_E) (pc : Nat), RT o σ → ((∃ x, o = some (.int x) ∧ zret ret x ∧ decode cc pc = .ok (.ireturn, 1)) ∨ (∃ x, o = some (.long x) ∧ ret = some .long ∧ decode cc pc = .ok (.lreturn, 1)) ∨ (∃ a, o = some (.ref a) ∧ ret = some (.array .long) ∧ decode cc pc = .ok (.areturn, 1)) ∨ (o = none ∧ ret = none ∧ decode cc pc = .ok (.return_, 1))) → V pc L o.toList σ) :
    ∀ (is : List Instr) (pc : Nat) (L : List (Option Value)) (st : List Value) (σ : List va_E), zok cc nL pc is = true → zx f kk cl ret g V RT is pc L st σ → V pc L st σ
  | [], _, _, _, _, _, h => h.elim
  | i :: r, pc, L, st, σ, ho, h => by
    by_cases hi : i = .nop
    · subst hi
      exact h
    obtain ⟨h1, h2, h3⟩ := zok_at hi ho
    exact zi_ok hV hx hb hown hts hK hST hf hkk hg hc hR h1 h2 (fun L' st' σ' h' => zx_ok hV hx hb hown hts hK hST hf hkk hg hc hR r _ L' st' σ' h3 h') h
end Sound
