/-- a contract's end: the answer and the store -/
def zQ (D : va_G) (cA : Nat → ClassId) (ad : Nat → Nat) (K : Option Value → List va_E → Prop) (A : Nat → Prop) : Array Value → State → Outcome → State → Prop := fun _ st oc t =>
  (∃ (r : Option Value) (σ' : List va_E), oc = .returned (r.map (zv ad)) ∧ K r σ' ∧ va_P D zcl (zw cA ad σ') t.heap ∧ va_D A (zw cA ad σ') ∧ va_K D zcl (ztys cA) t) ∧ va_F A st t
def zPc (D : va_G) (cA : Nat → ClassId) (ad : Nat → Nat) (vs : List Value) (σ : List va_E) (sz : Nat) : Array Value → State → Prop :=
  va_Pc (vs.map (zv ad)) (fun U => U.heap.size = sz ∧ va_P D zcl (zw cA ad σ) U.heap ∧ va_K D zcl (ztys cA) U ∧ va_D (fun _ => True) (zw cA ad σ) ∧ zST ad (va_A (zw cA ad σ) sz) U)
/-- a method's contract: with these arguments and this store it answers so that K holds of the answer and the new store; no cell is new -/
def zMet (l : Launch) (y : MethodName) (cc : ByteArray) (n : Nat) (ret : Option FieldType) (rm : Room) (vs : List Value) (σ : List va_E) (K : Option Value → List va_E → Prop) : Prop :=
  ∀ (D : va_G) (cA : Nat → ClassId) (ad : Nat → Nat) (sz : Nat), Met l y (zws y cc n ret) rm (zPc D cA ad vs σ sz) (zQ D cA ad K (va_A (zw cA ad σ) sz)) 0 0 (va_A (zw cA ad σ) sz)
theorem zST.moved {ad : Nat → Nat} {A : Nat → Prop} {u U : State} (hvm : u.vm.Alike U.vm) (hh : U.heap = u.heap) (h : zST ad A u) : zST ad A U := by
  unfold zST at h ⊢
  rw [hh]
  exact ⟨h.1.moved hvm, h.2.1.moved hvm, h.2.2.1.moved hvm, h.2.2.2.moved hvm⟩
/-- the static arrays, for a callee: the heap has changed within A alone, the callee's cells lie in A -/
theorem zST.call {ad : Nat → Nat} {A B : Nat → Prop} {s U : State} {H : Heap} {locs : List Loc} (h : zST ad A s) (hS : va_S A s.heap H locs) (hU : U.heap = H) (hvm : s.vm.Alike U.vm) (hB : ∀ q, B q → A q) : zST ad B U := by
  have hq : ∀ a : Nat, a < s.heap.size → ¬ A a → H[a]? = s.heap[a]? := hS.2.1
  unfold zST at h ⊢
  rw [hU]
  exact ⟨((h.1.kept hq).narrow hB).moved hvm, ((h.2.1.kept hq).narrow hB).moved hvm, ((h.2.2.1.kept hq).narrow hB).moved hvm, ((h.2.2.2.kept hq).narrow hB).moved hvm⟩
theorem zPc_blind {D : va_G} {cA : Nat → ClassId} {ad : Nat → Nat} {vs : List Value} {σ : List va_E} {sz : Nat} : FrameBlind (zPc D cA ad vs σ sz) := by
  intro a U g mk q
  obtain ⟨q0, q1, qP, qK, qD, qS⟩ := q
  exact ⟨q0, q1, qP, va_K.moved (u := U) (U := U.calling g mk a) (Vm.Alike.refl U.vm) qK, qD, zST.moved (u := U) (U := U.calling g mk a) (Vm.Alike.refl U.vm) rfl qS⟩
def zMH (y : MethodName) (np : Nat) : Prop := y.cls ≠ "java/lang/invoke/MethodHandle" ∧ y.cls ≠ "java/lang/invoke/VarHandle" ∧ (parseMethodDescriptor y.desc).map (fun d => d.parameters.length) = some np
/-- a link of a static method, of an instance's method -/
def zLS (own : String) (j : Nat) (y : MethodName) (cc : ByteArray) (n : Nat) (ret : Option FieldType) (np : Nat) : Prop := Cond.code y cc n ret ∈ zwt ∧ Cond.initialized y.cls ∈ zwt ∧ Cond.methodLink own j y ∈ zwt ∧ Cond.static y ∈ zwt ∧ zMH y np
def zLV (own : String) (j : Nat) (y : MethodName) (cc : ByteArray) (n : Nat) (ret : Option FieldType) (np : Nat) : Prop := Cond.code y cc n ret ∈ zwt ∧ Cond.initialized y.cls ∈ zwt ∧ Cond.methodLink own j y ∈ zwt ∧ (Cond.instanceMethod y ∈ zwt ∧ Cond.selects y.cls y y ∈ zwt) ∧ zMH y np
/-- the room of a callee within the caller's -/
def zRm (rm R : Room) (n : Nat) : Prop := rm.cells = 0 ∧ rm.slots = 0 ∧ rm.frames + 1 ≤ R.frames ∧ 8 + (n + 11) + rm.locals ≤ R.locals
abbrev zSpec : Type := List Value → List va_E → (Option Value → List va_E → Prop) → Prop
/-- a call: n words of the stack are the arguments -/
def zcs (n : Nat) (S : zSpec) (st : List Value) (σ : List va_E) (K : List Value → List va_E → Prop) : Prop := n ≤ st.length ∧ ((st.drop n).map fun v => v.category).sum ≤ 8 ∧ S (st.take n).reverse σ (fun r σ' => K (r.toList ++ st.drop n) σ')
def zct (t : List (Nat × Nat × zSpec)) (key : Nat) (st : List Value) (σ : List va_E) (K : List Value → List va_E → Prop) : Prop := match t with
  | [] => False
  | q :: r => if key = q.1 then zcs q.2.1 q.2.2 st σ K else zct r key st σ K
/-- System.arraycopy over rows of longs -/
def sp_JS_arraycopy : zSpec := fun vs σ K => ∃ (a0 a1 : Nat) (sp dp n : Int32) (n0 n1 : Nat) (f g : Nat → Int64), vs = [.ref a0, .int sp, .ref a1, .int dp, .int n] ∧ σ[a0]? = some (.inl (1, n0, .inr (.inl f))) ∧ σ[a1]? = some (.inl (1, n1, .inr (.inl g))) ∧ (¬ sp < 0 ∧ ¬ dp < 0 ∧ ¬ n < 0) ∧ sp.toNatClampNeg + n.toNatClampNeg ≤ n0 ∧ dp.toNatClampNeg + n.toNatClampNeg ≤ n1 ∧ K none (σ.set a1 (.inl (1, n1, .inr (.inl (va_cpy f g sp.toNatClampNeg dp.toNatClampNeg n.toNatClampNeg)))))
theorem zwn_arraycopy : Cond.native arraycopyName ∈ zwt ∧ Cond.static arraycopyName ∈ zwt ∧ Cond.initialized "java/lang/System" ∈ zwt := ⟨by decide +kernel, by decide +kernel, by decide +kernel⟩
/-- an entry of a table of calls is right -/
def zCok (own : String) (R : Room) (q : Nat × Nat × zSpec) : Prop := (q.2.2 = sp_JS_arraycopy ∧ q.2.1 = 5 ∧ ∃ j, q.1 = 3 * j ∧ Cond.methodLink own j arraycopyName ∈ zwt ∧ 1 ≤ R.frames ∧ 8 + (nativeFrameWords "java/lang/System" "arraycopy" 5 + 11) ≤ R.locals) ∨ ∃ (j : Nat) (y : MethodName) (cc : ByteArray) (n : Nat) (ret : Option FieldType) (rm : Room), zRm rm R n ∧ (∀ l vs σ K, q.2.2 vs σ K → zMet l y cc n ret rm vs σ K) ∧
  ((q.1 = 3 * j ∧ zLS own j y cc n ret q.2.1) ∨ (q.1 = 3 * j + 1 ∧ ∃ np ci, q.2.1 = np + 1 ∧ zLV own j y cc n ret np ∧ (∀ vs σ K, q.2.2 vs σ K → ∃ a fs r, vs = .ref a :: r ∧ σ[a]? = some (.inr (ci, fs))) ∧ ∃ T N, zcl[ci]? = some (y.cls, T, N)))
section Call
variable {p : Program} {l : Launch} {e : Env} {R : Room} {s : State} {m : MethodId} {args : Array Value} {below : List Frame} {meth : Method} {c : Code} {cells slots : Nat} {Q : State → Prop}
variable {cc : ByteArray} {own : String} {D : va_G} {cA : Nat → ClassId} {ad : Nat → Nat} {A : Nat → Prop} {nL : Nat}
theorem z_free {σ : List va_E} {H : Heap} {locs : List Loc} (hA : ∀ q, s.heap.size ≤ q → A q) (hD : va_D A (zw cA ad σ)) (hS : va_S A s.heap H locs) : ∀ q, va_A (zw cA ad σ) H.size q → A q := by
  rintro q (⟨k, e, h⟩ | h)
  · exact hD.2 k (q, e) h
  · exact hA q (Nat.le_trans hS.1 h)
theorem z_back {L : List (Option Value)} {rest : List Value} {σ : List va_E} {K : Option Value → List va_E → Prop} {pc : Nat} {ls : Array Slot} {H : Heap} {locs : List Loc} {st0 : List Value} {a : Array Value}
    (hA : ∀ q, s.heap.size ≤ q → A q) (hl : zH ad nL ls L) (hD : va_D A (zw cA ad σ)) (hS : va_S A s.heap H locs)
    (hk : ∀ r σ', K r σ' → zV (fun H locs g => W p l e R s m args below meth c H locs cells slots Q g) m s.heap D cA ad A nL (pc + 3) L (r.toList ++ rest) σ')
    (hr : va_Run p l e R s m args below meth c H locs cells slots 0 0 (F0 m pc ls st0) (rest.map (zv ad)) (zQ D cA ad K (va_A (zw cA ad σ) H.size) a) (va_A (zw cA ad σ) H.size)) :
    W p l e R s m args below meth c H locs cells slots Q (F0 m pc ls st0) := by
  have hF := z_free (cA := cA) (ad := ad) hA hD hS
  intro T hT X
  obtain ⟨v, st₀, t, T', L1, h0, X', hL, e1, e2, ⟨⟨r, σ', hv, hK1, hP1, hD1, -⟩, hz, hkp⟩, st⟩ := hr T hT X
  cases hv
  rw [h0] at hz hkp
  have hS' : va_S A s.heap T'.heap (locs ++ L1) := ⟨Nat.le_trans hS.1 (by rw [e1]; exact hz), fun q h1 h2 => by rw [e1, hkp q (Nat.lt_of_lt_of_le h1 hS.1) (fun z => h2 (hF q z))]; exact hS.2.1 q h1 h2, fun q hq => by
      rcases List.mem_append.mp hq with h | h
      · exact hS.2.2 q h
      · exact hF _ (hL q h)⟩
  obtain ⟨t2, a1, b1⟩ := hk r σ' hK1 ls T'.heap (locs ++ L1) hl (by rw [e1]; exact hP1) (hD1.weaken (fun _ q _ h => hF q.1 h)) hS' T' rfl X'
  refine ⟨t2, st t2 ?_, b1⟩
  have e3 : (r.toList ++ rest).map (zv ad) = (r.map (zv ad)).toList ++ rest.map (zv ad) := by cases r <;> rfl
  rw [e3] at a1
  exact a1
theorem z_pre {vs : List Value} {σ : List va_E} {H : Heap} {locs : List Loc} (hA : ∀ q, s.heap.size ≤ q → A q) (hK : va_K D zcl (ztys cA) s) (hST : zST ad A s) (hP : va_P D zcl (zw cA ad σ) H) (hD : va_D A (zw cA ad σ)) (hS : va_S A s.heap H locs) :
    ∀ U : State, U.heap = H → s.WarmedH U.vm → zPc D cA ad vs σ H.size (vs.map (zv ad)).toArray U := fun U hU hW =>
  ⟨rfl, by rw [hU], by rw [hU]; exact hP, va_K.moved hW.alike hK, hD.weaken (fun _ _ _ _ => trivial), hST.call hS hU hW.alike (z_free hA hD hS)⟩
theorem zct_ok {t : List (Nat × Nat × zSpec)} {V : Nat → List (Option Value) → List Value → List va_E → Prop}
    (hV : V = zV (fun H locs g => W p l e R s m args below meth c H locs cells slots Q g) m s.heap D cA ad A nL)
    (hx : p.tables.exec = Jvm.exec) (hb : c.code = cc) (hml : c.maxLocals = nL) (hown : s.vm.findClass own = some m.cls) (hts : ∀ w ∈ zwt, w.before args s = true) (hK : va_K D zcl (ztys cA) s) (hST : zST ad A s) (hA : ∀ q, s.heap.size ≤ q → A q)
    (hroom : cells ≤ R.cells ∧ slots ≤ R.slots) (ht : ∀ q ∈ t, zCok own R q) :
    ∀ (key : Nat) (L : List (Option Value)) (st : List Value) (σ : List va_E) (K : List Value → List va_E → Prop) (pc : Nat), zct t key st σ K → (∃ j, (key = 3 * j ∧ decode cc pc = .ok (.invokestatic j, 3)) ∨ (key = 3 * j + 1 ∧ decode cc pc = .ok (.invokevirtual j, 3)) ∨ (key = 3 * j + 2 ∧ decode cc pc = .ok (.invokespecial j, 3))) → (∀ st' σ', K st' σ' → V (pc + 3) L st' σ') → V pc L st σ := by
  intro key L st σ K pc h hd hk
  have hh : ∃ q ∈ t, key = q.1 ∧ zcs q.2.1 q.2.2 st σ K := by
    clear ht
    induction t with
    | nil => exact h.elim
    | cons q r ih =>
      unfold zct at h
      by_cases hq : key = q.1
      · rw [if_pos hq] at h
        exact ⟨q, List.mem_cons_self, hq, h⟩
      · rw [if_neg hq] at h
        obtain ⟨q', h1, h2⟩ := ih h
        exact ⟨q', List.mem_cons_of_mem _ h1, h2⟩
  obtain ⟨q, hq, hkey, h1, h2, h3⟩ := hh
  rcases ht q hq with ⟨e1, e2, j, e3, e4, e5, e6⟩ | ⟨j, y, cc', n', ret', rm, hrm, hM, hkind⟩
  · obtain ⟨j', ⟨g1, g2⟩ | ⟨g1, g2⟩ | ⟨g1, g2⟩⟩ := hd
    · have : j' = j := by omega
      subst this
      rw [e1] at h3
      obtain ⟨a0, a1, sp, dp, n, n0, n1, f, g, b1, b2, b3, ⟨b4, b5, b6⟩, b7, b8, b9⟩ := h3
      have hst : st = (st.take q.2.1) ++ st.drop q.2.1 := (List.take_append_drop _ _).symm
      have e3' : st.take q.2.1 = [.int n, .int dp, .ref a1, .int sp, .ref a0] := by rw [← List.reverse_reverse (st.take q.2.1), b1]; rfl
      rw [e3'] at hst
      generalize st.drop q.2.1 = rest at *
      subst hst
      subst hV
      intro ls H locs hl hP hD hS
      have hcat : (rest.map (zv ad)).map (fun v => v.category) = rest.map fun v => v.category := by
        rw [List.map_map]
        exact List.map_congr_left (fun v _ => by simp [z_zv_cat])
      have hset := zw_set cA ad σ a1 (.inl (1, n1, .inr (.inl (va_cpy f g sp.toNatClampNeg dp.toNatClampNeg n.toNatClampNeg))))
      exact va_copyl hx hb (hml.trans hl.1.symm) hown (hts _ e4) (hts _ zwn_arraycopy.1) (hts _ zwn_arraycopy.2.1) (hts _ zwn_arraycopy.2.2) hK hP hD hS a0 a1 1 1 (zw_at b2) (zw_at b3) rfl rfl rfl b4 b5 b6 b7 b8 (fun _ _ => rfl) e5 (by show ((rest.map (zv ad)).map fun v => v.category).sum + _ ≤ _; rw [hcat]; omega) g2 (fun H1 locs1 hP1 hD1 hS1 => hk _ _ b9 ls H1 locs1 hl (by rw [hset]; exact hP1) (by rw [hset]; exact hD1) hS1)
    · omega
    · omega
  have hM := hM l _ _ _ h3
  have hst : st = (st.take q.2.1) ++ st.drop q.2.1 := (List.take_append_drop _ _).symm
  subst hV
  intro ls H locs hl hP hD hS
  have hcat : ((st.drop q.2.1).map (zv ad)).map (fun v => v.category) = (st.drop q.2.1).map fun v => v.category := by
    rw [List.map_map]
    exact List.map_congr_left (fun v _ => by simp [z_zv_cat])
  have hroom2 : 2 * (F0 m pc ls (st.map (zv ad))).monitorRoom + (((st.drop q.2.1).map (zv ad)).map fun v => v.category).sum ≤ 8 := lv_room (by rw [hcat]; exact h2)
  have hf : cells + 0 ≤ R.cells ∧ slots + 0 ≤ R.slots := hroom
  rcases hkind with ⟨k1, w1, w2, w3, w4, w5⟩ | ⟨k1, np, ci, k2, ⟨w1, w2, w3, w4, w5⟩, hrecv, T, N, hcl⟩
  · obtain ⟨j', ⟨g1, g2⟩ | ⟨g1, g2⟩ | ⟨g1, g2⟩⟩ := hd
    · have : j' = j := by omega
      subst this
      have cb := callB_of (R := R) (rm := rm) (mc := 0) (ms := 0) q.2.1 hts (zws_good w1) rfl hrm.1 hrm.2.1 (hts _ w2) (hts _ w3) w5 hrm.2.2
      have hlen : (((st.take q.2.1).reverse).map (zv ad)).length = q.2.1 := by simp [h1]
      refine z_back (ls := ls) hA hl hD hS (fun r σ' hr => hk _ _ hr) (va_runS ⟨hx, hb, hml, hown, hts⟩ (hM D cA ad H.size) ⟨cb, hts _ w4⟩ ⟨zPc_blind, z_pre hA hK hST hP hD hS⟩ rfl hlen hl.1 ?_ hroom2 g2 hf)
      show st.map (zv ad) = _
      conv => lhs; rw [hst]
      simp
    · omega
    · omega
  · obtain ⟨j', ⟨g1, g2⟩ | ⟨g1, g2⟩ | ⟨g1, g2⟩⟩ := hd
    · omega
    · have : j' = j := by omega
      subst this
      obtain ⟨a, fs, As, e1, e2⟩ := hrecv _ _ _ h3
      have cb := callB_of (R := R) (rm := rm) (mc := 0) (ms := 0) np hts (zws_good w1) rfl hrm.1 hrm.2.1 (hts _ w2) (hts _ w3) w5 hrm.2.2
      have hlen : (As.map (zv ad)).length = np := by
        have : ((st.take q.2.1).reverse).length = q.2.1 := by simp [h1]
        rw [e1, k2] at this
        simpa using this
      rw [e1] at hM
      have hcell : ∃ cellB : Cell, H[ad a]? = some cellB ∧ cellB.vm.isStatics = false ∧ s.vm.findClass y.cls = some cellB.cls := by
        obtain ⟨r, r1, cell, r2, r3, r4, -⟩ := hP a _ (zw_at e2)
        have hr : r = (y.cls, T, N) := Option.some.inj (r1.symm.trans hcl)
        subst hr
        exact ⟨cell, r2, by rw [r4]; rfl, by rw [r3]; exact (hK.1 ci _ hcl).2.1⟩
      refine z_back (ls := ls) hA hl hD hS (fun r σ' hr => hk _ _ hr) (va_runV (C := y.cls) ⟨hx, hb, hml, hown, hts⟩ (hM D cA ad H.size) ⟨cb, hts _ w4.1, hts _ w4.2⟩ ⟨zPc_blind, hcell, z_pre (vs := .ref a :: As) hA hK hST hP hD hS⟩ rfl hlen hl.1 ?_ hroom2 g2 hf)
      show st.map (zv ad) = _
      conv => lhs; rw [hst]
      have e3 : st.take q.2.1 = (Value.ref a :: As).reverse := by rw [← e1, List.reverse_reverse]
      rw [e3]
      simp [zv]
    · omega
end Call
