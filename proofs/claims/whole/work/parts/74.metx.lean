/-! A method whose end is a throw; a call of one -/
def zPcX (D : va_G) (cA : Nat → ClassId) (ad : Nat → Nat) (vs : List Value) (σ : List va_E) (sz : Nat) : Array Value → State → Prop :=
  va_Pc (vs.map (zv ad)) (fun U => U.heap.size = sz ∧ va_P D zcl (zw cA ad σ) U.heap ∧ va_K D zcl (ztys cA) U ∧ va_D (fun _ => True) (zw cA ad σ) ∧ zST ad (va_A (zw cA ad σ) sz) U ∧ zTS (va_A (zw cA ad σ) sz) U)
def zMetX (l : Launch) (y : MethodName) (cc : ByteArray) (n : Nat) (ret : Option FieldType) (rm : Room) (vs : List Value) (σ : List va_E) (KT : String → List va_E → Prop) : Prop :=
  ∀ (D : va_G) (cA : Nat → ClassId) (ad : Nat → Nat) (sz : Nat), MetFree l y (headSpec (zws y cc n ret) rm) (zPcX D cA ad vs σ sz) (fun _ _ _ _ _ => True) (fun a st o t => zQX D cA ad KT (va_A (zw cA ad σ) sz) a st o t ∧ zEX st t (va_A (zw cA ad σ) sz))
theorem zPcX_blind {D : va_G} {cA : Nat → ClassId} {ad : Nat → Nat} {vs : List Value} {σ : List va_E} {sz : Nat} : FrameBlind (zPcX D cA ad vs σ sz) := by
  intro a U g mk q
  obtain ⟨q0, q1, qP, qK, qD, qS, qT⟩ := q
  exact ⟨q0, q1, qP, va_K.moved (u := U) (U := U.calling g mk a) (Vm.Alike.refl U.vm) qK, qD, zST.moved (u := U) (U := U.calling g mk a) (Vm.Alike.refl U.vm) rfl qS, qT.go (U := U.calling g mk a) (fun _ _ _ => rfl) (State.WarmedH.refl U) (fun _ h => h)⟩
/-- the room of a callee that throws -/
def zRmX (rm R : Room) (n : Nat) : Prop := rm.cells = 1 ∧ rm.slots = 6 ∧ rm.frames + 1 ≤ R.frames ∧ 8 + (n + 11) + rm.locals ≤ R.locals
section CallX
variable {p : Program} {l : Launch} {e : Env} {R : Room} {s : State} {m : MethodId} {args : Array Value} {below : List Frame} {meth : Method} {c : Code} {T : State} {locs : List Loc} {cells slots : Nat}
variable {cc : ByteArray} {own : String} {D : va_G} {cA : Nat → ClassId} {ad : Nat → Nat} {A : Nat → Prop}
/-- a call of an instance's method that throws: behind it the note of the exception lies over the frame -/
theorem z_callX {y : MethodName} {bytes : ByteArray} {maxL : Nat} {ret : Option FieldType} {rm : Room} {σ : List va_E} {KT : String → List va_E → Prop} {b np ci : Nat} {As rest : List Value} {fs : List Value} {j : Nat} {H : Heap} {g : JFrame} {TT : u_T} {N : Nat}
    (X : Stand p l e R s m args below meth c T locs cells slots) (hT : T.heap = H) (hx : p.tables.exec = Jvm.exec) (hb : c.code = cc) (hown : s.vm.findClass own = some m.cls) (hts : ∀ w ∈ zwt, w.before args s = true) (hK : va_K D zcl (ztys cA) s) (hST : zST ad A s) (hTS : zTS A s) (hA : ∀ q, s.heap.size ≤ q → A q)
    (hM : zMetX l y bytes maxL ret rm (.ref b :: As) σ KT) (hrm : zRmX rm R maxL) (hw : zLV own j y bytes maxL ret np) (hcl : zcl[ci]? = some (y.cls, TT, N)) (hobj : σ[b]? = some (.inr (ci, fs)))
    (hP : va_P D zcl (zw cA ad σ) H) (hD : va_D A (zw cA ad σ)) (hS : va_S A s.heap H locs) (hg : g.method = m) (hsize : g.locals.size = c.maxLocals) (hlen : As.length = np) (hstack : g.stack = (As.map (zv ad)).reverse ++ .ref (ad b) :: rest) (hW : 2 * g.monitorRoom + (rest.map fun v => v.category).sum ≤ 8) (hdg : decode cc g.pc = .ok (.invokevirtual j, 3)) (hc : cells + 1 ≤ R.cells) (hs : slots + 6 ≤ R.slots) :
    ∃ (x : Nat) (X' : String) (σ' : List va_E) (T' : State) (L : List Loc), Stand p l e R s m args below meth c T' (locs ++ L) (cells + 1) (slots + 6) ∧ va_S A s.heap T'.heap (locs ++ L) ∧ KT X' σ' ∧ zExc X' x T' ∧ va_P D zcl (zw cA ad σ') T'.heap ∧ va_D A (zw cA ad σ') ∧
      ∀ target, Steps p.tables e below ((T'.setTop { g with stack := rest }).pushFrame (.throwing x)) target → Steps p.tables e below (T.setTop g) target := by
  obtain ⟨w1, w2, w3, ⟨w4, w5⟩, hy1, hy2, hpar⟩ := hw
  have hy : y.cls ≠ "java/lang/invoke/MethodHandle" ∧ y.cls ≠ "java/lang/invoke/VarHandle" := ⟨hy1, hy2⟩
  have hF := z_free (cA := cA) (ad := ad) hA hD hS
  obtain ⟨cellB, hcellB, hobjB, hclsB⟩ : ∃ cellB : Cell, H[ad b]? = some cellB ∧ cellB.vm.isStatics = false ∧ s.vm.findClass y.cls = some cellB.cls := by
    obtain ⟨r, r1, cell, r2, r3, r4, -⟩ := hP b _ (zw_at hobj)
    have hr : r = (y.cls, TT, N) := Option.some.inj (r1.symm.trans hcl)
    subst hr
    exact ⟨cell, r2, by rw [r4]; rfl, by rw [r3]; exact (hK.1 ci _ hcl).2.1⟩
  obtain ⟨mk, methM, hnamed, hmethM, hstM, habM⟩ := Cond.instanceMethod_spec (hts _ w4)
  obtain ⟨methM', cM, hmethM', -, -, -, -, -, -, hsigM⟩ := Cond.code_spec hnamed (hts _ w1)
  cases hmethM.symm.trans hmethM'
  obtain ⟨c2, r2, m2, q1, q2, q3, q4, kP, hkP, hkPi⟩ := Cond.selects_spec (hts _ w5)
  cases hclsB.symm.trans q1
  cases (State.methodFound?_of_named hnamed hy).symm.trans q2
  cases hnamed.symm.trans q3
  have hselP : selectMethod e.platform s.vm cellB.cls mk = .method mk := by rw [Launch.admits_selectMethod X.admits]; exact q4
  have hparn : (As.map (zv ad)).length = methM.sig.parameters.length := by
    rw [hsigM] at hpar
    have := Option.some.inj hpar
    rw [List.length_map, hlen]
    exact this.symm
  obtain ⟨vm₁, X₁, hstep₁⟩ := X.invokevirtual hx hown (hts _ w3) hnamed hmethM hstM hkP hkPi hy (a := ad b) (cell := cellB) (by rw [hT]; exact hcellB)
    (fun z h => by rw [h] at hobjB; cases hobjB) hselP hmethM habM hkP hkPi (g := g) hg (argsL := As.map (zv ad)) (rest := rest) hparn hstack (by rw [hb]; exact hdg)
  have hW₁ := X₁.warmed
  have hn1 := X₁.named hnamed
  obtain ⟨methY, cY, hmY, hcY, -, hlY, -, -, -, -⟩ := Cond.code_spec hn1 (word_at (a' := args) (U := T.setVm vm₁) hW₁ (good_of_word (List.mem_filter.mp w1).2) (hts _ w1))
  obtain ⟨kY, hkY, -⟩ := className_of_methodNamed hn1
  have hinitY : kY.init = .initialized := Cond.initialized_spec (findClass_of_methodNamed hn1) hkY (word_at (a' := args) (U := T.setVm vm₁) hW₁ (good_of_word (List.mem_filter.mp w2).2) (hts _ w2))
  obtain ⟨g1, hg1⟩ : ∃ g1 : JFrame, g1 = { g with stack := rest } := ⟨_, rfl⟩
  have hg1m : g1.method = m := by rw [hg1]; exact hg
  have hdg1 : decode c.code g1.pc = .ok (.invokevirtual j, 3) := by rw [hg1, hb]; exact hdg
  have hAt : At (T.setVm vm₁) g1.method c below := by rw [hg1m]; exact X₁.here
  have hpre : (headSpec (zws y bytes maxL ret) rm).pre.before ((Value.ref b :: As).map (zv ad)).toArray (T.setVm vm₁) = true :=
    atoms_intro fun w hw => word_at hW₁ ((zws_good w1) w hw).2 (hts _ ((zws_good w1) w hw).1)
  have happ : (headSpec (zws y bytes maxL ret) rm).appliesLoose y e.platform ((T.setVm vm₁).calling g1 mk ((Value.ref b :: As).map (zv ad)).toArray) = true :=
    Spec.appliesLoose_calling (g := g1) hAt hdg1 hn1 hkY hinitY
      (X₁.room_calling (g := g1) (R' := rm) (by rw [hg1]; exact hsize) hmY hcY hrm.2.2.1 (by rw [hg1, hlY]; have := hrm.2.2.2; show 2 * g.monitorRoom + (rest.map fun v => v.category).sum + (maxL + 11) + rm.locals ≤ R.locals; omega) (by rw [hrm.1]; exact hc) (by rw [hrm.2.1]; exact hs)) hpre
  obtain ⟨mid, hmid⟩ := hAt.above
  have hfr : ((T.setVm vm₁).setTop g1).frames = (.java g1 :: mid) ++ below := by rw [State.frames_setTop' g1 hAt.top, hmid]; rfl
  have hPc : zPcX D cA ad (.ref b :: As) σ H.size ((Value.ref b :: As).map (zv ad)).toArray ((T.setVm vm₁).calling g1 mk ((Value.ref b :: As).map (zv ad)).toArray) := by
    refine zPcX_blind _ _ _ _ ⟨rfl, by show T.heap.size = H.size; rw [hT], by show va_P D zcl (zw cA ad σ) T.heap; rw [hT]; exact hP, va_K.moved (U := T.setVm vm₁) hW₁.alike hK, hD.weaken (fun _ _ _ _ => trivial), hST.call (U := T.setVm vm₁) hS hT hW₁.alike hF, hTS.go (U := T.setVm vm₁) (fun a h1 h2 => ?_) hW₁ hF⟩
    show T.heap[a]? = _
    rw [hT]; exact hS.2.1 a h1 h2
  obtain ⟨o, s₂, hsteps, -, hend, hq⟩ := Steps.callFree (hM D cA ad H.size) p X.admits X.cas X.clock (acts := []) hfr happ hPc trivial
  obtain ⟨⟨⟨x, X', σ', rfl, hk, hexc, hP', hD', hK'⟩, hz, hkp⟩, L, hW₂, hsame, hL⟩ := hq
  rw [State.frames_setTop' g1 hAt.top, X₁.tail] at hend
  obtain ⟨T', X2, hWT, hsT, e2⟩ := X₁.outOfThrown (g := g1) hg1m hend hW₂ hsame
  have hheap : s₂.heap = T'.heap := by rw [e2, Stand.throwing_heap]
  have hvm : s₂.vm = T'.vm := by rw [e2, Stand.throwing_vm]
  refine ⟨x, X', σ', T', L, X2, ⟨?_, ?_, ?_⟩, hk, ?_, ?_, hD'.weaken (fun _ q _ h => hF q.1 h), ?_⟩
  · rw [← hheap]
    refine Nat.le_trans hS.1 ?_
    have : T.heap.size ≤ s₂.heap.size := hz
    rw [hT] at this
    exact this
  · intro q h1 h2
    have h3 : q < T.heap.size := by rw [hT]; exact Nat.lt_of_lt_of_le h1 hS.1
    rw [← hheap, hkp q h3 (fun z => h2 (hF q z))]
    show T.heap[q]? = _
    rw [hT]
    exact hS.2.1 q h1 h2
  · intro q hq
    rcases List.mem_append.mp hq with h | h
    · exact hS.2.2 q h
    · exact hF _ (hL q h)
  · obtain ⟨cell, k1, k2, k3⟩ := hexc
    exact ⟨cell, by rw [← hheap]; exact k1, k2, by rw [← hvm]; exact k3⟩
  · rw [← hheap]; exact hP'
  · intro target h
    refine hstep₁ _ fun acts => ?_
    rw [doInvoke_state]
    rw [← hg1] at h ⊢
    rw [← e2] at h
    exact hsteps.trans h
end CallX
