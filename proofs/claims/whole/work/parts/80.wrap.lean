/-! The law's wrappers: methods with handlers -/
abbrev zHh : Type := List (Nat × Nat × Nat × Nat)
/-- a handler of the method for the class r.1 at the place r.2.1: it stores the exception and answers r.2.2 -/
def zHnd (own : String) (cc : ByteArray) (n : Nat) (hh : zHh) (pcI : Nat) (r : String × Nat × Nat) : Prop :=
  ∃ (pre rest : zHh) (lo hi ct : Nat), hh = pre ++ (lo, hi, r.2.1, ct) :: rest ∧ lo ≤ pcI ∧ pcI < hi ∧ ct ≠ 0 ∧ Cond.classLink own ct r.1 ∈ zwt ∧ Cond.castable r.1 r.1 ∈ zxw ∧
    (∀ q ∈ pre, q.2.2.2 ≠ 0 ∧ ∃ nm, Cond.classLink own q.2.2.2 nm ∈ zwt ∧ Cond.not (.castable r.1 nm) ∈ zxw) ∧ Int32.ofInt (r.2.2 : Int) = nI r.2.2 ∧
    ((∃ jl : Fin 4, jl.val < n ∧ decode cc r.2.1 = .ok (.astore_n jl, 1) ∧ decode cc (r.2.1 + 1) = .ok (.iconst (r.2.2 : Int), 1) ∧ decode cc (r.2.1 + 1 + 1) = .ok (.ireturn, 1)) ∨
      (∃ jl : Nat, jl < n ∧ decode cc r.2.1 = .ok (.astore jl, 2) ∧ decode cc (r.2.1 + 2) = .ok (.iconst (r.2.2 : Int), 1) ∧ decode cc (r.2.1 + 2 + 1) = .ok (.ireturn, 1)))
section Catch
variable {p : Program} {l : Launch} {e : Env} {R : Room} {s : State} {m : MethodId} {args : Array Value} {below : List Frame} {meth : Method} {c : Code} {T : State} {locs : List Loc} {cells slots : Nat}
theorem z_catch {own : String} {cc : ByteArray} {n : Nat} {hh : zHh} {A : Nat → Prop} {x : Nat} {r : String × Nat × Nat} {g : JFrame} (X : Stand p l e R s m args below meth c T locs cells slots) (hown : s.vm.findClass own = some m.cls) (hts : ∀ w ∈ zwt, w.before args s = true) (hTS : zTS A s)
    (hhand : c.exceptionTable.toList.map (fun h => (h.startPc, h.endPc, h.handlerPc, h.catchType)) = hh) (hr : zHnd own cc n hh g.pc r) (hx : zExc r.1 x T) (hg : g.method = m) :
    ∃ vm', Stand p l e R s m args below meth c (T.setVm vm') locs cells slots ∧ ∀ target, Steps p.tables e below ((T.setVm vm').setTop { g with pc := r.2.1, stack := [.ref x] }) target → Steps p.tables e below ((T.setTop g).pushFrame (.throwing x)) target := by
  obtain ⟨pre, rest, lo, hi, ct, h1, h2, h3, h4, h5, h6, h7, -⟩ := hr
  obtain ⟨cell, k1, k2, k3⟩ := hx
  have hfX : s.vm.findClass r.1 = some cell.cls := by rw [← X.warmed.alike.findClass]; exact k3
  rw [h1] at hhand
  obtain ⟨pre', q', e1, e2, e3⟩ := List.map_eq_append_iff.mp hhand
  obtain ⟨x', rest', e4, e5, e6⟩ := List.map_eq_cons_iff.mp e3
  have hct : x'.catchType = ct := by have := congrArg (fun q => q.2.2.2) e5; exact this
  have hlo : x'.startPc = lo := by have := congrArg (fun q => q.1) e5; exact this
  have hhi : x'.endPc = hi := by have := congrArg (fun q => q.2.1) e5; exact this
  have hhp : x'.handlerPc = r.2.1 := by have := congrArg (fun q => q.2.2.1) e5; exact this
  have hpl : e.platform.magicAccessors = ({} : Platform).magicAccessors := by rw [X.admits.platform]
  have hcast := zxk_go (a' := args) (zxw_k h6) (State.WarmedH.refl s) (hTS.1 _ h6)
  obtain ⟨c1, t1, w1, w2, w3⟩ := Cond.castable_spec hcast
  cases hfX.symm.trans w1
  cases hfX.symm.trans w2
  obtain ⟨hend, hk0⟩ := X.catches_of_link hown (x := x') (by rw [hct]; exact h4) (name := r.1) (by rw [hct]; exact hts _ h5) hfX w3
  have hpass : ∀ y ∈ pre', RowPassed e.platform s m.cls g.pc cell.cls y := by
    intro y hy
    have hq : (y.startPc, y.endPc, y.handlerPc, y.catchType) ∈ pre := by rw [← e2]; exact List.mem_map.mpr ⟨y, hy, rfl⟩
    obtain ⟨z1, nm, z2, z3⟩ := h7 _ hq
    exact RowPassed.of_words hpl hown z1 (hts _ z2) hfX (zxk_go (a' := args) (zxw_k z3) (State.WarmedH.refl s) (hTS.1 _ z3))
  obtain ⟨vm', X', st⟩ := X.caughtThrough x hg k1 k2 hk0 pre' x' rest' (by rw [e1, e4]) hpass (by simp [covers, hlo, hhi, h2, h3]) hend
  refine ⟨vm', X', fun target h => ?_⟩
  rw [X.pushThrowing_eq]
  rw [hhp] at st
  exact st target h
end Catch
def zwsL (y : MethodName) (cc : ByteArray) (n : Nat) (ret : Option FieldType) (hh : zHh) : List Cond := Cond.codeWith y cc n ret hh :: zwt
def zMetL (l : Launch) (y : MethodName) (cc : ByteArray) (n : Nat) (ret : Option FieldType) (hh : zHh) (rm : Room) (vs : List Value) (σ : List va_E) (K : Option Value → List va_E → Prop) : Prop :=
  ∀ (D : va_G) (cA : Nat → ClassId) (ad : Nat → Nat) (sz : Nat), Met l y (zwsL y cc n ret hh) rm (zPcX D cA ad vs σ sz) (zQ D cA ad K (va_A (zw cA ad σ) sz)) 1 6 (va_A (zw cA ad σ) sz)
theorem MQ_mono {below : List Frame} {Qc : Array Value → State → Outcome → State → Prop} {a : Array Value} {s t : State} {k n : Nat} {A : Nat → Prop} (hk : k ≤ 1) (hn : n ≤ 6) (h : MQ below Qc a s k n A t) : MQ below Qc a s 1 6 A t := by
  obtain ⟨o, h1, h2, h3, L, ⟨h4, h5, h6⟩, h7⟩ := h
  exact ⟨o, h1, h2, h3, L, ⟨h4, h5, h6.mono hk hn⟩, h7⟩
theorem zmetL_of {l : Launch} {y : MethodName} {cc : ByteArray} {n : Nat} {hh : zHh} {rm : Room} {own : String} {f : Nat → Option (Nat × Nat)} {kk : Nat → Option Value} {t : List (Nat × Nat × zSpec)} {g : Nat → Option Nat} {cd : Nat → List Instr} {vs : List Value} {σ : List va_E} {K : Option Value → List va_E → Prop} {pcI : Nat} {q : Nat × Nat × xSpec} {hd : List (String × Nat × Nat)}
    (hl : l.stackTraces = false) (hy : plainName y.cls = true) (hyo : y.cls = own) (hf : zFok own f) (hkk : zKok own kk) (hg : zGok own g) (ht : ∀ q ∈ t, zCok own rm q) (hq : zCokX own rm q) (hhd : ∀ r ∈ hd, zHnd own cc n hh pcI r) (hdec : ∃ j, q.1 = 3 * j + 1 ∧ decode cc pcI = .ok (.invokevirtual j, 3)) (hcd : ∀ pc, zok cc n pc (cd pc) = true) (hn : (zsl vs).length ≤ n) (hR : rm.cells = 1 ∧ rm.slots = 6)
    (h : ∀ V, zgo f kk t (some .int) g cd K V → (∀ L st σ, zcxs q.2.1 q.2.2 (fun X σ' => ∃ r ∈ hd, r.1 = X ∧ K (some (.int (nI r.2.2))) σ') st σ → V pcI L st σ) → V 0 (zL0 n vs) [] σ) : zMetL l y cc n (some .int) hh rm vs σ K := by
  intro D cA ad sz
  refine va_MetW (cc := cc) (maxL := n) (ret := some .int) (hh := hh) hy rfl ?_
  intro p e s m args below meth c s₁ B hml hv
  obtain ⟨rfl, hsz, hP, hK, hD0, hST, hTS⟩ := hv
  have hx := B.exec
  have hb := B.bytes
  have hr := B.returns
  have hts0 := atoms_spec (ws := zwsL y cc n (some .int) hh) B.pre
  have hts : ∀ w ∈ zwt, w.before (vs.map (zv ad)).toArray s = true := fun w hw => hts0 w (List.mem_cons_of_mem _ hw)
  have hown : s.vm.findClass own = some m.cls := by rw [← hyo]; exact findClass_of_methodNamed B.named
  have hlocks := B.notSynchronized
  have hhand : c.exceptionTable.toList.map (fun h => (h.startPc, h.endPc, h.handlerPc, h.catchType)) = hh := by
    obtain ⟨m9, meth9, c9, hn9, h1, h2, h3, h4, h5, -⟩ := Cond.codeWith_spec (hts0 _ List.mem_cons_self)
    cases B.named.symm.trans hn9
    cases B.method.symm.trans h1
    cases (Stand.of_body B).code.symm.trans h2
    exact h5
  subst hsz
  have hD := hD0.self (sz := s.heap.size)
  generalize hAe : va_A (zw cA ad σ) s.heap.size = A at hD hST hTS ⊢
  have hA : ∀ q : Nat, s.heap.size ≤ q → A q := fun q h => by rw [← hAe]; exact Or.inr h
  have hS : va_S A s.heap s.heap [] := va_S.rf
  rw [lg_entry_eq]
  have hroom : (headSpec (zwsL y cc n (some .int) hh) rm).room = rm := rfl
  rw [hroom]
  let V := zV (fun H locs g => W p l e rm s m (vs.map (zv ad)).toArray below meth c H locs 0 0 (MQ below (zQ D cA ad K A) (vs.map (zv ad)).toArray s 1 6 A) g) m s.heap D cA ad A n
  have key : V 0 (zL0 n vs) [] σ := by
    refine h V ⟨fun pc L st σ' hz => ?_, fun pc L L' st σ' hz hle => ?_, fun pc L st σ' i q q' hz hs => ?_⟩ ?_
    · refine zx_ok (V := V) rfl hx hb hown hts hK hST hf hkk hg (zct_ok rfl hx hb hml hown hts hK hST hA ⟨Nat.zero_le _, Nat.zero_le _⟩ ht) ?_ (cd pc) pc L st σ' (hcd pc) hz
      intro o L σ' pc ho hk ls H locs hl hP' hD' hS'
      have hq : ∀ t : State, t.heap = H → s.WarmedH t.vm → zQ D cA ad K A (vs.map (zv ad)).toArray s (.returned (o.map (zv ad))) t := fun t ht hW => by
        rcases ho with ho | ⟨σ0, i, q, q', rfl, hs, ho⟩
        · exact ⟨⟨o, σ', rfl, ho, by rw [ht]; exact hP', hD', va_K.moved hW.alike hK⟩, hS'.F ht⟩
        · exact ⟨⟨o, σ0.set i q', rfl, ho, by rw [ht]; exact z_simset hP' hs, z_simD hD', va_K.moved hW.alike hK⟩, hS'.F ht⟩
      rcases hk with ⟨x, rfl, h1, h2⟩ | ⟨x, rfl, h1, h2⟩ | ⟨a, rfl, h1, h2⟩ | ⟨rfl, h1, h2⟩
      · have w := W.zret (p := p) (l := l) (e := e) (R := rm) (m := m) (below := below) (c := c) (cells := 0) (slots := 0) (ls := ls) (ty := .int) hx hb hr rfl hq hS'.2.2 h2 hlocks
        intro T hT X
        obtain ⟨t, a1, b1⟩ := w T hT X
        exact ⟨t, a1, MQ_mono (by decide) (by decide) b1⟩
      · cases h1
      · cases h1
      · cases h1
    · intro ls H locs hl hP' hD' hS'
      exact hz ls H locs ⟨hl.1, (zle_len _ _ hle).trans hl.2.1, hl.2.2.1, fun i v hi => hl.2.2.2 i v (zle_at _ _ hle i v hi)⟩ hP' hD' hS'
    · intro ls H locs hl hP' hD' hS'
      exact hz ls H locs hl (z_simset hP' hs) (z_simD hD') hS'
    · intro L st σ0 hc ls H locs hl2 hP2 hD2 hS2
      obtain ⟨h1, h2, h3⟩ := hc
      obtain ⟨j, y2, cc2, n2, ret2, rm2, hrm, hM, e2, np, ci, e3, hlv, hrecv, TT, N, hcl⟩ := hq
      obtain ⟨j', g1, g2⟩ := hdec
      have : j' = j := by omega
      subst this
      obtain ⟨a, fs, As, e4, e5⟩ := hrecv _ _ _ h3
      rw [e4] at h3
      have hlen : As.length = np := by
        have : ((st.take q.2.1).reverse).length = q.2.1 := by simp [h1]
        rw [e4, e3] at this
        simpa using this
      have hst : st = (st.take q.2.1) ++ st.drop q.2.1 := (List.take_append_drop _ _).symm
      have e6 : st.take q.2.1 = (Value.ref a :: As).reverse := by rw [← e4, List.reverse_reverse]
      intro T hT X
      have hcat : ((st.drop q.2.1).map (zv ad)).map (fun v => v.category) = (st.drop q.2.1).map fun v => v.category := by
        rw [List.map_map]
        exact List.map_congr_left (fun v _ => by simp [z_zv_cat])
      obtain ⟨x, X', σ', T', LL, X2, hS3, ⟨r, hr1, hr2, hr3⟩, hexc, hP3, hD3, hst3⟩ := z_callX (g := F0 m pcI ls (st.map (zv ad))) (rest := (st.drop q.2.1).map (zv ad)) X hT hx hb hown hts hK hST hTS hA (hM l hl _ _ _ h3) hrm hlv hcl e5 hP2 hD2 hS2 rfl (hl2.1.trans hml.symm) hlen
        (by
          show st.map (zv ad) = _
          conv => lhs; rw [hst]
          rw [e6]
          simp [zv]) (by rw [hcat]; show 2 * 0 + _ ≤ 8; omega) g2 (by rw [hR.1]; exact Nat.le_refl _) (by rw [hR.2]; exact Nat.le_refl _)
      rw [Nat.zero_add, Nat.zero_add] at X2
      have hz := hhd r hr1
      obtain ⟨vm', X3, st3⟩ := z_catch (g := { F0 m pcI ls (st.map (zv ad)) with stack := (st.drop q.2.1).map (zv ad) }) X2 hown hts hTS hhand hz (by rw [hr2]; exact hexc) rfl
      have fin : ∀ (ls' : Array Slot) (pc : Nat), decode cc pc = .ok (.iconst (r.2.2 : Int), 1) → decode cc (pc + 1) = .ok (.ireturn, 1) → Int32.ofInt (r.2.2 : Int) = nI r.2.2 → W p l e rm s m (vs.map (zv ad)).toArray below meth c T'.heap (locs ++ LL) 1 6 (MQ below (zQ D cA ad K A) (vs.map (zv ad)).toArray s 1 6 A) (F0 m pc ls' []) := by
        intro ls' pc d1 d2 hi
        refine lv_iconst hx hb d1 hi ?_
        exact W.zret (ty := .int) hx hb hr rfl (fun t ht hW => ⟨⟨some (.int (nI r.2.2)), σ', rfl, hr3, by rw [ht]; exact hP3, hD3, va_K.moved hW.alike hK⟩, hS3.F ht⟩) hS3.2.2 d2 hlocks
      have w : W p l e rm s m (vs.map (zv ad)).toArray below meth c T'.heap (locs ++ LL) 1 6 (MQ below (zQ D cA ad K A) (vs.map (zv ad)).toArray s 1 6 A) (F0 m r.2.1 ls [.ref x]) := by
        obtain ⟨-, -, -, -, -, -, -, -, -, -, -, -, hi, hz⟩ := hz
        rcases hz with ⟨jl, z1, z2, z3, z4⟩ | ⟨jl, z1, z2, z3, z4⟩
        · exact lv_astore_n hx hb z2 rfl hl2.has z1 rfl (fun ls' _ => fin ls' _ z3 z4 hi)
        · exact lv_astore hx hb z2 hl2.has z1 rfl (fun ls' _ => fin ls' _ z3 z4 hi)
      obtain ⟨t2, a1, b1⟩ := w (T'.setVm vm') rfl X3
      exact ⟨t2, hst3 _ (st3 _ a1), b1⟩
  exact key _ _ _ (zH_entry ad hn) hP hD hS
