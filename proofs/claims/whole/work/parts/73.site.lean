/-! A throw's site: new, dup, ldc, invokespecial <init>, athrow -/
def zExc (X : String) (x : Nat) (t : State) : Prop := ∃ cell : Cell, t.heap[x]? = some cell ∧ cell.vm.isStatics = false ∧ t.vm.findClass X = some cell.cls
def zQX (D : va_G) (cA : Nat → ClassId) (ad : Nat → Nat) (KT : String → List va_E → Prop) (A : Nat → Prop) : Array Value → State → Outcome → State → Prop := fun _ st oc t =>
  (∃ (x : Nat) (X : String) (σ' : List va_E), oc = .threw x ∧ KT X σ' ∧ zExc X x t ∧ va_P D zcl (zw cA ad σ') t.heap ∧ va_D A (zw cA ad σ') ∧ va_K D zcl (ztys cA) t) ∧ va_F A st t
/-- the end of a method that throws: one new cell of six words -/
def zEX (s t : State) (A : Nat → Prop) : Prop := ∃ L, s.WarmedH t.vm ∧ s.sameButNew ({ t with vm := s.vm } : State) L 1 6 ∧ ∀ q ∈ L, A q.base
def zMQX (below : List Frame) (Qc : Array Value → State → Outcome → State → Prop) (a : Array Value) (s : State) (A : Nat → Prop) : State → Prop := fun t =>
  ∃ o, t.status = .running ∧ Ended t below o ∧ Qc a s o t ∧ zEX s t A
section Site
variable {p : Program} {l : Launch} {e : Env} {R : Room} {s : State} {m : MethodId} {args : Array Value} {below : List Frame} {meth : Method} {c : Code} {T : State} {locs : List Loc} {cells slots : Nat}
/-- the same stand, seen from a start with the heap as it is now -/
theorem z_rebase (X : Stand p l e R s m args below meth c T locs cells slots) {k n : Nat} (hc : cells + k ≤ R.cells) (hs : slots + n ≤ R.slots) :
    Stand p l e { R with cells := k, slots := n } ({ s with heap := T.heap, slotsUsed := T.slotsUsed } : State) m args below meth c T [] 0 0 := by
  have hr := X.room
  simp only [State.hasRoom, Bool.and_eq_true, decide_eq_true_eq] at hr
  refine ⟨X.admits, X.cas, X.clock, X.frames, ?_, X.hears, X.method, X.code, X.here, X.tail, X.warmed, X.limits, X.bytes, ?_⟩
  · simp only [State.hasRoom, Bool.and_eq_true, decide_eq_true_eq]
    exact ⟨⟨⟨⟨hr.1.1.1.1, hr.1.1.1.2⟩, X.cellsAbove hc⟩, X.slotsAbove hs⟩, X.book⟩
  · obtain ⟨e1, -⟩ := X.same
    refine ⟨e1, Nat.le_refl _, Nat.le_refl _, ?_, ?_, fun a c' h => ⟨c', h, rfl, rfl, fun _ _ => rfl⟩⟩
    · show T.slotsUsed = T.slotsUsed + ((T.heap.toList.drop T.heap.size).map (fun x => x.slots.size)).sum
      rw [List.drop_eq_nil_of_le (by simp)]; rfl
    · show ((T.heap.toList.drop T.heap.size).map (fun x => x.slots.size)).sum ≤ 0
      rw [List.drop_eq_nil_of_le (by simp)]; exact Nat.le_refl _
theorem z_rejoin (X : Stand p l e R s m args below meth c T locs cells slots) {U : State} {k n : Nat} (h : ({ s with heap := T.heap, slotsUsed := T.slotsUsed } : State).sameButNew ({ U with vm := s.vm } : State) [] k n) :
    s.sameButNew ({ U with vm := s.vm } : State) locs (cells + k) (slots + n) := by
  have h2 : (T.setVm s.vm).sameButNew ({ U with vm := s.vm } : State) [] k n := by
    obtain ⟨e1, h1⟩ := h
    refine ⟨?_, h1⟩
    have e2 : T.setVm s.vm = { s.setFrames (T.setVm s.vm).frames with heap := (T.setVm s.vm).heap, slotsUsed := (T.setVm s.vm).slotsUsed } := X.same.1
    rw [e2]
    refine e1.trans ?_
    show ({ ({ s with heap := T.heap, slotsUsed := T.slotsUsed } : State).setFrames U.frames with heap := U.heap, slotsUsed := U.slotsUsed } : State) = { (({ s.setFrames (T.setVm s.vm).frames with heap := T.heap, slotsUsed := T.slotsUsed } : State).setFrames U.frames) with heap := U.heap, slotsUsed := U.slotsUsed }
    have e3 : (s.setFrames (T.setVm s.vm).frames).setFrames U.frames = s.setFrames U.frames := State.setFrames_setFrames _ _ _
    have e4 : ({ (({ s.setFrames (T.setVm s.vm).frames with heap := T.heap, slotsUsed := T.slotsUsed } : State).setFrames U.frames) with heap := U.heap, slotsUsed := U.slotsUsed } : State) = { ((s.setFrames (T.setVm s.vm).frames).setFrames U.frames) with heap := U.heap, slotsUsed := U.slotsUsed } := rfl
    rw [e4, e3]
    rfl
  have h3 := X.same.trans h2
  rw [List.append_nil] at h3
  exact h3
theorem z_ldcs {cc : ByteArray} {H : Heap} {Q : State → Prop} (hexec : p.tables.exec = Jvm.exec) (hb : c.code = cc) {own text : String} {index : Nat} (hown : s.vm.findClass own = some m.cls) (hconst : (Jvm.Cond.stringRef own index text).before args s = true) {g : JFrame} (hg : g.method = m) (hdg : decode cc g.pc = .ok (.ldc index, 2))
    (k : ∀ a : Nat, W p l e R s m args below meth c H locs cells slots Q { g with pc := g.pc + 2, stack := .ref a :: g.stack }) : W p l e R s m args below meth c H locs cells slots Q g := by
  intro T hT X
  obtain ⟨kk, cf, i, a, h1, h2, h3, h4, h5, hev⟩ := Cond.stringRef_spec hown hconst
  obtain ⟨t, a1, b1⟩ := k a T hT X
  exact ⟨t, X.ldcString hexec hown hconst hev hg (by rw [hb]; exact hdg) t a1, b1⟩
/-- what a site is: place, class entry, class, string entry, text, constructor's entry -/
def zSite (own : String) (cc : ByteArray) (pc : Nat) (X : String) : Prop := ∃ (ic i2 i3 : Nat) (txt : String), Cond.classLink own ic X ∈ zwt ∧ Cond.instantiable X 6 ∈ zwt ∧ Cond.initialized X ∈ zwt ∧ Cond.stringRef own i2 txt ∈ zxw ∧ zown own i3 X = true ∧
  decode cc pc = .ok (.new ic, 3) ∧ decode cc (pc + 3) = .ok (.dup, 1) ∧ decode cc (pc + 4) = .ok (.ldc i2, 2) ∧ decode cc (pc + 6) = .ok (.invokespecial i3, 3) ∧ decode cc (pc + 9) = .ok (.athrow, 1)
theorem z_site {cc : ByteArray} {own : String} {D : va_G} {cA : Nat → ClassId} {ad : Nat → Nat} {A : Nat → Prop} {KT : String → List va_E → Prop} {σ : List va_E} {H : Heap} {ls : Array Slot} {pc : Nat} {X : String}
    (htr : l.stackTraces = false) (hx : p.tables.exec = Jvm.exec) (hb : c.code = cc) (hml : c.maxLocals = ls.size) (hown : s.vm.findClass own = some m.cls) (hts : ∀ w ∈ zwt, w.before args s = true) (hTS : zTS A s) (hlocks : meth.locks = false) (hhand : c.exceptionTable.isEmpty = true)
    (hA : ∀ q, s.heap.size ≤ q → A q) (hR : 1 ≤ R.cells ∧ 6 ≤ R.slots ∧ 6 ≤ R.frames ∧ 83 ≤ R.locals) (hK : va_K D zcl (ztys cA) s)
    (hP : va_P D zcl (zw cA ad σ) H) (hD : va_D A (zw cA ad σ)) (hS : va_S A s.heap H locs) (hs : zSite own cc pc X) (hk : KT X σ) :
    W p l e R s m args below meth c H locs 0 0 (zMQX below (zQX D cA ad KT A) args s A) (F0 m pc ls []) := by
  obtain ⟨ic, i2, i3, txt, w1, w2, w3, w4, w5, d0, d3, d4, d6, d9⟩ := hs
  intro T hT X0
  obtain ⟨s', hs'⟩ : ∃ s' : State, s' = { s with heap := T.heap, slotsUsed := T.slotsUsed } := ⟨_, rfl⟩
  have X1 := z_rebase X0 (k := 1) (n := 6) (by omega) (by omega)
  rw [← hs'] at X1
  have hvm : s'.vm = s.vm := by rw [hs']
  have hh : s'.heap = H := by rw [hs']; exact hT
  have hWs : s.WarmedH s'.vm := by rw [hvm]; exact State.WarmedH.refl s
  have hts' : ∀ w ∈ zwt, w.before args s' = true := fun w hw => word_at hWs (good_of_word (List.mem_filter.mp hw).2) (hts w hw)
  have hTS' : zTS A s' := hTS.go (fun a h1 h2 => by rw [hh]; exact hS.2.1 a h1 h2) hWs (fun _ h => h)
  have hown' : s'.vm.findClass own = some m.cls := by rw [hvm]; exact hown
  have htr' : e.platform.stackTraces = false := by
    have := X0.admits.2.2.2.2.1
    rw [this]; exact htr
  have key : W p l e { R with cells := 1, slots := 6 } s' m args below meth c H [] 0 0 (zMQX below (zQX D cA ad KT A) args s A) (F0 m pc ls []) := by
    refine W.newc hx hb hown' (hts' _ w1) (hts' _ w2) (hts' _ w3) rfl d0 (Nat.le_refl _) (Nat.le_refl _) fun cC kC f1 f2 f3 f4 => ?_
    refine lv_dup hx hb d3 rfl ?_
    refine z_ldcs hx hb hown' (zxk_go (zxw_k w4) (State.WarmedH.refl s') (hTS'.1 _ w4)) rfl d4 fun a => ?_
    intro T2 hT2 X2
    obtain ⟨U, st, hrun, hend, hW, hsame, ce, hce, hown2⟩ := X2.ctorThrowS hx htr' (names := zrn) hown' (by unfold zown at w5; rw [Bool.and_eq_true] at w5; exact w5.2) (by decide +kernel) (zown_ok w5 hts' hTS') (fun x hx => by cases hx) f1 f2 (a := H.size) (by rw [hT2]; exact Array.getElem?_push_size) (by rw [hh]; exact Nat.le_refl _) (msg := .ref a) rfl (g := F0 m (pc + 3 + 1 + 2) ls (.ref a :: .ref H.size :: .ref H.size :: [])) rfl hml.symm rfl rfl (rest := []) rfl (by rw [hb]; exact d6) (by rw [hb]; exact d9)
      (fun x hx => by
        have : c.exceptionTable = #[] := Array.isEmpty_iff.mp hhand
        rw [this] at hx
        cases hx) (by show 2 + 3 < R.frames; omega) (by show 2 * 0 + (1 + 0) + (13 * (2 + 1) + 42) ≤ R.locals; omega) hlocks
    have hcell : ∀ q, q < H.size → U.heap[q]? = H[q]? := fun q hq => by
      have h1 : s'.heap[q]? = some (s'.heap[q]'(by rw [hh]; exact hq)) := Array.getElem?_eq_getElem _
      have h2 := hsame.old_cell h1
      rw [← hh, h1]
      exact h2
    have hsz : H.size ≤ U.heap.size := by have := hsame.2.1; rw [hh] at this; exact this
    have hWU : s.WarmedH U.vm := by
      have := State.WarmedH.trans hWs hW
      exact this
    refine ⟨U, st, .threw H.size, hrun, hend, ⟨⟨H.size, X, σ, rfl, hk, ⟨ce, hce, by rw [hown2.vm]; rfl, by rw [hW.alike.findClass]; exact hown2.cls⟩, ?_, hD, va_K.moved hWU.alike hK⟩, Nat.le_trans hS.1 hsz, fun q h1 h2 => by rw [hcell q (Nat.lt_of_lt_of_le h1 hS.1)]; exact hS.2.1 q h1 h2⟩, locs, hWU, ?_, hS.2.2⟩
    · exact hP.kept (fun k x hx => hcell x.1 ((hP k x hx).lt))
    · have := z_rejoin X0 (U := U) (k := 1) (n := 6) (by rw [← hs', ← hvm]; exact hsame)
      rw [Nat.zero_add, Nat.zero_add] at this
      exact this
  exact key T hT X1
end Site
