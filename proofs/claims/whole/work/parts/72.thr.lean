/-! Throws. Words that the tables' filter leaves out, Throwable's two static fields, and a throw's site -/
def zxk : Cond → Bool
  | .declares _ => true
  | .castable _ _ => true
  | .stringRef _ _ _ => true
  | .not (.castable _ _) => true
  | _ => false
def xISE : String := "java/lang/IllegalStateException"
def xIAE : String := "java/lang/IllegalArgumentException"
def xAE : String := "java/lang/ArithmeticException"
def xIOB : String := "java/lang/IndexOutOfBoundsException"
def zxn : List Cond := [.not (.castable xISE xIOB), .not (.castable xISE xIAE), .not (.castable xAE xIAE), .not (.castable xAE xISE)]
def zxw : List Cond := lw_tbl.filter zxk ++ zxn
theorem zxw_k {w : Cond} (h : w ∈ zxw) : zxk w = true := by
  rcases List.mem_append.mp h with h | h
  · exact (List.mem_filter.mp h).2
  · simp only [zxn, List.mem_cons, List.not_mem_nil, or_false] at h
    rcases h with rfl | rfl | rfl | rfl <;> rfl
theorem zxk_go {w : Cond} (hk : zxk w = true) {a a' : Array Value} {s U : State} (hW : s.WarmedH U.vm) (h : w.before a s = true) : w.before a' U = true := by
  unfold zxk at hk
  split at hk
  · rename_i x
    have e : (Cond.declares x).before a' U = (Cond.declares x).before a (s.setVm U.vm) := rfl
    rw [e, Cond.declares_setVm hW.alike]; exact h
  · rename_i x y
    have e : (Cond.castable x y).before a' U = (Cond.castable x y).before a (s.setVm U.vm) := rfl
    rw [e, Cond.castable_setVm hW.alike]; exact h
  · rename_i x y z
    have e : (Cond.stringRef x y z).before a' U = (Cond.stringRef x y z).before a (s.setVm U.vm) := rfl
    rw [e]; exact Cond.stringRef_warmed hW h
  · rename_i x y
    have e : (Cond.not (Cond.castable x y)).before a' U = (Cond.not (Cond.castable x y)).before a (s.setVm U.vm) := rfl
    rw [e]
    simp only [Cond.before, Cond.holds, Cond.value, State.vm_setVm, hW.alike.findClass, hW.alike.assignable] at h ⊢
    exact h
  · cases hk
/-- a static field of Throwable holds a reference or null, its cell is not ours -/
def zSR (n d : String) (A : Nat → Prop) (U : State) : Prop := ∃ (c : ClassId) (k : Class) (i : Nat) (f : Field) (a : Nat) (cell : Cell) (v : Value), U.vm.findClass Bundle.tN = some c ∧ U.fieldFound? Bundle.tN n d = some (c, k, i, f) ∧ f.isStatic = true ∧ k.statics = some a ∧ U.heap[a]? = some cell ∧ cell.vm.isStatics = true ∧ cell.cls = c ∧ f.slot < cell.slots.size ∧ k.staticTypes[f.slot]? = some f.type ∧ cell.slots[f.slot]? = some v ∧ v.isRef = true ∧ ¬ A a
theorem zSR.go {n d : String} {A B : Nat → Prop} {s U : State} (h : zSR n d A s) (hq : ∀ a : Nat, a < s.heap.size → ¬ A a → U.heap[a]? = s.heap[a]?) (hvm : s.vm.Alike U.vm) (hB : ∀ q, B q → A q) : zSR n d B U := by
  obtain ⟨c, k, i, f, a, cell, v, h1, h2, h3, h4, h5, h6, h7, h8, h9, h10, h11, h12⟩ := h
  obtain ⟨k', hi', he⟩ := State.fieldFound?_setVm hvm h2
  exact ⟨c, k', i, f, a, cell, v, by rw [hvm.findClass]; exact h1, hi', h3, by rw [he]; exact h4, by rw [hq a (Array.getElem?_eq_some_iff.mp h5).1 h12]; exact h5, h6, h7, h8, by rw [he]; exact h9, h10, h11, fun z => h12 (hB a z)⟩
theorem zSR.lays {n d : String} {A : Nat → Prop} {U : State} (h : zSR n d A U) (args : Array Value) : (Cond.laysStatic Bundle.tN n d).before args U = true := by
  obtain ⟨c, k, i, f, a, cell, v, h1, h2, h3, h4, h5, h6, h7, h8, h9, h10, h11, h12⟩ := h
  exact Cond.laysStatic_of h1 h2 h3 h4 h5 h6 h7 h8 h9
theorem zSR.ref {n d : String} {A : Nat → Prop} {U : State} (h : zSR n d A U) (args : Array Value) : (Cond.isRef (.static Bundle.tN n d)).before args U = true := by
  obtain ⟨c, k, i, f, a, cell, v, h1, h2, h3, h4, h5, h6, h7, h8, h9, h10, h11, h12⟩ := h
  have e := Term.static_eval (args := args) (first := U) (o := none) (idx := []) h2 h3 h4 h5 h6 h10
  show (Cond.isRef (.static Bundle.tN n d)).holds args U none U [] = true
  simp only [Cond.holds, Cond.value, e]
  cases v <;> first | rfl | cases h11
def zTS (A : Nat → Prop) (U : State) : Prop := (∀ w ∈ zxw, w.before #[] U = true) ∧ zSR "UNASSIGNED_STACK" Bundle.steD A U ∧ zSR "SUPPRESSED_SENTINEL" Bundle.listD A U
theorem zTS.go {A B : Nat → Prop} {s U : State} (h : zTS A s) (hq : ∀ a : Nat, a < s.heap.size → ¬ A a → U.heap[a]? = s.heap[a]?) (hW : s.WarmedH U.vm) (hB : ∀ q, B q → A q) : zTS B U :=
  ⟨fun w hw => zxk_go (zxw_k hw) hW (h.1 w hw), h.2.1.go hq hW.alike hB, h.2.2.go hq hW.alike hB⟩
def zhw : List Cond := [.isRef (.static Bundle.tN "UNASSIGNED_STACK" Bundle.steD), .isRef (.static Bundle.tN "SUPPRESSED_SENTINEL" Bundle.listD), .laysStatic Bundle.tN "UNASSIGNED_STACK" Bundle.steD, .laysStatic Bundle.tN "SUPPRESSED_SENTINEL" Bundle.listD]
def zrn : List String := ["java/lang/RuntimeException", "java/lang/Exception"]
def zown (own : String) (ic : Nat) (X : String) : Bool := (Bundle.ownAtoms own ic X zrn).all (fun w => decide (w ∈ zwt) || decide (w ∈ zxw) || decide (w ∈ zhw)) && Bundle.fit X
theorem zown_ok {own X : String} {ic : Nat} (h : zown own ic X = true) {A : Nat → Prop} {U : State} {args : Array Value} (hts : ∀ w ∈ zwt, w.before args U = true) (hTS : zTS A U) : ∀ w ∈ Bundle.ownAtoms own ic X zrn, w.before args U = true := by
  intro w hw
  unfold zown at h
  rw [Bool.and_eq_true] at h
  have h1 := List.all_eq_true.mp h.1 w hw
  simp only [Bool.or_eq_true, decide_eq_true_eq] at h1
  rcases h1 with (h1 | h1) | h1
  · exact hts w h1
  · exact zxk_go (zxw_k h1) (State.WarmedH.refl U) (hTS.1 w h1)
  · simp only [zhw, List.mem_cons, List.not_mem_nil, or_false] at h1
    rcases h1 with rfl | rfl | rfl | rfl
    · exact hTS.2.1.ref args
    · exact hTS.2.2.ref args
    · exact hTS.2.1.lays args
    · exact hTS.2.2.lays args
theorem zown_ise : zown "WideWordStack" 199 xISE = true := by decide +kernel
theorem zown_iob : zown "WideWordStack" 77 xIOB = true := by decide +kernel
theorem zown_iae : zown "WideWordStack" 98 xIAE = true := by decide +kernel
theorem zown_ae : zown "WideWordStack" 133 xAE = true := by decide +kernel
