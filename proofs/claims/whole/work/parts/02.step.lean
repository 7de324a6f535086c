/-! The stepper: the machine's instructions over a plain state. A state is: the locals (a list, what is not known is none), the operand stack, and the store, a list of cells; a reference names a cell by its place in the store (1000, 1001: the two static arrays, never written). 'zx' says what must hold so that the code from a place on does its work; 'zx_ok' ties it to the machine. -/
/-- the words of the tables that stay true -/
def zwt : List Cond := lw_tbl.filter goodWord
theorem zwt_in {w : Cond} (h : w ∈ zwt) : w ∈ lw_tbl := (List.mem_filter.mp h).1
theorem zwt_good {w : Cond} (h : w ∈ zwt) : GoodIn zwt [w] := fun v hv => by
  rw [List.mem_singleton.mp hv]
  exact ⟨h, good_of_word (List.mem_filter.mp h).2⟩
/-- a method's words: its own code, then the tables' -/
def zws (y : MethodName) (cc : ByteArray) (n : Nat) (ret : Option FieldType) : List Cond := Cond.code y cc n ret :: zwt
theorem zws_good {y : MethodName} {cc : ByteArray} {n : Nat} {ret : Option FieldType} (h : Cond.code y cc n ret ∈ zwt) : GoodIn zwt (zws y cc n ret) := fun w hw => by
  rcases List.mem_cons.mp hw with rfl | hw
  · exact ⟨h, good_of_word (List.mem_filter.mp h).2⟩
  · exact ⟨hw, good_of_word (List.mem_filter.mp hw).2⟩
-- classes whose objects the store holds
def zT0 : u_T := fun k => match k with
  | 0 => ("WideWordStack$Exact", "x", "LWideWordStack$Whole;", true)
  | 1 => ("WideWordStack$Exact", "y", "LWideWordStack$Whole;", true)
  | 2 => ("WideWordStack$Exact", "result", "LWideWordStack$Whole;", true)
  | _ => ("WideWordStack$Exact", "spare", "[J", true)
def zT1 : u_T := fun k => match k with
  | 0 => ("WideWordStack$Text", "letters", "[C", true)
  | _ => ("WideWordStack$Text", "length", "I", false)
def zT2 : u_T := fun k => match k with
  | 0 => ("WideWordStack$Whole", "size", "[J", true)
  | _ => ("WideWordStack$Whole", "negative", "Z", false)
def zT3 : u_T := fun k => match k with
  | 0 => ("WideWordStack$Wrapping", "exact", "LWideWordStack$Exact;", true)
  | _ => ("WideWordStack$Wrapping", "product", "[J", true)
def zT4 : u_T := fun k => match k with
  | 0 => ("WideWordStack", "rows", "[[J", true)
  | 1 => ("WideWordStack", "count", "I", false)
  | 2 => ("WideWordStack", "text", "LWideWordStack$Text;", true)
  | 3 => ("WideWordStack", "exact", "LWideWordStack$Exact;", true)
  | 4 => ("WideWordStack", "wraps", "LWideWordStack$Wrapping;", true)
  | _ => ("WideWordStack", "result", "[J", true)
def zT5 : u_T := fun k => match k with
  | 0 => ("WideWordStackModel", "stack", "[I", true)
  | 1 => ("WideWordStackModel", "depth", "I", false)
  | 2 => ("WideWordStackModel", "text", "[I", true)
  | 3 => ("WideWordStackModel", "length", "I", false)
  | 4 => ("WideWordStackModel", "thrown", "I", false)
  | 5 => ("WideWordStackModel", "row", "[I", true)
  | _ => ("WideWordStackModel", "negative", "Z", false)
def zcl : List vw_C := [("WideWordStack$Exact", zT0, 4), ("WideWordStack$Text", zT1, 2), ("WideWordStack$Whole", zT2, 2), ("WideWordStack$Wrapping", zT3, 2), ("WideWordStack", zT4, 6), ("WideWordStackModel", zT5, 7)]
def zty (ci k : Nat) : FieldType := match parseFieldDescriptor ((((zcl[ci]?).getD ("", zT5, 0)).2.1 k).2.2.1) with
  | some t => t
  | none => .int
-- the kinds of arrays: 0 int, 1 long, 2 char, 3 rows of longs
def zat (k : Nat) : FieldType := match k with
  | 0 => .int
  | 1 => .long
  | 2 => .char
  | _ => .array .long
def ztys (cA : Nat → ClassId) : List (ClassId × FieldType) := [(cA 0, .int), (cA 1, .long), (cA 2, .char), (cA 3, .array .long)]
theorem ztys_at (cA : Nat → ClassId) {k : Nat} (h : k < 4) : (ztys cA)[k]? = some (cA k, zat k) := by
  rcases (show k = 0 ∨ k = 1 ∨ k = 2 ∨ k = 3 by omega) with rfl | rfl | rfl | rfl <;> rfl
-- from the plain state to the machine's
def zv (ad : Nat → Nat) (v : Value) : Value := match v with
  | .ref i => .ref (ad i)
  | w => w
def ze (cA : Nat → ClassId) (ad : Nat → Nat) (q : va_E) : va_E := match q with
  | .inl (k, n, .inr (.inr (.inr (.inr f)))) => .inl (cA k, n, .inr (.inr (.inr (.inr (fun j => (f j).map ad)))))
  | .inl (k, a) => .inl (cA k, a)
  | .inr (ci, fs) => .inr (ci, fs.map (zv ad))
def zw (cA : Nat → ClassId) (ad : Nat → Nat) (σ : List va_E) : va_W := σ.mapIdx (fun i q => (ad i, ze cA ad q))
theorem zw_at {cA : Nat → ClassId} {ad : Nat → Nat} {σ : List va_E} {i : Nat} {q : va_E} (h : σ[i]? = some q) : (zw cA ad σ)[i]? = some (ad i, ze cA ad q) := by
  unfold zw
  rw [List.getElem?_mapIdx, h]
  rfl
theorem zw_set (cA : Nat → ClassId) (ad : Nat → Nat) (σ : List va_E) (i : Nat) (q : va_E) : zw cA ad (σ.set i q) = (zw cA ad σ).set i (ad i, ze cA ad q) := by
  apply List.ext_getElem?
  intro j
  unfold zw
  rw [List.getElem?_mapIdx]
  by_cases h : i = j
  · subst h
    by_cases hl : i < σ.length
    · rw [List.getElem?_set_self hl, List.getElem?_set_self (by simpa using hl)]
      rfl
    · rw [List.getElem?_eq_none (by simpa using hl), List.getElem?_eq_none (by simpa using hl)]
      rfl
  · rw [List.getElem?_set_ne h, List.getElem?_set_ne h, List.getElem?_mapIdx]
/-- the locals -/
def zH (ad : Nat → Nat) (nL : Nat) (ls : Array Slot) (L : List (Option Value)) : Prop := ls.size = nL ∧ L.length = nL ∧ lv_wf ls ∧ ∀ (i : Nat) (v : Value), L[i]? = some (some v) → ls[i]? = some (.val (zv ad v))
def zLl (ad : Nat → Nat) (L : List (Option Value)) : List (Nat × Value) := (List.range L.length).filterMap (fun i => match L[i]? with
  | some (some v) => some (i, zv ad v)
  | _ => none)
theorem zLl_mem {ad : Nat → Nat} {L : List (Option Value)} {q : Nat × Value} : q ∈ zLl ad L ↔ ∃ v, L[q.1]? = some (some v) ∧ q.2 = zv ad v := by
  unfold zLl
  rw [List.mem_filterMap]
  constructor
  · rintro ⟨i, -, hi⟩
    split at hi
    · rename_i v hv
      cases hi
      exact ⟨v, hv, rfl⟩
    · cases hi
  · rintro ⟨v, hv, h2⟩
    refine ⟨q.1, List.mem_range.mpr (List.getElem?_eq_some_iff.mp hv).1, ?_⟩
    rw [hv]
    show some (q.1, zv ad v) = some q
    rw [← h2]
theorem zH.has {ad : Nat → Nat} {nL : Nat} {ls : Array Slot} {L : List (Option Value)} (h : zH ad nL ls L) : lv_has ls nL (zLl ad L) := ⟨h.1, h.2.2.1, fun q hq => by
  obtain ⟨v, h1, h2⟩ := zLl_mem.mp hq
  rw [h2]
  exact h.2.2.2 q.1 v h1⟩
def zlong (v : Option Value) : Bool := match v with
  | some (.long _) => true
  | some (.double _) => true
  | _ => false
theorem zlong_cat {ad : Nat → Nat} {v : Value} (h : (zv ad v).category = 2) : zlong (some v) = true := by
  cases v <;> simp [zv, Value.category, zlong] at h ⊢
/-- a value of one word is stored -/
def zs1 : List (Option Value) → Nat → Value → List (Option Value)
  | [], _, _ => []
  | _ :: r, 0, v => some v :: r
  | a :: r, i + 1, v => (if i = 0 then (if zlong a then none else a) else a) :: zs1 r i v
/-- a value of two words is stored -/
def zs2 : List (Option Value) → Nat → Value → List (Option Value)
  | [], _, _ => []
  | _ :: r, 0, v => some v :: (match r with
    | [] => []
    | _ :: r' => none :: r')
  | a :: r, i + 1, v => (if i = 0 then (if zlong a then none else a) else a) :: zs2 r i v
theorem zs1_len : ∀ (L : List (Option Value)) (i : Nat) (v : Value), (zs1 L i v).length = L.length
  | [], _, _ => rfl
  | _ :: _, 0, _ => rfl
  | _ :: r, i + 1, v => by simp [zs1, zs1_len r i v]
theorem zs2_len : ∀ (L : List (Option Value)) (i : Nat) (v : Value), (zs2 L i v).length = L.length
  | [], _, _ => rfl
  | [_], 0, _ => rfl
  | _ :: _ :: _, 0, _ => rfl
  | _ :: r, i + 1, v => by simp [zs2, zs2_len r i v]
theorem zs1_at : ∀ (L : List (Option Value)) (i : Nat) (v : Value) (j : Nat) (w : Value), (zs1 L i v)[j]? = some (some w) → (j = i ∧ w = v) ∨ (j ≠ i ∧ L[j]? = some (some w) ∧ ¬ (j + 1 = i ∧ zlong (some w) = true))
  | [], _, _, j, w, h => by simp [zs1] at h
  | a :: r, 0, v, j, w, h => by
    cases j with
    | zero => simp [zs1] at h; exact Or.inl ⟨rfl, h.symm⟩
    | succ j => simp [zs1] at h; exact Or.inr ⟨by omega, by simpa using h, fun q => by omega⟩
  | a :: r, i + 1, v, j, w, h => by
    cases j with
    | zero =>
      right
      refine ⟨by omega, ?_, ?_⟩
      · simp only [zs1, List.getElem?_cons_zero, Option.some.injEq] at h ⊢
        by_cases hi : i = 0
        · rw [if_pos hi] at h
          by_cases hz : zlong a = true
          · rw [if_pos hz] at h; cases h
          · rw [if_neg hz] at h; exact h
        · rw [if_neg hi] at h; exact h
      · rintro ⟨h1, h2⟩
        simp only [zs1, List.getElem?_cons_zero, Option.some.injEq] at h
        have hi : i = 0 := by omega
        rw [if_pos hi] at h
        by_cases hz : zlong a = true
        · rw [if_pos hz] at h; cases h
        · rw [if_neg hz] at h; rw [h] at hz; exact hz h2
    | succ j =>
      simp only [zs1, List.getElem?_cons_succ] at h
      rcases zs1_at r i v j w h with ⟨h1, h2⟩ | ⟨h1, h2, h3⟩
      · exact Or.inl ⟨by omega, h2⟩
      · exact Or.inr ⟨by omega, by simpa using h2, fun q => h3 ⟨by omega, q.2⟩⟩
theorem zs2_at : ∀ (L : List (Option Value)) (i : Nat) (v : Value) (j : Nat) (w : Value), (zs2 L i v)[j]? = some (some w) → (j = i ∧ w = v) ∨ (j ≠ i ∧ j ≠ i + 1 ∧ L[j]? = some (some w) ∧ ¬ (j + 1 = i ∧ zlong (some w) = true))
  | [], _, _, j, w, h => by simp [zs2] at h
  | [a], 0, v, j, w, h => by
    cases j with
    | zero => simp [zs2] at h; exact Or.inl ⟨rfl, h.symm⟩
    | succ j => simp [zs2] at h
  | a :: b :: r, 0, v, j, w, h => by
    rcases j with _ | _ | j
    · simp [zs2] at h; exact Or.inl ⟨rfl, h.symm⟩
    · simp [zs2] at h
    · simp [zs2] at h; exact Or.inr ⟨by omega, by omega, by simpa using h, fun q => by omega⟩
  | a :: r, i + 1, v, j, w, h => by
    cases j with
    | zero =>
      right
      refine ⟨by omega, by omega, ?_, ?_⟩
      · simp only [zs2, List.getElem?_cons_zero, Option.some.injEq] at h ⊢
        by_cases hi : i = 0
        · rw [if_pos hi] at h
          by_cases hz : zlong a = true
          · rw [if_pos hz] at h; cases h
          · rw [if_neg hz] at h; exact h
        · rw [if_neg hi] at h; exact h
      · rintro ⟨h1, h2⟩
        simp only [zs2, List.getElem?_cons_zero, Option.some.injEq] at h
        have hi : i = 0 := by omega
        rw [if_pos hi] at h
        by_cases hz : zlong a = true
        · rw [if_pos hz] at h; cases h
        · rw [if_neg hz] at h; rw [h] at hz; exact hz h2
    | succ j =>
      simp only [zs2, List.getElem?_cons_succ] at h
      rcases zs2_at r i v j w h with ⟨h1, h2⟩ | ⟨h1, h1', h2, h3⟩
      · exact Or.inl ⟨by omega, h2⟩
      · exact Or.inr ⟨by omega, by omega, by simpa using h2, fun q => h3 ⟨by omega, q.2⟩⟩
theorem zH.set1 {ad : Nat → Nat} {nL : Nat} {ls ls' : Array Slot} {L : List (Option Value)} {i : Nat} {v : Value} (h : zH ad nL ls L) (h' : lv_has ls' nL ((i, zv ad v) :: (zLl ad L).filter (fun q => !(q.1 == i) && !(q.1 + 1 == i && q.2.category == 2)))) : zH ad nL ls' (zs1 L i v) := by
  refine ⟨h'.1, by rw [zs1_len]; exact h.2.1, h'.2.1, fun j w hj => ?_⟩
  rcases zs1_at L i v j w hj with ⟨rfl, rfl⟩ | ⟨h1, h2, h3⟩
  · exact h'.2.2 (j, zv ad w) List.mem_cons_self
  · refine h'.2.2 (j, zv ad w) (List.mem_cons_of_mem _ (List.mem_filter.mpr ⟨zLl_mem.mpr ⟨w, h2, rfl⟩, ?_⟩))
    by_cases h4 : j + 1 = i
    · have h5 : ¬ (zv ad w).category = 2 := fun q => h3 ⟨h4, zlong_cat q⟩
      simp [h1, h5]
    · simp [h1, h4]
theorem zH.set2 {ad : Nat → Nat} {nL : Nat} {ls ls' : Array Slot} {L : List (Option Value)} {i : Nat} {v : Value} (h : zH ad nL ls L) (h' : lv_has ls' nL ((i, zv ad v) :: (zLl ad L).filter (fun q => !(q.1 == i) && (!(q.1 == i + 1) && !(q.1 + 1 == i && q.2.category == 2))))) : zH ad nL ls' (zs2 L i v) := by
  refine ⟨h'.1, by rw [zs2_len]; exact h.2.1, h'.2.1, fun j w hj => ?_⟩
  rcases zs2_at L i v j w hj with ⟨rfl, rfl⟩ | ⟨h1, h1', h2, h3⟩
  · exact h'.2.2 (j, zv ad w) List.mem_cons_self
  · refine h'.2.2 (j, zv ad w) (List.mem_cons_of_mem _ (List.mem_filter.mpr ⟨zLl_mem.mpr ⟨w, h2, rfl⟩, ?_⟩))
    by_cases h4 : j + 1 = i
    · have h5 : ¬ (zv ad w).category = 2 := fun q => h3 ⟨h4, zlong_cat q⟩
      simp [h1, h1', h5]
    · simp [h1, h1', h4]
theorem zwi (i : Nat) {w : Cond} (h : lw_tbl[i]? = some w) (hg : goodWord w = true) : w ∈ zwt := List.mem_filter.mpr ⟨List.mem_of_getElem? h, hg⟩
