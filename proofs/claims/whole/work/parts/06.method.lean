/-- the locals at a method's start -/
def zsl : List Value → List (Option Value)
  | [] => []
  | v :: r => if v.category = 2 then some v :: none :: zsl r else some v :: zsl r
def zL0 (n : Nat) (vs : List Value) : List (Option Value) := zsl vs ++ List.replicate (n - (zsl vs).length) none
theorem zsl_len (ad : Nat → Nat) : ∀ vs : List Value, (zsl vs).length = (lg_sl (vs.map (zv ad))).length
  | [] => rfl
  | v :: r => by
    have ih := zsl_len ad r
    have e : lg_sl ((v :: r).map (zv ad)) = (if (zv ad v).category = 2 then [.val (zv ad v), .second] else [.val (zv ad v)]) ++ lg_sl (r.map (zv ad)) := by simp [lg_sl]
    rw [e, z_zv_cat]
    unfold zsl
    by_cases h : v.category = 2
    · rw [if_pos h, if_pos h]; simp [ih]
    · rw [if_neg h, if_neg h]; simp [ih]
theorem zsl_at (ad : Nat → Nat) : ∀ (vs : List Value) (i : Nat) (w : Value), (zsl vs)[i]? = some (some w) → (lg_sl (vs.map (zv ad)))[i]? = some (.val (zv ad w))
  | [], i, w, h => by simp [zsl] at h
  | v :: r, i, w, h => by
    have e : lg_sl ((v :: r).map (zv ad)) = (if (zv ad v).category = 2 then [.val (zv ad v), .second] else [.val (zv ad v)]) ++ lg_sl (r.map (zv ad)) := by simp [lg_sl]
    rw [e, z_zv_cat]
    unfold zsl at h
    by_cases hc : v.category = 2
    · rw [if_pos hc] at h ⊢
      rcases i with _ | _ | i
      · simp at h ⊢; rw [h]
      · simp at h
      · simp at h ⊢; exact zsl_at ad r i w h
    · rw [if_neg hc] at h ⊢
      rcases i with _ | i
      · simp at h ⊢; rw [h]
      · simp at h ⊢; exact zsl_at ad r i w h
theorem zH_entry (ad : Nat → Nat) {n : Nat} {vs : List Value} (h : (zsl vs).length ≤ n) : zH ad n ((lg_sl (vs.map (zv ad)) ++ List.replicate (n - (lg_sl (vs.map (zv ad))).length) Slot.unset).toArray) (zL0 n vs) := by
  have hl := lv_entry (vs.map (zv ad)) (n := n) (by rw [← zsl_len]; exact h)
  refine ⟨hl.1, by simp [zL0]; omega, hl.2.1, fun i v hi => ?_⟩
  unfold zL0 at hi
  have hlt : i < (zsl vs).length := by
    refine Nat.lt_of_not_le fun q => ?_
    rw [List.getElem?_append_right q] at hi
    rw [List.getElem?_replicate] at hi
    split at hi
    · cases hi
    · cases hi
  rw [List.getElem?_append_left hlt] at hi
  rw [List.getElem?_toArray, List.getElem?_append_left (by rw [← zsl_len]; exact hlt)]
  exact zsl_at ad vs i v hi
/-- fewer locals known -/
def zle : List (Option Value) → List (Option Value) → Prop
  | [], [] => True
  | none :: a, _ :: b => zle a b
  | some v :: a, q :: b => q = some v ∧ zle a b
  | _, _ => False
theorem zle_len : ∀ (a b : List (Option Value)), zle a b → a.length = b.length
  | [], [], _ => rfl
  | none :: a, _ :: b, h => by simp only [List.length_cons]; rw [zle_len a b h]
  | some _ :: a, _ :: b, h => by simp only [List.length_cons]; rw [zle_len a b h.2]
  | [], _ :: _, h => h.elim
  | none :: _, [], h => h.elim
  | some _ :: _, [], h => h.elim
theorem zle_at : ∀ (a b : List (Option Value)), zle a b → ∀ (i : Nat) (v : Value), a[i]? = some (some v) → b[i]? = some (some v)
  | [], [], _, i, v, hi => by simp at hi
  | [], _ :: _, h, _, _, _ => h.elim
  | none :: _, [], h, _, _, _ => h.elim
  | some _ :: _, [], h, _, _, _ => h.elim
  | none :: a, _ :: b, h, i, v, hi => by
    cases i with
    | zero => simp at hi
    | succ i => simp at hi ⊢; exact zle_at a b h i v hi
  | some w :: a, q :: b, h, i, v, hi => by
    cases i with
    | zero => simp at hi ⊢; rw [h.1, hi]
    | succ i => simp at hi ⊢; exact zle_at a b h.2 i v hi
/-- cells that the machine can't tell apart -/
def zsim (a b : va_E) : Prop := ∀ (D : va_G) (cA : Nat → ClassId) (ad : Nat → Nat) (x : Nat) (H : Heap), va_at D zcl (x, ze cA ad a) H → va_at D zcl (x, ze cA ad b) H
theorem zsim.rf (a : va_E) : zsim a a := fun _ _ _ _ _ h => h
theorem arrV_ext {c : ClassId} {n : Nat} {f g : Nat → Value} (h : ∀ j, j < n → f j = g j) : arrV c n f = arrV c n g := by
  unfold arrV
  congr 1
  congr 1
  funext j
  exact h j.val j.isLt
theorem zsim_l {n : Nat} {f g : Nat → Int64} (h : ∀ j, j < n → f j = g j) : zsim (.inl (1, n, .inr (.inl f))) (.inl (1, n, .inr (.inl g))) := by
  intro D cA ad x H q
  have q1 : H[x]? = some (arrV (cA 1) n (fun j => .long (f j))) := q
  show H[x]? = some (arrV (cA 1) n (fun j => .long (g j)))
  rw [q1, arrV_ext (fun j hj => by rw [h j hj])]
theorem zsim_i {k n : Nat} {f g : Nat → Int32} (h : ∀ j, j < n → f j = g j) : zsim (.inl (k, n, .inl f)) (.inl (k, n, .inl g)) := by
  intro D cA ad x H q
  have q1 : H[x]? = some (arrV (cA k) n (fun j => .int (f j))) := q
  show H[x]? = some (arrV (cA k) n (fun j => .int (g j)))
  rw [q1, arrV_ext (fun j hj => by rw [h j hj])]
/-- a store that the machine can't tell from one with K -/
def zKs (K : Option Value → List va_E → Prop) (r : Option Value) (σ' : List va_E) : Prop := K r σ' ∨ ∃ (σ0 : List va_E) (i : Nat) (q q' : va_E), σ' = σ0.set i q ∧ zsim q q' ∧ K r (σ0.set i q')
theorem zk0 {K : Option Value → List va_E → Prop} {r : Option Value} {σ' : List va_E} (h : K r σ') : zKs K r σ' := Or.inl h
theorem zk1 {K : Option Value → List va_E → Prop} {r : Option Value} {σ0 : List va_E} {i : Nat} {q q' : va_E} (hs : zsim q q') (h : K r (σ0.set i q')) : zKs K r (σ0.set i q) := Or.inr ⟨σ0, i, q, q', rfl, hs, h⟩
/-- what a walk may use of the machine -/
def zgo (f : Nat → Option (Nat × Nat)) (kk : Nat → Option Value) (t : List (Nat × Nat × zSpec)) (ret : Option FieldType) (g : Nat → Option Nat) (cd : Nat → List Instr) (K : Option Value → List va_E → Prop) (V : Nat → List (Option Value) → List Value → List va_E → Prop) : Prop :=
  (∀ pc L st σ, zx f kk (zct t) ret g V (zKs K) (cd pc) pc L st σ → V pc L st σ) ∧ (∀ pc L L' st σ, V pc L st σ → zle L L' → V pc L' st σ) ∧ (∀ pc L st (σ : List va_E) i q q', V pc L st (σ.set i q') → zsim q q' → V pc L st (σ.set i q))
theorem z_simset {D : va_G} {cA : Nat → ClassId} {ad : Nat → Nat} {σ : List va_E} {i : Nat} {q q' : va_E} {H : Heap} (h : va_P D zcl (zw cA ad (σ.set i q)) H) (hs : zsim q q') : va_P D zcl (zw cA ad (σ.set i q')) H := by
  rw [zw_set] at h ⊢
  intro k x hk
  by_cases hki : k = i
  · subst hki
    by_cases hl : k < (zw cA ad σ).length
    · rw [List.getElem?_set_self hl] at hk
      cases hk
      exact hs D cA ad _ H (h k _ (by rw [List.getElem?_set_self hl]))
    · rw [List.getElem?_eq_none (by simpa using hl)] at hk
      cases hk
  · refine h k x ?_
    rw [List.getElem?_set_ne (Ne.symm hki)] at hk ⊢
    exact hk
theorem z_simD {A : Nat → Prop} {cA : Nat → ClassId} {ad : Nat → Nat} {σ : List va_E} {i : Nat} {q q' : va_E} (h : va_D A (zw cA ad (σ.set i q))) : va_D A (zw cA ad (σ.set i q')) := by
  have e : zw cA ad (σ.set i q') = (zw cA ad (σ.set i q)).set i (ad i, ze cA ad q') := by
    rw [zw_set, zw_set, List.set_set]
  rw [e]
  by_cases hl : i < σ.length
  · exact h.set (e0 := ze cA ad q) (by rw [zw_set, List.getElem?_set_self (by unfold zw; simpa using hl)])
  · have hl2 : (zw cA ad (σ.set i q)).length ≤ i := by unfold zw; simpa using hl
    rw [List.set_eq_of_length_le hl2]
    exact h
theorem zMet_ofW {l : Launch} {y : MethodName} {ws ws' : List Cond} {rm : Room} {Pc : Array Value → State → Prop} {Qc : Array Value → State → Outcome → State → Prop} {mc ms : Nat} {free : Addr → Prop} {cc : ByteArray} {maxL : Nat} {ret : Option FieldType}
    (hy : plainFor y = true) (hw : ws = Cond.code y cc maxL ret :: ws')
    (body : ∀ p e s m args below meth c s₁, BodyLoose p l y (headSpec ws rm) cc maxL ret e s m args below meth c s₁ → c.maxLocals = maxL → Pc args s →
      W p l e (headSpec ws rm).room s m args below meth c s.heap [] 0 0 (MQ below Qc args s mc ms free) (entryFrame m args maxL)) : Met l y ws rm Pc Qc mc ms free := by
  refine MetFree.of_bodySF (code := cc) (maxLocals := maxL) (ret := ret) hy ?_ ?_
  · intro args s m h hn
    obtain ⟨meth, c, h1, h2, h3, h4, h5, h6, -, -⟩ := Cond.code_spec hn (atoms_spec (ws := ws) h _ (by rw [hw]; exact List.mem_cons_self))
    exact ⟨meth, c, h1, h2, h3, h4, h5, h6⟩
  · intro p e s m args below meth c s₁ B hml hP _
    have hh0 : s₁.heap = s.heap := by rw [B.state]; rfl
    obtain ⟨t, a1, o, b1, b2, b3⟩ := body p e s m args below meth c s₁ B hml hP s₁ hh0 (Stand.of_body B)
    exact ⟨t, o, a1, b1, b2, ⟨b3.1, b3.2⟩⟩
theorem zmet_of {l : Launch} {y : MethodName} {cc : ByteArray} {n : Nat} {ret : Option FieldType} {rm : Room} {own : String} {f : Nat → Option (Nat × Nat)} {kk : Nat → Option Value} {t : List (Nat × Nat × zSpec)} {g : Nat → Option Nat} {cd : Nat → List Instr} {vs : List Value} {σ : List va_E} {K : Option Value → List va_E → Prop}
    (hy : plainFor y = true) (hyo : y.cls = own) (hf : zFok own f) (hkk : zKok own kk) (hg : zGok own g) (ht : ∀ q ∈ t, zCok own rm q) (hcd : ∀ pc, zok cc n pc (cd pc) = true) (hn : (zsl vs).length ≤ n)
    (h : ∀ V, zgo f kk t ret g cd K V → V 0 (zL0 n vs) [] σ) : zMet l y cc n ret rm vs σ K := by
  intro D cA ad sz
  refine zMet_ofW (cc := cc) (maxL := n) (ret := ret) hy rfl ?_
  intro p e s m args below meth c s₁ B hml hv
  obtain ⟨rfl, hsz, hP, hK, hD0, hST⟩ := hv
  have hx := B.exec
  have hb := B.bytes
  have hr := B.returns
  have hts0 := atoms_spec (ws := zws y cc n ret) B.pre
  have hts : ∀ w ∈ zwt, w.before (vs.map (zv ad)).toArray s = true := fun w hw => hts0 w (List.mem_cons_of_mem _ hw)
  have hown : s.vm.findClass own = some m.cls := by rw [← hyo]; exact findClass_of_methodNamed B.named
  have hlocks := B.notSynchronized
  subst hsz
  have hD := hD0.self (sz := s.heap.size)
  generalize hAe : va_A (zw cA ad σ) s.heap.size = A at hD hST ⊢
  have hA : ∀ q : Nat, s.heap.size ≤ q → A q := fun q h => by rw [← hAe]; exact Or.inr h
  have hS : va_S A s.heap s.heap [] := va_S.rf
  rw [lg_entry_eq]
  let V := zV (fun H locs g => W p l e (headSpec (zws y cc n ret) rm).room s m (vs.map (zv ad)).toArray below meth c H locs 0 0 (MQ below (zQ D cA ad K A) (vs.map (zv ad)).toArray s 0 0 A) g) m s.heap D cA ad A n
  have key : V 0 (zL0 n vs) [] σ := by
    refine h V ⟨fun pc L st σ' hz => ?_, fun pc L L' st σ' hz hle => ?_, fun pc L st σ' i q q' hz hs => ?_⟩
    · refine zx_ok (V := V) rfl hx hb hown hts hK hST hf hkk hg (zct_ok rfl hx hb hml hown hts hK hST hA ⟨Nat.zero_le _, Nat.zero_le _⟩ ht) ?_ (cd pc) pc L st σ' (hcd pc) hz
      intro o L σ' pc ho hk ls H locs hl hP' hD' hS'
      have hq : ∀ t : State, t.heap = H → s.WarmedH t.vm → zQ D cA ad K A (vs.map (zv ad)).toArray s (.returned (o.map (zv ad))) t := fun t ht hW => by
        rcases ho with ho | ⟨σ0, i, q, q', rfl, hs, ho⟩
        · exact ⟨⟨o, σ', rfl, ho, by rw [ht]; exact hP', hD', va_K.moved hW.alike hK⟩, hS'.F ht⟩
        · exact ⟨⟨o, σ0.set i q', rfl, ho, by rw [ht]; exact z_simset hP' hs, z_simD hD', va_K.moved hW.alike hK⟩, hS'.F ht⟩
      rcases hk with ⟨x, rfl, h1, h2⟩ | ⟨x, rfl, h1, h2⟩ | ⟨a, rfl, h1, h2⟩ | ⟨rfl, h1, h2⟩
      · rcases ret with _ | ty
        · exact h1.elim
        · refine W.zret (ty := ty) hx hb hr ?_ hq hS'.2.2 h2
          revert h1
          cases ty <;> intro h1
          case int => rfl
          case boolean => rcases h1 with rfl | rfl <;> decide +kernel
          case char => obtain ⟨n, h3, rfl⟩ := h1; exact (pk_charN h3).1
          all_goals exact h1.elim
      · exact W.lret hx hb (hr.trans h1) hq hS'.2.2 h2
      · exact W.aret hx hb (hr.trans h1) (Or.inr ⟨_, rfl⟩) (Or.inr ⟨_, rfl⟩) hq hS'.2.2 h2
      · exact W.vret hx hb (hr.trans h1) hq hS'.2.2 h2
    · intro ls H locs hl hP' hD' hS'
      exact hz ls H locs ⟨hl.1, (zle_len _ _ hle).trans hl.2.1, hl.2.2.1, fun i v hi => hl.2.2.2 i v (zle_at _ _ hle i v hi)⟩ hP' hD' hS'
    · intro ls H locs hl hP' hD' hS'
      exact hz ls H locs hl (z_simset hP' hs) (z_simD hD') hS'
  exact key _ _ _ (zH_entry ad hn) hP hD hS
