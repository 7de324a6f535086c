/-! A constructor's walk -/
theorem zbE_mono {N M : Nat} (h : N ≤ M) {q : va_E} (hq : zbE N q) : zbE M q := by
  have hv : ∀ v, zbV N v → zbV M v := fun v hv => by
    cases v with
    | ref i =>
      have h1 : i < N ∨ 1000 ≤ i := hv
      exact h1.elim (fun z => Or.inl (Nat.lt_of_lt_of_le z h)) Or.inr
    | _ => trivial
  rcases q with ⟨k, n, f | f | f | f | f⟩ | ⟨ci, fs⟩
  · trivial
  · trivial
  · trivial
  · trivial
  · have hq1 : ∀ j, j < n → ∀ i, f j = some i → i < N ∨ 1000 ≤ i := hq
    show ∀ j, j < n → ∀ i, f j = some i → i < M ∨ 1000 ≤ i
    exact fun j hj i hi => (hq1 j hj i hi).elim (fun z => Or.inl (by omega)) Or.inr
  · have hq1 : ∀ v ∈ fs, zbV N v := hq
    show ∀ v ∈ fs, zbV M v
    exact fun v hm => hv v (hq1 v hm)
def zbS (σ : List va_E) : Prop := ∀ q ∈ σ, zbE σ.length q
theorem zbS.app {σ : List va_E} (h : zbS σ) {x : va_E} (hx : zbE (σ.length + 1) x) : zbS (σ ++ [x]) := by
  intro q hq
  rw [List.length_append]
  rcases List.mem_append.mp hq with h1 | h1
  · exact zbE_mono (by omega) (h q h1)
  · rw [List.mem_singleton.mp h1]; exact hx
theorem zbS.set {σ : List va_E} (h : zbS σ) {i : Nat} {x : va_E} (hx : zbE σ.length x) : zbS (σ.set i x) := by
  intro q hq
  rw [List.length_set]
  rcases List.mem_or_eq_of_mem_set hq with h1 | h1
  · exact h q h1
  · rw [h1]; exact hx
theorem MQ_mono2 {below : List Frame} {Qc : Array Value → State → Outcome → State → Prop} {a : Array Value} {s t : State} {k n mc ms : Nat} {A : Nat → Prop} (hk : k ≤ mc) (hn : n ≤ ms) (h : MQ below Qc a s k n A t) : MQ below Qc a s mc ms A t := by
  obtain ⟨o, h1, h2, h3, L, ⟨h4, h5, h6⟩, h7⟩ := h
  exact ⟨o, h1, h2, h3, L, ⟨h4, h5, h6.mono hk hn⟩, h7⟩
abbrev zCV (p : Program) (l : Launch) (e : Env) (R : Room) (s : State) (m : MethodId) (args : Array Value) (below : List Frame) (meth : Method) (c : Code) (Q : State → Prop) (D : va_G) (cA : Nat → ClassId) (A : Nat → Prop) (nL : Nat) (ad0 : Nat → Nat) (n0 : Nat) (ad : Nat → Nat) (cells slots : Nat) : Nat → List (Option Value) → List Value → List va_E → Prop :=
  zVc ad0 n0 (fun H locs g => W p l e R s m args below meth c H locs cells slots Q g) m s.heap D cA A nL ad
theorem zmetC_of {l : Launch} {y : MethodName} {cc : ByteArray} {n mc ms : Nat} {rm : Room} {own : String} {f : Nat → Option (Nat × Nat)} {kk : Nat → Option Value} {g : Nat → Option Nat} {cd : Nat → List Instr} {vs : List Value} {σ : List va_E} {K : List va_E → Prop}
    (hy : plainFor y = true) (hyo : y.cls = own) (hyn : y.name = "<init>") (hf : zFok own f) (hkk : zKok own kk) (hg : zGok own g) (hcd : ∀ pc, zok cc n pc (cd pc) = true) (hn : (zsl vs).length ≤ n)
    (h : ∀ p e s m args below meth c Q D cA A ad0, zCx p s m args c cc own D cA A n → zST ad0 A s → zAO s → meth.name = "<init>" →
      (∀ ad cells slots pc L st σ', cells ≤ mc → slots ≤ ms → zx f kk (zct []) none g (zCV p l e rm s m args below meth c Q D cA A n ad0 σ.length ad cells slots) (fun o σ' => o = none ∧ K σ') (cd pc) pc L st σ' → zCV p l e rm s m args below meth c Q D cA A n ad0 σ.length ad cells slots pc L st σ') →
      zCV p l e rm s m args below meth c Q D cA A n ad0 σ.length ad0 0 0 0 (zL0 n vs) [] σ) : zMetC l y cc n rm mc ms vs σ K := by
  intro D cA ad sz
  refine zMet_ofW (cc := cc) (maxL := n) (ret := none) hy rfl ?_
  intro p e s m args below meth c s₁ B hml hv
  obtain ⟨⟨rfl, hsz, hP, hK, hD0, hST⟩, hAO⟩ := hv
  have hx := B.exec
  have hb := B.bytes
  have hr := B.returns
  have hts0 := atoms_spec (ws := zws y cc n none) B.pre
  have hts : ∀ w ∈ zwt, w.before (vs.map (zv ad)).toArray s = true := fun w hw => hts0 w (List.mem_cons_of_mem _ hw)
  have hown : s.vm.findClass own = some m.cls := by rw [← hyo]; exact findClass_of_methodNamed B.named
  have hname : meth.name = "<init>" := by rw [(name_of_methodNamed B.named B.method).1]; exact hyn
  have hlocks := B.notSynchronized
  subst hsz
  have hD := hD0.self (sz := s.heap.size)
  generalize hAe : va_A (zw cA ad σ) s.heap.size = A at hD hST ⊢
  have hA : ∀ q : Nat, s.heap.size ≤ q → A q := fun q h => by rw [← hAe]; exact Or.inr h
  have hS : va_S A s.heap s.heap [] := va_S.rf
  rw [lg_entry_eq]
  have cx : zCx p s m (vs.map (zv ad)).toArray c cc own D cA A n := ⟨hx, hb, hml, hown, hts, hK, hA⟩
  have key := h p e s m (vs.map (zv ad)).toArray below meth c (MQ below (zQC D cA ad σ.length K A) (vs.map (zv ad)).toArray s mc ms A) D cA A ad cx hST hAO hname (fun ad2 cells slots pc L st σ' hc hs hz => by
    refine vc_step cx hST hf hkk hg ?_ (hcd pc) hz
    intro o L σ' pc ho hk had ls H locs hl hP' hD' hS'
    obtain ⟨rfl, ho⟩ := ho
    rcases hk with ⟨x, h0, h1, h2⟩ | ⟨x, h0, h1, h2⟩ | ⟨a, h0, h1, h2⟩ | ⟨-, h1, h2⟩
    · cases h0
    · cases h0
    · cases h0
    · have w := W.vret (p := p) (l := l) (e := e) (R := rm) (m := m) (args := (vs.map (zv ad)).toArray) (below := below) (c := c) (locs := locs) (H := H) (Qc := zQC D cA ad σ.length K A) (free := A) (cells := cells) (slots := slots) (ls := ls) hx hb (hr.trans h1) (fun t ht hW => ⟨⟨σ', ad2, rfl, ho, had, by rw [ht]; exact hP', hD', va_K.moved hW.alike hK⟩, hS'.F ht⟩) hS'.2.2 h2 hlocks
      intro T hT X
      obtain ⟨t, a1, b1⟩ := w T hT X
      exact ⟨t, a1, MQ_mono2 hc hs b1⟩)
  exact key (fun i _ => rfl) _ _ _ (zH_entry ad hn) hP hD hS
section Obj
variable {p : Program} {l : Launch} {e : Env} {R : Room} {s : State} {m : MethodId} {args : Array Value} {below : List Frame} {meth : Method} {c : Code} {cells slots : Nat} {Q : State → Prop}
variable {cc : ByteArray} {own : String} {D : va_G} {cA : Nat → ClassId} {ad0 ad : Nat → Nat} {A : Nat → Prop} {nL n0 : Nat} {pc : Nat} {L : List (Option Value)} {σ : List va_E}
theorem vc_obj {idx a : Nat} (cx : zCx p s m args c cc own D cA A nL) (w1 : Cond.methodLink own idx Lib.objectInit ∈ zwt) (w2 : Cond.instanceMethod Lib.objectInit ∈ zwt) (w3 : Cond.code Lib.objectInit ⟨#[0xb1]⟩ 1 none ∈ zwt) (hd : decode cc pc = .ok (.invokespecial idx, 3)) (hR : 1 ≤ R.frames ∧ 12 ≤ R.locals)
    (k : zVc ad0 n0 (fun H locs g => W p l e R s m args below meth c H locs cells slots Q g) m s.heap D cA A nL ad (pc + 3) L [] σ) :
    zVc ad0 n0 (fun H locs g => W p l e R s m args below meth c H locs cells slots Q g) m s.heap D cA A nL ad pc L [.ref a] σ := by
  intro had ls H locs hl hP hD hS
  obtain ⟨hx, hbc, hml, hown, hts, hK, hA⟩ := cx
  exact W.objInit hx hbc hown (hts _ w1) (hts _ w2) (hts _ w3) rfl (hl.1.trans hml.symm) (a := ad a) (rest := []) rfl hd hR.1 (by show 2 * 0 + 0 + 12 ≤ R.locals; omega) (k had ls H locs hl hP hD hS)
end Obj
