/-! THE CLAIM OUT OF ONE WALK OF THE LAW'S BODY. Your part is whole_start (and what it stands on); all else here is the same for every law, but numbers. -/
def R_law : String := "WideWordStackLaw"
def lw_P (b : Addr) (xs : List Int32) (args : Array Value) (s : State) : Prop := args = #[.ref b] ∧ s.IntsAt b xs ∧ xs.length ≤ 4608 ∧ (Jvm.Cond.and given_1 narrow_1).before args s = true
def lw_Q (_ : Array Value) (s : State) (o : Outcome) (t : State) : Prop := o = .returned (some (.int 1)) ∧ Framed s o t [] 601024 7293034
def lw_Z (below : List Frame) (a : Array Value) (s : State) : State → Prop := fun t => ∃ o, t.status = .running ∧ Ended t below o ∧ lw_Q a s o t
/-- the law's own end, with 1 on the stack, nothing written that was there before, its room as the claim has it -/
theorem lw_ret {p : Program} {l : Launch} {e : Env} {s : State} {m : MethodId} {below : List Frame} {meth : Method} {c : Code} {b : Nat} (hx : p.tables.exec = Jvm.exec) (hb : c.code = code) (hr : meth.sig.returnType = ret) (hlocks : meth.locks = false) {pc : Nat} {H : Heap} {ls : Array Slot} (hdg : decode code pc = .ok (.ireturn, 1)) : W p l e room_1 s m #[Value.ref b] below meth c H [] 601024 7293034 (lw_Z below #[Value.ref b] s) (F0 m pc ls [.int 1]) := by
  intro T hT X
  obtain ⟨fs, hret, hrun, hended, hW, hframe⟩ := X.leave (v := some (.int 1)) (hlocks := hlocks) (fun h => by rw [hr] at h; cases h)
  have hmeth' : T.vm.method? m = some meth := X.method'
  refine ⟨T.setFrames fs, ?_, .returned (some (.int 1)), hrun, hended, rfl, ⟨_, rfl⟩, hW, hframe⟩
  jvm_step X.here [X.here.top, hx, hb, hdg, hmeth', hr, ret, narrow_b1]
  (try refine ⟨rfl, ?_⟩); (try refine ⟨rfl, ?_⟩)
  first | (intro acts; rw [hret _ acts rfl rfl rfl]) | rw [hret _ _ rfl rfl rfl]
  exact Steps.refl _
/-- what holds at the law's entry: the machine, the code, the tables' words (any of lw_tbl by 'hts w (by decide +kernel)'), the script of L ints xs at the cell b, what the Statement gives of the start (any of its parts by flat_of_before) -/
def lw_At (p : Program) (s : State) (m : MethodId) (meth : Method) (c : Code) (b L : Nat) (xs : Nat → Int32) : Prop :=
  p.tables.exec = Jvm.exec ∧ c.code = code ∧ meth.sig.returnType = ret ∧ c.maxLocals = 8 ∧ s.vm.findClass R_law = some m.cls ∧ (∀ w ∈ lw_tbl, w.before #[Value.ref b] s = true) ∧ va_X b L xs s s.heap ∧ b < s.heap.size ∧ meth.locks = false ∧ (Jvm.Cond.and given_1 narrow_1).before #[Value.ref b] s = true
theorem W_mono {p : Program} {l : Launch} {e : Env} {R : Room} {s : State} {m : MethodId} {args : Array Value} {below : List Frame} {meth : Method} {c : Code} {H : Heap} {locs : List Loc} {c0 s0 C S : Nat} {Q : State → Prop} {g : JFrame} (hc : c0 ≤ C) (hs : s0 ≤ S) (hl : ∀ q ∈ locs, s.heap.size ≤ q.base) (h : W p l e R s m args below meth c H [] C S Q g) : W p l e R s m args below meth c H locs c0 s0 Q g := by
  intro T hT X
  have X1 : Stand p l e R s m args below meth c T [] c0 s0 := Stand.forget (locs := []) (extra := locs) X hl
  exact h T hT { X1 with same := X1.same.mono hc hs }
abbrev lVV (p : Program) (l : Launch) (e : Env) (s : State) (m : MethodId) (b : Nat) (below : List Frame) (meth : Method) (c : Code) (D : va_G) (cA : Nat → ClassId) (A : Nat → Prop) (ad : Nat → Nat) (k : Nat) : Nat → List (Option Value) → List Value → List va_E → Prop :=
  zV (fun H locs g => W p l e room_1 s m #[Value.ref b] below meth c H locs (32 + k) (1250 + 6 * k) (lw_Z below #[Value.ref b] s) g) m s.heap D cA ad A 8
section LawV
variable {p : Program} {l : Launch} {e : Env} {s : State} {m : MethodId} {below : List Frame} {meth : Method} {c : Code} {b N : Nat} {xs : Nat → Int32} {D : va_G} {cA : Nat → ClassId} {A : Nat → Prop} {ad : Nat → Nat}
theorem law_call (hl : l.stackTraces = false) (hA : A = fun q => s.heap.size ≤ q) (cx : zCx p s m #[Value.ref b] c code "WideWordStackLaw" D cA A 8) (hST : zST ad A s) (hTS : zTS A s) {pc n : Nat} {S : zSpec} (hq : zWok pc n S) {k : Nat} (hk : k < 512) {L : List (Option Value)} {st : List Value} {σ : List va_E}
    (h : zcs n S st σ (fun st' σ' => lVV p l e s m b below meth c D cA A ad (k + 1) (pc + 3) L st' σ')) : lVV p l e s m b below meth c D cA A ad k pc L st σ := by
  obtain ⟨j, y, cc, nl, hh, rm, hd, hrm, hM, w1, w2, w3, w4, hy1, hy2, hpar⟩ := hq
  obtain ⟨h1, h2, h3⟩ := h
  obtain ⟨hx, hbc, hml, hown, hts, hK, hA2⟩ := cx
  have hM := hM l hl _ _ _ h3
  have hst : st = (st.take n) ++ st.drop n := (List.take_append_drop _ _).symm
  intro ls H locs hl2 hP hD hS T hT X
  have hF := z_free (cA := cA) (ad := ad) hA2 hD hS
  have hcat : ((st.drop n).map (zv ad)).map (fun v => v.category) = (st.drop n).map fun v => v.category := by
    rw [List.map_map]
    exact List.map_congr_left (fun v _ => by simp [z_zv_cat])
  have hwsL : ∀ w ∈ zwsL y cc nl (some .int) hh, ∀ (a' : Array Value) (U : State), s.WarmedH U.vm → w.before a' U = true := by
    intro w hw a' U hW
    rcases List.mem_cons.mp hw with rfl | hw
    · exact word_at hW (good_of_word (List.mem_filter.mp w1).2) (hts _ w1)
    · exact word_at hW (good_of_word (List.mem_filter.mp hw).2) (hts _ hw)
  have hBk : Back l room_1 p e below s #[Value.ref b] y 3 8 (PreOf room_1 1 6 (zPcX D cA ad (st.take n).reverse σ H.size)) (PostOf (zQ D cA ad (fun r σ' => lVV p l e s m b below meth c D cA A ad (k + 1) (pc + 3) L (r.toList ++ st.drop n) σ') (va_A (zw cA ad σ) H.size)) 1 6 (va_A (zw cA ad σ) H.size)) :=
    va_backW (hh := hh) (bytes := cc) (maxL := nl) (ret := some .int) (hM D cA ad H.size) zPcX_blind hrm.1 hrm.2.1 hrm.2.2.1 hrm.2.2.2 hwsL List.mem_cons_self (fun a' U hW => word_at hW (good_of_word (List.mem_filter.mp w2).2) (hts _ w2))
  obtain ⟨mk, methM, cM, hnamed, hmethM, -, -, -, -, -, -, hsigM⟩ := Cond.codeWith_spec (hts _ w1)
  have hstatic : methM.isStatic = true := Cond.static_spec hnamed hmethM (hts _ w4)
  obtain ⟨kP, hkP, -⟩ := className_of_methodNamed hnamed
  have hinitP : kP.init = .initialized := Cond.initialized_spec (findClass_of_methodNamed hnamed) hkP (hts _ w2)
  have hlen : (((st.take n).reverse).map (zv ad)).length = methM.sig.parameters.length := by
    rw [hsigM] at hpar
    have e1 := Option.some.inj hpar
    rw [List.length_map, List.length_reverse, List.length_take, Nat.min_eq_left h1]
    exact e1.symm
  have hstack : (F0 m pc ls (st.map (zv ad))).stack = (((st.take n).reverse).map (zv ad)).reverse ++ (st.drop n).map (zv ad) := by
    show st.map (zv ad) = _
    conv => lhs; rw [hst]
    simp
  obtain ⟨vm₁, X₁, hstep₁⟩ := X.invokestatic hx hown (hts _ w3) hnamed hmethM hstatic hkP hinitP ⟨hy1, hy2⟩ (g := F0 m pc ls (st.map (zv ad))) rfl (argsL := ((st.take n).reverse).map (zv ad)) (rest := (st.drop n).map (zv ad)) hlen hstack (by rw [hbc]; exact hd)
  have hW₁ := X₁.warmed
  obtain ⟨v, ⟨U', l2, c2, s2⟩, X', ⟨g', mk2, t, L1, e1, e2, hq, e3, hL1, e4, e5⟩, hsteps⟩ := hBk m meth c ⟨T.setVm vm₁, locs, 32 + k, 1250 + 6 * k⟩ { F0 m pc ls (st.map (zv ad)) with stack := (st.drop n).map (zv ad) } (.invokestatic j) mk (((st.take n).reverse).map (zv ad)).toArray X₁ rfl (hl2.1.trans hml.symm) (by rw [hbc]; exact hd) (by rw [hcat]; show 2 * 0 + _ ≤ 8; omega) (X₁.named hnamed)
    ⟨by show 32 + k + 1 ≤ 601024; omega, by show 1250 + 6 * k + 6 ≤ 7293034; omega, rfl, by show T.heap.size = H.size; rw [hT], by show va_P D zcl (zw cA ad σ) T.heap; rw [hT]; exact hP, va_K.moved (U := T.setVm vm₁) hW₁.alike hK, hD.weaken (fun _ _ _ _ => trivial), hST.call (U := T.setVm vm₁) hS hT hW₁.alike hF, hTS.go (U := T.setVm vm₁) (fun a h1 h2 => by show T.heap[a]? = _; rw [hT]; exact hS.2.1 a h1 h2) hW₁ hF⟩
  dsimp only [Pt.U, Pt.locs, Pt.cells, Pt.slots] at X' e1 e2 e3 e4 e5 hsteps
  subst e3; subst e4; subst e5
  obtain ⟨⟨r, σ', hv, hK1, hP1, hD1, -⟩, hz, hkp⟩ := hq
  cases hv
  have hz2 : H.size ≤ t.heap.size := by rw [← hT]; exact hz
  have hkp2 : ∀ q : Nat, q < H.size → ¬ va_A (zw cA ad σ) H.size q → t.heap[q]? = H[q]? := fun q h1 h2 => by
    have := hkp q (by show q < T.heap.size; rw [hT]; exact h1) h2
    rw [this]
    show T.heap[q]? = _
    rw [hT]
  have hS' : va_S A s.heap U'.heap (locs ++ L1) := ⟨Nat.le_trans hS.1 (by rw [e1]; exact hz2), fun q h1 h2 => by rw [e1, hkp2 q (Nat.lt_of_lt_of_le h1 hS.1) (fun z => h2 (hF q z))]; exact hS.2.1 q h1 h2, fun q hq => by
      rcases List.mem_append.mp hq with h | h
      · exact hS.2.2 q h
      · exact hF _ (hL1 q h)⟩
  obtain ⟨t2, a1, b1⟩ := hK1 ls U'.heap (locs ++ L1) hl2 (by rw [e1]; exact hP1) (hD1.weaken (fun _ q _ h => hF q.1 h)) hS' U' rfl (by
    have e6 : 1250 + 6 * (k + 1) = 1250 + 6 * k + 6 := by omega
    rw [e6]
    exact X')
  refine ⟨t2, hstep₁ _ (fun acts => ?_), b1⟩
  rw [doInvoke_state]
  refine hsteps.trans ?_
  have e7 : (r.toList ++ st.drop n).map (zv ad) = (r.map (zv ad)).toList ++ (st.drop n).map (zv ad) := by cases r <;> simp
  rw [e7] at a1
  exact a1
theorem law_rules (hl : l.stackTraces = false) (hA : A = fun q => s.heap.size ≤ q) (cx : zCx p s m #[Value.ref b] c code "WideWordStackLaw" D cA A 8) (hST : zST ad A s) (hTS : zTS A s) (hr : meth.sig.returnType = ret) (hlocks : meth.locks = false) (hX : va_X b N xs s s.heap) (hb : b < s.heap.size) (h2 : ad 1002 = b) (hN : N ≤ 4608) : lRul (lVV p l e s m b below meth c D cA A ad) N xs := by
  have cx0 := cx
  obtain ⟨hx, hbc, hml, hown, hts, hK, hA2⟩ := cx
  have hbA : ¬ A b := by rw [hA]; exact Nat.not_le.mpr hb
  refine ⟨fun k pc L st σ hk hz => ?_, fun k pc L L' st σ hz hle => ?_, fun k pc L st σ i hpc hi hz => ?_, fun k L st σ hz => ?_, fun k L st σ q hq hk hz => law_call hl hA cx0 hST hTS (lwr_ok q hq) hk hz⟩
  · refine zx_ok (V := lVV p l e s m b below meth c D cA A ad k) rfl hx hbc hown hts hK hST fo_L ko_L go_L (zct_ok rfl hx hbc hml hown hts hK hST hA2 ⟨by show 32 + k ≤ 601024; omega, by show 1250 + 6 * k ≤ 7293034; omega⟩ co_L_law) ?_ (d_L_law pc) pc L st σ (k_L_law pc) hz
    intro o L σ' pc ho hk2 ls H locs hl hP' hD' hS'
    rcases hk2 with ⟨x, h0, h1, h3⟩ | ⟨x, h0, h1, h3⟩ | ⟨a, h0, h1, h3⟩ | ⟨h0, h1, h3⟩
    · rw [h0] at ho
      have ho : x = nI 1 := by cases ho; rfl
      subst ho
      rw [h0]
      refine W_mono (C := 601024) (S := 7293034) (by omega) (by omega) (fun q hq => by have := hS'.2.2 q hq; rw [hA] at this; exact this) ?_
      exact lw_ret hx hbc hr hlocks h3
    · cases h1
    · cases h1
    · cases h1
  · intro ls H locs hl hP' hD' hS'
    exact hz ls H locs ⟨hl.1, (zle_len _ _ hle).trans hl.2.1, hl.2.2.1, fun i v hi => hl.2.2.2 i v (zle_at _ _ hle i v hi)⟩ hP' hD' hS'
  · intro ls H locs hl hP' hD' hS'
    have w := hz ls H locs hl hP' hD' hS'
    have hsm : N < 2147483648 := by omega
    have e1 : (nI i).toNatClampNeg = i := zi_cl (by omega)
    have e2 : (Value.int (nI i) :: Value.ref 1002 :: st).map (zv ad) = .int (nI i) :: .ref b :: st.map (zv ad) := by
      show Value.int (nI i) :: Value.ref (ad 1002) :: _ = _
      rw [h2]
    rw [e2]
    refine va_sld hx hbc hX hb hbA hS' (zi_in hi hsm) (lald_ok pc hpc) ?_
    rw [e1]
    exact w
  · intro ls H locs hl hP' hD' hS'
    have w := hz ls H locs hl hP' hD' hS'
    have e2 : (Value.ref 1002 :: st).map (zv ad) = .ref b :: st.map (zv ad) := by
      show Value.ref (ad 1002) :: _ = _
      rw [h2]
    rw [e2]
    exact va_slen hx hbc hX hb hbA hS' (by decide +kernel) w
end LawV
