/-! A walk to a throw -/
abbrev xSpec : Type := List Value → List va_E → (String → List va_E → Prop) → Prop
def zctx (tx : List (Nat × Nat × xSpec)) (KT : String → List va_E → Prop) (key : Nat) (st : List Value) (σ : List va_E) : Prop := match tx with
  | [] => False
  | q :: r => if key = q.1 then (q.2.1 ≤ st.length ∧ ((st.drop q.2.1).map fun v => v.category).sum ≤ 8 ∧ q.2.2 (st.take q.2.1).reverse σ KT) else zctx r KT key st σ
def zcX (t : List (Nat × Nat × zSpec)) (tx : List (Nat × Nat × xSpec)) (KT : String → List va_E → Prop) (key : Nat) (st : List Value) (σ : List va_E) (K : List Value → List va_E → Prop) : Prop := zct t key st σ K ∨ zctx tx KT key st σ
def zgoX (f : Nat → Option (Nat × Nat)) (kk : Nat → Option Value) (t : List (Nat × Nat × zSpec)) (tx : List (Nat × Nat × xSpec)) (ret : Option FieldType) (g : Nat → Option Nat) (cd : Nat → List Instr) (KT : String → List va_E → Prop) (V : Nat → List (Option Value) → List Value → List va_E → Prop) : Prop :=
  (∀ pc L st σ, zx f kk (zcX t tx KT) ret g V (fun _ _ => False) (cd pc) pc L st σ → V pc L st σ) ∧ (∀ pc L L' st σ, V pc L st σ → zle L L' → V pc L' st σ) ∧ (∀ pc L st (σ : List va_E) i q q', V pc L st (σ.set i q') → zsim q q' → V pc L st (σ.set i q))
def zCokX (own : String) (R : Room) (q : Nat × Nat × xSpec) : Prop := ∃ (j : Nat) (y : MethodName) (cc : ByteArray) (n : Nat) (ret : Option FieldType) (rm : Room), zRmX rm R n ∧ (∀ l : Launch, l.stackTraces = false → ∀ vs σ KT, q.2.2 vs σ KT → zMetX l y cc n ret rm vs σ KT) ∧
  q.1 = 3 * j + 1 ∧ ∃ np ci, q.2.1 = np + 1 ∧ zLV own j y cc n ret np ∧ (∀ vs σ KT, q.2.2 vs σ KT → ∃ a fs r, vs = .ref a :: r ∧ σ[a]? = some (.inr (ci, fs))) ∧ ∃ T N, zcl[ci]? = some (y.cls, T, N)
theorem zctx_at {tx : List (Nat × Nat × xSpec)} {KT : String → List va_E → Prop} {key : Nat} {st : List Value} {σ : List va_E} (h : zctx tx KT key st σ) : ∃ q ∈ tx, key = q.1 ∧ q.2.1 ≤ st.length ∧ ((st.drop q.2.1).map fun v => v.category).sum ≤ 8 ∧ q.2.2 (st.take q.2.1).reverse σ KT := by
  induction tx with
  | nil => exact h.elim
  | cons q r ih =>
    unfold zctx at h
    by_cases hq : key = q.1
    · rw [if_pos hq] at h
      exact ⟨q, List.mem_cons_self, hq, h⟩
    · rw [if_neg hq] at h
      obtain ⟨q', h1, h2⟩ := ih h
      exact ⟨q', List.mem_cons_of_mem _ h1, h2⟩
theorem zmetX_of {l : Launch} {y : MethodName} {cc : ByteArray} {n : Nat} {ret : Option FieldType} {rm : Room} {own : String} {f : Nat → Option (Nat × Nat)} {kk : Nat → Option Value} {t : List (Nat × Nat × zSpec)} {tx : List (Nat × Nat × xSpec)} {th : List (Nat × String)} {g : Nat → Option Nat} {cd : Nat → List Instr} {vs : List Value} {σ : List va_E} {KT : String → List va_E → Prop}
    (hl : l.stackTraces = false) (hy : plainFor y = true) (hyo : y.cls = own) (hf : zFok own f) (hkk : zKok own kk) (hg : zGok own g) (ht : ∀ q ∈ t, zCok own rm q) (htx : ∀ q ∈ tx, zCokX own rm q) (hth : ∀ q ∈ th, zSite own cc q.1 q.2) (hcd : ∀ pc, zok cc n pc (cd pc) = true) (hn : (zsl vs).length ≤ n) (hR : rm.cells = 1 ∧ rm.slots = 6 ∧ 6 ≤ rm.frames ∧ 83 ≤ rm.locals)
    (h : ∀ V, zgoX f kk t tx ret g cd KT V → (∀ q ∈ th, ∀ L σ, KT q.2 σ → V q.1 L [] σ) → V 0 (zL0 n vs) [] σ) : zMetX l y cc n ret rm vs σ KT := by
  intro D cA ad sz
  refine MetFree.of_bodySF (code := cc) (maxLocals := n) (ret := ret) hy ?_ ?_
  · intro args s m h hn
    obtain ⟨meth, c, h1, h2, h3, h4, h5, h6, -, -⟩ := Cond.code_spec hn (atoms_spec (ws := zws y cc n ret) h _ List.mem_cons_self)
    exact ⟨meth, c, h1, h2, h3, h4, h5, h6⟩
  intro p e s m args below meth c s₁ B hml hv _
  have hh0 : s₁.heap = s.heap := by rw [B.state]; rfl
  have X0 := Stand.of_body B
  obtain ⟨rfl, hsz, hP, hK, hD0, hST, hTS⟩ := hv
  have hx := B.exec
  have hb := B.bytes
  have hts0 := atoms_spec (ws := zws y cc n ret) B.pre
  have hts : ∀ w ∈ zwt, w.before (vs.map (zv ad)).toArray s = true := fun w hw => hts0 w (List.mem_cons_of_mem _ hw)
  have hown : s.vm.findClass own = some m.cls := by rw [← hyo]; exact findClass_of_methodNamed B.named
  have hlocks := B.notSynchronized
  have hhand : c.exceptionTable.isEmpty = true := B.noHandlers (hts0 _ List.mem_cons_self)
  subst hsz
  have hD := hD0.self (sz := s.heap.size)
  generalize hAe : va_A (zw cA ad σ) s.heap.size = A at hD hST hTS ⊢
  have hA : ∀ q : Nat, s.heap.size ≤ q → A q := fun q h => by rw [← hAe]; exact Or.inr h
  have hS : va_S A s.heap s.heap [] := va_S.rf
  have hroom : (headSpec (zws y cc n ret) rm).room = rm := rfl
  rw [hroom] at X0
  let V := zV (fun H locs g => W p l e rm s m (vs.map (zv ad)).toArray below meth c H locs 0 0 (zMQX below (zQX D cA ad KT A) (vs.map (zv ad)).toArray s A) g) m s.heap D cA ad A n
  have key : V 0 (zL0 n vs) [] σ := by
    refine h V ⟨fun pc L st σ' hz => ?_, fun pc L L' st σ' hz hle => ?_, fun pc L st σ' i q q' hz hs => ?_⟩ ?_
    · refine zx_ok (V := V) rfl hx hb hown hts hK hST hf hkk hg ?_ ?_ (cd pc) pc L st σ' (hcd pc) hz
      · intro key L st σ K pc hc hd hk
        rcases hc with hc | hc
        · exact zct_ok rfl hx hb hml hown hts hK hST hA ⟨Nat.zero_le _, Nat.zero_le _⟩ ht key L st σ K pc hc hd hk
        · obtain ⟨q, hq, e1, h1, h2, h3⟩ := zctx_at hc
          obtain ⟨j, y2, cc2, n2, ret2, rm2, hrm, hM, e2, np, ci, e3, hlv, hrecv, TT, N, hcl⟩ := htx q hq
          obtain ⟨j', ⟨g1, g2⟩ | ⟨g1, g2⟩ | ⟨g1, g2⟩⟩ := hd
          · omega
          · have : j' = j := by omega
            subst this
            obtain ⟨a, fs, As, e4, e5⟩ := hrecv _ _ _ h3
            rw [e4] at h3
            have hlen : As.length = np := by
              have : ((st.take q.2.1).reverse).length = q.2.1 := by simp [h1]
              rw [e4, e3] at this
              simpa using this
            have hst : st = (st.take q.2.1) ++ st.drop q.2.1 := (List.take_append_drop _ _).symm
            have e6 : st.take q.2.1 = (Value.ref a :: As).reverse := by rw [← e4, List.reverse_reverse]
            intro ls H locs hl2 hP2 hD2 hS2
            intro T hT X
            have hcat : ((st.drop q.2.1).map (zv ad)).map (fun v => v.category) = (st.drop q.2.1).map fun v => v.category := by
              rw [List.map_map]
              exact List.map_congr_left (fun v _ => by simp [z_zv_cat])
            obtain ⟨x, X', σ', T', LL, X2, hS3, hk3, hexc, hP3, hD3, hst3⟩ := z_callX (g := F0 m pc ls (st.map (zv ad))) (rest := (st.drop q.2.1).map (zv ad)) X hT hx hb hown hts hK hST hTS hA (hM l hl _ _ _ h3) hrm hlv hcl e5 hP2 hD2 hS2 rfl (hl2.1.trans hml.symm) hlen
              (by
                show st.map (zv ad) = _
                conv => lhs; rw [hst]
                rw [e6]
                simp [zv]) (by rw [hcat]; show 2 * 0 + _ ≤ 8; omega) g2 (by rw [hR.1]; exact Nat.le_refl _) (by rw [hR.2.1]; exact Nat.le_refl _)
            obtain ⟨l1, l2, l3, l4, l5⟩ := X2.leaveThrown x (g := { F0 m pc ls (st.map (zv ad)) with stack := (st.drop q.2.1).map (zv ad) }) rfl rfl rfl (fun x hx => by
              have : c.exceptionTable = #[] := Array.isEmpty_iff.mp hhand
              rw [this] at hx
              cases hx) hlocks
            have hWU : s.WarmedH T'.vm := X2.warmed
            exact ⟨_, hst3 _ l1, .threw x, l2, l3, ⟨⟨x, X', σ', rfl, hk3, hexc, hP3, hD3, va_K.moved hWU.alike hK⟩, hS3.F rfl⟩, _, l4, by rw [Nat.zero_add, Nat.zero_add] at l5; exact l5, hS3.2.2⟩
          · omega
      · intro o L σ' pc ho
        exact ho.elim
    · intro ls H locs hl hP' hD' hS'
      exact hz ls H locs ⟨hl.1, (zle_len _ _ hle).trans hl.2.1, hl.2.2.1, fun i v hi => hl.2.2.2 i v (zle_at _ _ hle i v hi)⟩ hP' hD' hS'
    · intro ls H locs hl hP' hD' hS'
      exact hz ls H locs hl (z_simset hP' hs) (z_simD hD') hS'
    · intro q hq L σ' hk ls H locs hl2 hP2 hD2 hS2
      exact z_site hl hx hb (hml.trans hl2.1.symm) hown hts hTS hlocks hhand hA ⟨by omega, by omega, hR.2.2.1, hR.2.2.2⟩ hK hP2 hD2 hS2 (hth q hq) hk
  rw [lg_entry_eq]
  obtain ⟨t2, a1, o, b1, b2, b3, b4⟩ := key _ _ _ (zH_entry ad hn) hP hD hS s₁ hh0 X0
  exact ⟨t2, o, a1, b1, b2, b3, b4⟩
