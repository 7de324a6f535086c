/-! Making objects: a constructor's contract, its call, an array of arrays -/
def zAO (U : State) : Prop := (Cond.arrayOver (.array .long)).before #[] U = true
theorem zAO.go {s U : State} (hW : s.WarmedH U.vm) (h : zAO s) : zAO U := by
  have h1 : (Cond.arrayOver (.array .long)).before #[] (s.setVm U.vm) = true := by rw [Cond.arrayOver_setVmC hW.alike]; exact h
  exact h1
def zPcC (D : va_G) (cA : Nat → ClassId) (ad : Nat → Nat) (vs : List Value) (σ : List va_E) (sz : Nat) : Array Value → State → Prop := fun a U => zPc D cA ad vs σ sz a U ∧ zAO U
def zQC (D : va_G) (cA : Nat → ClassId) (ad : Nat → Nat) (n0 : Nat) (K : List va_E → Prop) (A : Nat → Prop) : Array Value → State → Outcome → State → Prop := fun _ st oc t =>
  (∃ (σ' : List va_E) (ad' : Nat → Nat), oc = .returned none ∧ K σ' ∧ zagr n0 ad ad' ∧ va_P D zcl (zw cA ad' σ') t.heap ∧ va_D A (zw cA ad' σ') ∧ va_K D zcl (ztys cA) t) ∧ va_F A st t
def zMetC (l : Launch) (y : MethodName) (cc : ByteArray) (n : Nat) (rm : Room) (mc ms : Nat) (vs : List Value) (σ : List va_E) (K : List va_E → Prop) : Prop :=
  ∀ (D : va_G) (cA : Nat → ClassId) (ad : Nat → Nat) (sz : Nat), Met l y (zws y cc n none) rm (zPcC D cA ad vs σ sz) (zQC D cA ad σ.length K (va_A (zw cA ad σ) sz)) mc ms (va_A (zw cA ad σ) sz)
theorem zPcC_blind {D : va_G} {cA : Nat → ClassId} {ad : Nat → Nat} {vs : List Value} {σ : List va_E} {sz : Nat} : FrameBlind (zPcC D cA ad vs σ sz) := fun a U g mk q => ⟨zPc_blind a U g mk q.1, zAO.go (s := U) (U := U.calling g mk a) (State.WarmedH.refl U) q.2⟩
theorem zST.agr {ad ad' : Nat → Nat} {A : Nat → Prop} {U : State} {N : Nat} (h : zST ad A U) (hag : zagr N ad ad') : zST ad' A U := by
  unfold zST at h ⊢
  rw [hag 1000 (Or.inr (by decide)), hag 1001 (Or.inr (by decide))]
  exact h
section MakeB
variable {p : Program} {l : Launch} {e : Env} {R : Room} {s : State} {m : MethodId} {args : Array Value} {below : List Frame} {meth : Method} {c : Code} {cells slots : Nat} {Q : State → Prop}
variable {cc : ByteArray} {own : String} {D : va_G} {cA : Nat → ClassId} {ad0 ad : Nat → Nat} {A : Nat → Prop} {nL n0 : Nat} {pc : Nat} {L : List (Option Value)} {st : List Value} {σ : List va_E}
theorem vc_step {f : Nat → Option (Nat × Nat)} {kk : Nat → Option Value} {ret : Option FieldType} {g : Nat → Option Nat} {RT : Option Value → List va_E → Prop} {is : List Instr} (cx : zCx p s m args c cc own D cA A nL) (hST : zST ad0 A s) (hf : zFok own f) (hkk : zKok own kk) (hg : zGok own g)
    (hR : ∀ (o : Option Value) (L : List (Option Value)) (σ : List va_E) (pc : Nat), RT o σ → ((∃ x, o = some (.int x) ∧ zret ret x ∧ decode cc pc = .ok (.ireturn, 1)) ∨ (∃ x, o = some (.long x) ∧ ret = some .long ∧ decode cc pc = .ok (.lreturn, 1)) ∨ (∃ a, o = some (.ref a) ∧ ret = some (.array .long) ∧ decode cc pc = .ok (.areturn, 1)) ∨ (o = none ∧ ret = none ∧ decode cc pc = .ok (.return_, 1))) → zVc ad0 n0 (fun H locs g => W p l e R s m args below meth c H locs cells slots Q g) m s.heap D cA A nL ad pc L o.toList σ)
    (hok : zok cc nL pc is = true) (h : zx f kk (zct []) ret g (zVc ad0 n0 (fun H locs g => W p l e R s m args below meth c H locs cells slots Q g) m s.heap D cA A nL ad) RT is pc L st σ) :
    zVc ad0 n0 (fun H locs g => W p l e R s m args below meth c H locs cells slots Q g) m s.heap D cA A nL ad pc L st σ := by
  intro had
  obtain ⟨hx, hbc, -, hown, hts, hK, hA⟩ := cx
  have ev : zVc ad0 n0 (fun H locs g => W p l e R s m args below meth c H locs cells slots Q g) m s.heap D cA A nL ad = zV (fun H locs g => W p l e R s m args below meth c H locs cells slots Q g) m s.heap D cA ad A nL := by
    funext pc L st σ
    exact propext ⟨fun h => h had, fun h _ => h⟩
  rw [ev] at h
  exact zx_ok rfl hx hbc hown hts hK (hST.agr had) hf hkk hg (fun key L st σ K pc h => h.elim) (fun o L σ pc ho hd => hR o L σ pc ho hd had) is pc L st σ hok h
theorem vc_call {y : MethodName} {bytes : ByteArray} {maxL mc ms np a j : Nat} {rm : Room} {As : List Value} {K : List va_E → Prop} (cx : zCx p s m args c cc own D cA A nL) (hST : zST ad0 A s) (hAO : zAO s) (hM : zMetC l y bytes maxL rm mc ms (.ref a :: As) σ K)
    (hrm : rm.cells = mc ∧ rm.slots = ms ∧ rm.frames + 1 ≤ R.frames ∧ 8 + (maxL + 11) + rm.locals ≤ R.locals) (w1 : Cond.code y bytes maxL none ∈ zwt) (w2 : Cond.initialized y.cls ∈ zwt) (w3 : Cond.methodLink own j y ∈ zwt) (w4 : Cond.instanceMethod y ∈ zwt) (hy1 : y.name = "<init>") (hmh : zMH y np) (hd : decode cc pc = .ok (.invokespecial j, 3)) (hlen : As.length = np) (hcat : (st.map fun v => v.category).sum ≤ 8)
    (hb : (∀ q ∈ L, zbo σ.length q) ∧ ∀ v ∈ st, zbV σ.length v) (hn0 : n0 ≤ σ.length) (hf : cells + mc ≤ R.cells ∧ slots + ms ≤ R.slots)
    (k : ∀ σ' ad', K σ' → zVc ad0 n0 (fun H locs g => W p l e R s m args below meth c H locs (cells + mc) (slots + ms) Q g) m s.heap D cA A nL ad' (pc + 3) L st σ') :
    zVc ad0 n0 (fun H locs g => W p l e R s m args below meth c H locs cells slots Q g) m s.heap D cA A nL ad pc L (As.reverse ++ .ref a :: st) σ := by
  intro had ls H locs hl hP hD hS
  obtain ⟨hx, hbc, hml, hown, hts, hK, hA⟩ := cx
  have hF := z_free (cA := cA) (ad := ad) hA hD hS
  intro T hT X
  have hcat2 : (st.map (zv ad)).map (fun v => v.category) = st.map fun v => v.category := by
    rw [List.map_map]
    exact List.map_congr_left (fun v _ => by simp [z_zv_cat])
  have hST' := hST.agr had
  obtain ⟨v, st₀, t, T', L1, h0, X', hL1, e1, e2, ⟨⟨σ', ad', hv, hk1, hag, hP1, hD1, -⟩, hz, hkp⟩, stp⟩ := va_runI (b := ad a) (As := As.map (zv ad)) (rest := st.map (zv ad)) (g := F0 m pc ls ((As.reverse ++ .ref a :: st).map (zv ad))) ⟨hx, hbc, hml, hown, hts⟩ (hM D cA ad H.size)
    ⟨callB_of (R := R) (rm := rm) np hts (zws_good w1) rfl hrm.1 hrm.2.1 (hts _ w2) (hts _ w3) hmh hrm.2.2, hy1, hts _ w4⟩
    ⟨zPcC_blind, fun U hU hW => ⟨z_pre (vs := .ref a :: As) hA hK hST' hP hD hS U hU hW, zAO.go hW hAO⟩⟩ rfl (by rw [List.length_map, hlen]) hl.1 (by simp [zv]) (by rw [hcat2]; show 2 * 0 + _ ≤ 8; omega) hd hf T hT X
  cases hv
  rw [h0] at hz hkp
  have hS' : va_S A s.heap T'.heap (locs ++ L1) := ⟨Nat.le_trans hS.1 (by rw [e1]; exact hz), fun q h1 h2 => by rw [e1, hkp q (Nat.lt_of_lt_of_le h1 hS.1) (fun z => h2 (hF q z))]; exact hS.2.1 q h1 h2, fun q hq => by
      rcases List.mem_append.mp hq with h | h
      · exact hS.2.2 q h
      · exact hF _ (hL1 q h)⟩
  have had' : zagr n0 ad0 ad' := fun i hi => by rw [hag i (by omega)]; exact had i hi
  obtain ⟨t2, a1, b1⟩ := k σ' ad' hk1 had' ls T'.heap (locs ++ L1) (hag.H hb.1 hl) (by rw [e1]; exact hP1) (hD1.weaken (fun _ q _ h => hF q.1 h)) hS' T' rfl X'
  refine ⟨t2, stp t2 ?_, b1⟩
  rw [hag.st hb.2] at a1
  exact a1
end MakeB
/-- an array of 12 rows, the first of them at N + 1 -/
def zRow0 : va_E := .inl (1, 8, .inr (.inl (fun _ => 0)))
def zRows (N : Nat) : List va_E := .inl (3, 12, .inr (.inr (.inr (.inr (fun j => some (N + 1 + j)))))) :: List.replicate 12 zRow0
theorem outerC_arr (c : ClassId) (N h0 : Nat) : ∀ i, Jvm.Free.Multi.outerC c N h0 i = arrV c N (fun j => if j < i then .ref (h0 + 1 + j) else .null)
  | 0 => by
    show ({ cls := c, slots := Array.replicate N .null, vm := .none } : Cell) = _
    rw [arrV_new]
    exact arrV_ext (fun j _ => by rw [if_neg (by omega)])
  | i + 1 => by
    show (Jvm.Free.Multi.outerC c N h0 i).setSlot i (.ref (h0 + 1 + i)) = _
    rw [outerC_arr c N h0 i, arrV_store]
    refine arrV_ext (fun j _ => ?_)
    unfold updV
    by_cases h : j = i
    · rw [if_pos h, if_pos (by omega), h]
    · rw [if_neg h]
      show (if j < i then Value.ref (h0 + 1 + j) else Value.null) = _
      by_cases h2 : j < i
      · rw [if_pos h2, if_pos (by omega)]
      · rw [if_neg h2, if_neg (by omega)]
theorem innerC_arr (c : ClassId) : Jvm.Free.Multi.innerC c 8 (defaultValue .long) = arrV c 8 (fun _ => .long 0) := by
  show ({ cls := c, slots := Array.replicate 8 (.long 0), vm := .none } : Cell) = _
  rw [arrV_new]
theorem znw_rows {cA : Nat → ClassId} {ad : Nat → Nat} {N x k : Nat} {r : Nat × va_E} (h : (znw cA (zad ad N 13 x) x (zRows N))[k]? = some r) : (k = 0 ∧ r = (x, .inl (cA 3, 12, .inr (.inr (.inr (.inr (fun j => (some (N + 1 + j)).map (zad ad N 13 x)))))))) ∨ (∃ i, i < 12 ∧ k = 1 + i ∧ r = (x + 1 + i, .inl (cA 1, 8, .inr (.inl (fun _ => 0))))) := by
  unfold znw at h
  rw [List.getElem?_mapIdx] at h
  rcases k with _ | k
  · left
    exact ⟨rfl, (Option.some.inj h).symm⟩
  · right
    have e : (zRows N)[k + 1]? = (List.replicate 12 zRow0)[k]? := rfl
    rw [e, List.getElem?_replicate] at h
    by_cases hk : k < 12
    · rw [if_pos hk] at h
      refine ⟨k, hk, by omega, ?_⟩
      rw [← Option.some.inj h]
      show (x + (k + 1), _) = (x + 1 + k, _)
      rw [show x + (k + 1) = x + 1 + k by omega]
      rfl
    · rw [if_neg hk] at h
      cases h
theorem znw_len {cA : Nat → ClassId} {ad : Nat → Nat} {x : Nat} {τ : List va_E} : (znw cA ad x τ).length = τ.length := by unfold znw; simp
theorem zRows_len (N : Nat) : (zRows N).length = 13 := by unfold zRows; simp
/-- the addresses of what is new lie behind all -/
theorem zD_push {A : Nat → Prop} {D : va_G} {cA : Nat → ClassId} {ad ad2 : Nat → Nat} {σ τ : List va_E} {H : Heap} (hP : va_P D zcl (zw cA ad σ) H) (hD : va_D A (zw cA ad σ)) (hA : ∀ q : Nat, H.size ≤ q → A q) : va_D A (zw cA ad σ ++ znw cA ad2 H.size τ) := by
  have hlen : (zw cA ad σ).length = σ.length := by unfold zw; simp
  have new : ∀ (k : Nat) (r : Nat × va_E), σ.length ≤ k → (zw cA ad σ ++ znw cA ad2 H.size τ)[k]? = some r → r.1 = H.size + (k - σ.length) := by
    intro k r hk hr
    rw [List.getElem?_append_right (by omega), hlen] at hr
    unfold znw at hr
    rw [List.getElem?_mapIdx] at hr
    cases e : τ[k - σ.length]? with
    | none => rw [e] at hr; cases hr
    | some q => rw [e] at hr; rw [← Option.some.inj hr]
  have old : ∀ (k : Nat) (r : Nat × va_E), k < σ.length → (zw cA ad σ ++ znw cA ad2 H.size τ)[k]? = some r → (zw cA ad σ)[k]? = some r := by
    intro k r hk hr
    rw [List.getElem?_append_left (by omega)] at hr
    exact hr
  refine ⟨fun i j r1 r2 h1 h2 h3 => ?_, fun k r hr => ?_⟩
  · by_cases hi : i < σ.length
    · have o1 := old i r1 hi h1
      by_cases hj : j < σ.length
      · exact hD.1 i j r1 r2 o1 (old j r2 hj h2) h3
      · have l1 := (hP i r1 o1).lt
        have n2 := new j r2 (by omega) h2
        omega
    · have n1 := new i r1 (by omega) h1
      by_cases hj : j < σ.length
      · have l2 := (hP j r2 (old j r2 hj h2)).lt
        omega
      · have n2 := new j r2 (by omega) h2
        omega
  · by_cases hk : k < σ.length
    · exact hD.2 k r (old k r hk hr)
    · rw [new k r (by omega) hr]
      exact hA _ (by omega)
section Multi
variable {p : Program} {l : Launch} {e : Env} {R : Room} {s : State} {m : MethodId} {args : Array Value} {below : List Frame} {meth : Method} {c : Code} {cells slots : Nat} {Q : State → Prop}
variable {cc : ByteArray} {own : String} {D : va_G} {cA : Nat → ClassId} {ad0 ad : Nat → Nat} {A : Nat → Prop} {nL n0 : Nat} {pc : Nat} {L : List (Option Value)} {st : List Value} {σ : List va_E}
theorem vc_multi {j : Nat} (cx : zCx p s m args c cc own D cA A nL) (hAO : zAO s) (hd : decode cc pc = .ok (.multianewarray j 2, 4)) (w1 : Cond.classLink own j ("[" ++ (FieldType.array .long).toString) ∈ zwt) (w3 : Cond.arrayClass .long ∈ zwt)
    (hcells : cells + 13 ≤ R.cells) (hslots : slots + 108 ≤ R.slots) (hb : zBd L st σ) (hn0 : n0 ≤ σ.length) (hN : σ.length + 13 ≤ 1000)
    (k : ∀ ad', zVc ad0 n0 (fun H locs g => W p l e R s m args below meth c H locs (cells + 13) (slots + 108) Q g) m s.heap D cA A nL ad' (pc + 4) L (.ref σ.length :: st) (σ ++ zRows σ.length)) :
    zVc ad0 n0 (fun H locs g => W p l e R s m args below meth c H locs cells slots Q g) m s.heap D cA A nL ad pc L (.int (nI 8) :: .int (nI 12) :: st) σ := by
  intro had ls H locs hl hP hD hS T hT X
  obtain ⟨hx, hbc, hml, hown, hts, hK, hA⟩ := cx
  have c12 : (nI 12).toNatClampNeg = 12 := by decide
  have c8 : (nI 8).toNatClampNeg = 8 := by decide
  have hov : (Cond.arrayOver (.array .long)).before args s = true := hAO
  obtain ⟨vm₁, cO, cI, hW, hfO, hfI, -, -, X1, stp⟩ := X.multianewarray2F hx (ty := .long) hown (hts _ w1) hov (hts _ w3) (g := F0 m pc ls ((.int (nI 8) :: .int (nI 12) :: st).map (zv ad))) rfl (by rw [hbc]; exact hd) (n := nI 12) (k := nI 8) (rest := st.map (zv ad)) rfl (by decide) (by decide) (by rw [c12]; decide) (by rw [c8]; decide) (by rw [c8]; decide) (by decide) (by decide) (by rw [c12]; exact hcells) (by rw [c12, c8]; exact hslots)
  rw [c12, c8] at X1 stp
  have hcO := z_acls (k := 3) (by decide) hK hfO
  have hcI := z_acls (k := 1) (by decide) hK (show s.vm.findClass ("[" ++ (zat 1).toString) = some cI from hfI)
  subst hcO; subst hcI
  obtain ⟨f1, f2, f3, f4⟩ := Jvm.Free.Multi.fill_facts (T.setVm vm₁) (cA 3) (cA 1) 12 8 (defaultValue .long) 12
  have hTs : (T.setVm vm₁).heap = H := hT
  have fo : ∀ q, q < H.size → (Jvm.Free.Multi.fill (T.setVm vm₁) (cA 3) (cA 1) 12 8 (defaultValue .long) 12).heap[q]? = H[q]? := fun q hq => by
    rw [Jvm.Free.Multi.fill_old (T.setVm vm₁) (cA 3) (cA 1) 12 8 (defaultValue .long) (by rw [hTs]; exact hq) 12, hTs]
  have fi : ∀ i, i < 12 → (Jvm.Free.Multi.fill (T.setVm vm₁) (cA 3) (cA 1) 12 8 (defaultValue .long) 12).heap[H.size + 1 + i]? = some (arrV (cA 1) 8 (fun _ => .long 0)) := fun i hi => by
    have := Jvm.Free.Multi.fill_inner (T.setVm vm₁) (cA 3) (cA 1) 12 8 (defaultValue .long) 12 i hi
    rw [hTs, innerC_arr] at this
    exact this
  rw [hTs] at f1 f2
  rw [hT] at stp
  generalize Jvm.Free.Multi.fill (T.setVm vm₁) (cA 3) (cA 1) 12 8 (defaultValue .long) 12 = U at X1 stp f1 f2 f3 f4 fo fi
  rw [outerC_arr] at f2
  have agr := zad_agr (ad := ad) (N := σ.length) (k := 13) (x := H.size) hN
  have hlen : (zw cA ad σ).length = σ.length := by unfold zw; simp
  have hP1 : va_P D zcl (zw cA ad σ ++ znw cA (zad ad σ.length 13 H.size) H.size (zRows σ.length)) U.heap := by
    refine (hP.kept (fun k y hy => fo y.1 ((hP k y hy).lt))).app (fun k r hr => ?_)
    rcases znw_rows hr with ⟨-, rfl⟩ | ⟨i, hi, -, rfl⟩
    · show U.heap[H.size]? = some (arrV (cA 3) 12 (fun j => va_rf ((some (σ.length + 1 + j)).map (zad ad σ.length 13 H.size))))
      rw [f2]
      refine congrArg some (arrV_ext (fun j hj => ?_))
      rw [if_pos hj]
      show Value.ref (H.size + 1 + j) = Value.ref (zad ad σ.length 13 H.size (σ.length + 1 + j))
      rw [show σ.length + 1 + j = σ.length + (1 + j) by omega, zad_new (by omega)]
      rw [Nat.add_assoc]
    · show U.heap[H.size + 1 + i]? = some (arrV (cA 1) 8 (fun _ => .long 0))
      exact fi i hi
  have hD1 : va_D A (zw cA ad σ ++ znw cA (zad ad σ.length 13 H.size) H.size (zRows σ.length)) := zD_push hP hD (fun q hq => hA q (Nat.le_trans hS.1 hq))
  have hl13 : (zRows σ.length).length = 13 := zRows_len _
  have hPa := zP_app (D := D) (cA := cA) (ad := ad) (σ := σ) (τ := zRows σ.length) (x := H.size) (H := U.heap) (by rw [hl13]; exact hN) hb.2.2 (by rw [hl13]; exact hP1)
  have hDa := zD_app (A := A) (cA := cA) (ad := ad) (σ := σ) (τ := zRows σ.length) (x := H.size) (by rw [hl13]; exact hN) (by rw [hl13]; exact hD1)
  rw [hl13] at hPa hDa
  obtain ⟨t2, a1, b1⟩ := k (zad ad σ.length 13 H.size) (fun i hi => by rw [agr i (by omega)]; exact had i hi) ls U.heap locs (agr.H hb.1 hl) hPa hDa ⟨by have := hS.1; omega, fun y h1 h2 => (fo y (Nat.lt_of_lt_of_le h1 hS.1)).trans (hS.2.1 y h1 h2), hS.2.2⟩ U rfl (by rw [Nat.add_assoc] at X1; exact X1)
  refine ⟨t2, stp t2 ?_, b1⟩
  have e2 : (Value.ref σ.length :: st).map (zv (zad ad σ.length 13 H.size)) = .ref H.size :: st.map (zv ad) := by
    rw [List.map_cons, agr.st hb.2.1]
    show Value.ref (zad ad σ.length 13 H.size σ.length) :: _ = _
    have := zad_new (ad := ad) (N := σ.length) (k := 13) (x := H.size) (i := 0) (by decide)
    rw [Nat.add_zero, Nat.add_zero] at this
    rw [this]
  rw [e2] at a1
  exact a1
end Multi
