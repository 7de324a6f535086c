/-! Making objects: the store grows; the addresses of what is new are known when it is made -/
def zbV (N : Nat) (v : Value) : Prop := match v with
  | .ref i => i < N ∨ 1000 ≤ i
  | _ => True
def zbE (N : Nat) (q : va_E) : Prop := match q with
  | .inl (_, n, .inr (.inr (.inr (.inr f)))) => ∀ j, j < n → ∀ i, f j = some i → i < N ∨ 1000 ≤ i
  | .inl _ => True
  | .inr (_, fs) => ∀ v ∈ fs, zbV N v
def zbo (N : Nat) (q : Option Value) : Prop := match q with
  | some v => zbV N v
  | none => True
def zagr (N : Nat) (ad ad' : Nat → Nat) : Prop := ∀ i, (i < N ∨ 1000 ≤ i) → ad' i = ad i
theorem zagr.v {N : Nat} {ad ad' : Nat → Nat} (h : zagr N ad ad') {v : Value} (hv : zbV N v) : zv ad' v = zv ad v := by
  cases v with
  | ref i => show Value.ref (ad' i) = Value.ref (ad i); rw [h i hv]
  | _ => rfl
theorem zagr.st {N : Nat} {ad ad' : Nat → Nat} (h : zagr N ad ad') {st : List Value} (hv : ∀ v ∈ st, zbV N v) : st.map (zv ad') = st.map (zv ad) := List.map_congr_left (fun v hm => h.v (hv v hm))
theorem zagr.H {N : Nat} {ad ad' : Nat → Nat} (h : zagr N ad ad') {nL : Nat} {ls : Array Slot} {L : List (Option Value)} (hL : ∀ q ∈ L, zbo N q) (hz : zH ad nL ls L) : zH ad' nL ls L :=
  ⟨hz.1, hz.2.1, hz.2.2.1, fun i v hi => by rw [h.v (hL _ (List.mem_of_getElem? hi))]; exact hz.2.2.2 i v hi⟩
theorem zagr.at {N : Nat} {ad ad' : Nat → Nat} (h : zagr N ad ad') {D : va_G} {cA : Nat → ClassId} {y : Nat} {q : va_E} {H : Heap} (hq : zbE N q) (hz : va_at D zcl (y, ze cA ad q) H) : va_at D zcl (y, ze cA ad' q) H := by
  rcases q with ⟨k, n, f | f | f | f | f⟩ | ⟨ci, fs⟩
  · exact hz
  · exact hz
  · exact hz
  · exact hz
  · have hz1 : H[y]? = some (arrV (cA k) n (fun j => va_rf ((f j).map ad))) := hz
    show H[y]? = some (arrV (cA k) n (fun j => va_rf ((f j).map ad')))
    rw [hz1, arrV_ext (fun j hj => ?_)]
    have hq1 : ∀ j, j < n → ∀ i, f j = some i → i < N ∨ 1000 ≤ i := hq
    cases e : f j with
    | none => rfl
    | some i =>
      show va_rf (some (ad i)) = va_rf (some (ad' i))
      rw [h i (hq1 j hj i e)]
  · have hq1 : ∀ v ∈ fs, zbV N v := hq
    have e : ze cA ad' (.inr (ci, fs)) = ze cA ad (.inr (ci, fs)) := by
      show (Sum.inr (ci, fs.map (zv ad')) : va_E) = Sum.inr (ci, fs.map (zv ad))
      rw [h.st hq1]
    rw [e]
    exact hz
/-- the map with k addresses more, from x on -/
def zad (ad : Nat → Nat) (N k x : Nat) : Nat → Nat := fun i => if N ≤ i ∧ i < N + k then x + (i - N) else ad i
theorem zad_agr {ad : Nat → Nat} {N k x : Nat} (hk : N + k ≤ 1000) : zagr N ad (zad ad N k x) := fun i hi => by
  unfold zad
  rw [if_neg (by omega)]
theorem zad_new {ad : Nat → Nat} {N k x i : Nat} (hi : i < k) : zad ad N k x (N + i) = x + i := by
  unfold zad
  rw [if_pos (by omega)]
  omega
/-- what is new, with its addresses -/
def znw (cA : Nat → ClassId) (ad : Nat → Nat) (x : Nat) (τ : List va_E) : va_W := τ.mapIdx (fun i q => (x + i, ze cA ad q))
theorem zw_app_at {cA : Nat → ClassId} {ad : Nat → Nat} {σ τ : List va_E} {x : Nat} (hk : σ.length + τ.length ≤ 1000) {k : Nat} {r : Nat × va_E} (hr : (zw cA (zad ad σ.length τ.length x) (σ ++ τ))[k]? = some r) :
    (∃ q, σ[k]? = some q ∧ r = (ad k, ze cA (zad ad σ.length τ.length x) q)) ∨ (σ.length ≤ k ∧ (znw cA (zad ad σ.length τ.length x) x τ)[k - σ.length]? = some r) := by
  unfold zw at hr
  rw [List.getElem?_mapIdx] at hr
  by_cases h : k < σ.length
  · rw [List.getElem?_append_left h] at hr
    left
    obtain ⟨q, hq⟩ : ∃ q, σ[k]? = some q := ⟨_, List.getElem?_eq_getElem h⟩
    rw [hq] at hr
    refine ⟨q, hq, ?_⟩
    rw [← Option.some.inj hr, zad_agr hk k (Or.inl h)]
  · rw [List.getElem?_append_right (by omega)] at hr
    right
    refine ⟨by omega, ?_⟩
    unfold znw
    rw [List.getElem?_mapIdx]
    cases e : τ[k - σ.length]? with
    | none => rw [e] at hr; cases hr
    | some q =>
      rw [e] at hr
      have hl : k - σ.length < τ.length := (List.getElem?_eq_some_iff.mp e).1
      have e2 := zad_new (ad := ad) (N := σ.length) (x := x) hl
      rw [show σ.length + (k - σ.length) = k by omega] at e2
      rw [← Option.some.inj hr]
      show some (x + (k - σ.length), _) = some (_, _)
      rw [e2]
theorem zP_app {D : va_G} {cA : Nat → ClassId} {ad : Nat → Nat} {σ τ : List va_E} {x : Nat} {H : Heap} (hk : σ.length + τ.length ≤ 1000) (hb : ∀ q ∈ σ, zbE σ.length q) (hP : va_P D zcl (zw cA ad σ ++ znw cA (zad ad σ.length τ.length x) x τ) H) : va_P D zcl (zw cA (zad ad σ.length τ.length x) (σ ++ τ)) H := by
  intro k r hr
  rcases zw_app_at hk hr with ⟨q, hq, rfl⟩ | ⟨h1, h2⟩
  · refine (zad_agr hk).at (hb q (List.mem_of_getElem? hq)) (hP k _ ?_)
    rw [List.getElem?_append_left (by unfold zw; simpa using (List.getElem?_eq_some_iff.mp hq).1)]
    exact zw_at hq
  · refine hP k r ?_
    rw [List.getElem?_append_right (by unfold zw; simpa using h1)]
    rw [show (zw cA ad σ).length = σ.length by unfold zw; simp]
    exact h2
theorem zD_app {A : Nat → Prop} {cA : Nat → ClassId} {ad : Nat → Nat} {σ τ : List va_E} {x : Nat} (hk : σ.length + τ.length ≤ 1000) (hD : va_D A (zw cA ad σ ++ znw cA (zad ad σ.length τ.length x) x τ)) : va_D A (zw cA (zad ad σ.length τ.length x) (σ ++ τ)) := by
  have key : ∀ (k : Nat) (r : Nat × va_E), (zw cA (zad ad σ.length τ.length x) (σ ++ τ))[k]? = some r → ∃ r' : Nat × va_E, (zw cA ad σ ++ znw cA (zad ad σ.length τ.length x) x τ)[k]? = some r' ∧ r'.1 = r.1 := by
    intro k r hr
    rcases zw_app_at hk hr with ⟨q, hq, rfl⟩ | ⟨h1, h2⟩
    · refine ⟨(ad k, ze cA ad q), ?_, rfl⟩
      rw [List.getElem?_append_left (by unfold zw; simpa using (List.getElem?_eq_some_iff.mp hq).1)]
      exact zw_at hq
    · refine ⟨r, ?_, rfl⟩
      rw [List.getElem?_append_right (by unfold zw; simpa using h1)]
      rw [show (zw cA ad σ).length = σ.length by unfold zw; simp]
      exact h2
  refine ⟨fun i j r1 r2 h1 h2 h3 => ?_, fun k r hr => ?_⟩
  · obtain ⟨a1, b1, c1⟩ := key i r1 h1
    obtain ⟨a2, b2, c2⟩ := key j r2 h2
    exact hD.1 i j a1 a2 b1 b2 (by rw [c1, c2, h3])
  · obtain ⟨a1, b1, c1⟩ := key k r hr
    rw [← c1]
    exact hD.2 k a1 b1
def zBd (L : List (Option Value)) (st : List Value) (σ : List va_E) : Prop := (∀ q ∈ L, zbo σ.length q) ∧ (∀ v ∈ st, zbV σ.length v) ∧ ∀ q ∈ σ, zbE σ.length q
/-- a place, for every map that agrees with ad0 on what was there -/
def zVc (ad0 : Nat → Nat) (n0 : Nat) (w : Heap → List Loc → JFrame → Prop) (m : MethodId) (H0 : Heap) (D : va_G) (cA : Nat → ClassId) (A : Nat → Prop) (nL : Nat) (ad : Nat → Nat) (pc : Nat) (L : List (Option Value)) (st : List Value) (σ : List va_E) : Prop :=
  zagr n0 ad0 ad → zV w m H0 D cA ad A nL pc L st σ
def zCx (p : Program) (s : State) (m : MethodId) (args : Array Value) (c : Code) (cc : ByteArray) (own : String) (D : va_G) (cA : Nat → ClassId) (A : Nat → Prop) (n : Nat) : Prop :=
  p.tables.exec = Jvm.exec ∧ c.code = cc ∧ c.maxLocals = n ∧ s.vm.findClass own = some m.cls ∧ (∀ w ∈ zwt, w.before args s = true) ∧ va_K D zcl (ztys cA) s ∧ (∀ q : Nat, s.heap.size ≤ q → A q)
section Make
variable {p : Program} {l : Launch} {e : Env} {R : Room} {s : State} {m : MethodId} {args : Array Value} {below : List Frame} {meth : Method} {c : Code} {cells slots : Nat} {Q : State → Prop}
variable {cc : ByteArray} {own : String} {D : va_G} {cA : Nat → ClassId} {ad0 ad : Nat → Nat} {A : Nat → Prop} {nL n0 : Nat} {pc : Nat} {L : List (Option Value)} {st : List Value} {σ : List va_E}
theorem vc_new {j ci N : Nat} {C : String} {TT : u_T} {fs : List Value} (cx : zCx p s m args c cc own D cA A nL) (hd : decode cc pc = .ok (.new j, 3)) (w1 : Cond.classLink own j C ∈ zwt) (w2 : Cond.instantiable C N ∈ zwt) (w3 : Cond.initialized C ∈ zwt) (hc : zcl[ci]? = some (C, TT, N)) (hfs : ∀ k, k < N → defaultValue (zty ci k) = vp_V fs k) (hfz : ∀ ad, fs.map (zv ad) = fs)
    (hcells : cells + 1 ≤ R.cells) (hslots : slots + N ≤ R.slots) (hb : zBd L st σ) (hn0 : n0 ≤ σ.length) (hN : σ.length < 1000)
    (k : ∀ ad', zVc ad0 n0 (fun H locs g => W p l e R s m args below meth c H locs (cells + 1) (slots + N) Q g) m s.heap D cA A nL ad' (pc + 3) L (.ref σ.length :: st) (σ ++ [.inr (ci, fs)])) :
    zVc ad0 n0 (fun H locs g => W p l e R s m args below meth c H locs cells slots Q g) m s.heap D cA A nL ad pc L st σ := by
  intro had ls H locs hl hP hD hS
  obtain ⟨hx, hbc, -, hown, hts, hK, hA⟩ := cx
  obtain ⟨c1, c2, c3, c4, c5⟩ := zcl_ok _ (zcl_lt hc) _ hc
  refine va_new hx hbc hts c1 (zty ci) c2 hown (hts _ w1) (hts _ w2) (hts _ w3) hK hP hD hS hA hc hfs hcells hslots hd (fun x H1 hP1 hD1 hS1 => ?_)
  have agr := zad_agr (ad := ad) (N := σ.length) (k := 1) (x := x) (by omega)
  have e1 : znw cA (zad ad σ.length 1 x) x [.inr (ci, fs)] = [(x, .inr (ci, fs))] := by
    show [(x + 0, ze cA (zad ad σ.length 1 x) (.inr (ci, fs)))] = _
    show [(x + 0, (Sum.inr (ci, fs.map (zv (zad ad σ.length 1 x))) : va_E))] = _
    rw [hfz]; rfl
  have k1 := k (zad ad σ.length 1 x) (fun i hi => by rw [agr i (by omega)]; exact had i hi) ls H1 locs (agr.H hb.1 hl) (zP_app (τ := [.inr (ci, fs)]) (by simp; omega) hb.2.2 (by rw [show ([.inr (ci, fs)] : List va_E).length = 1 from rfl, e1]; exact hP1)) (zD_app (τ := [.inr (ci, fs)]) (by simp; omega) (by rw [show ([.inr (ci, fs)] : List va_E).length = 1 from rfl, e1]; exact hD1)) hS1
  have e2 : (Value.ref σ.length :: st).map (zv (zad ad σ.length 1 x)) = .ref x :: st.map (zv ad) := by
    rw [List.map_cons, agr.st hb.2.1]
    show Value.ref (zad ad σ.length 1 x σ.length) :: _ = _
    have := zad_new (ad := ad) (N := σ.length) (k := 1) (x := x) (i := 0) (by decide)
    rw [Nat.add_zero, Nat.add_zero] at this
    rw [this]
  rw [e2] at k1
  exact k1
/-- the array classes are those of the store -/
theorem z_acls {k : Nat} (hk : k < 4) (hK : va_K D zcl (ztys cA) s) {cA' : ClassId} (h : s.vm.findClass ("[" ++ (zat k).toString) = some cA') : cA' = cA k := by
  have h1 := (hK.2 k _ (ztys_at cA hk)).2
  rcases (show k = 0 ∨ k = 1 ∨ k = 2 ∨ k = 3 by omega) with rfl | rfl | rfl | rfl
  · have h2 : s.vm.findClass ("[" ++ (FieldType.int).toString) = some (cA 0) := h1
    exact Option.some.inj (h.symm.trans h2)
  · have h2 : s.vm.findClass ("[" ++ (FieldType.long).toString) = some (cA 1) := h1
    exact Option.some.inj (h.symm.trans h2)
  · have h2 : s.vm.findClass ("[" ++ (FieldType.char).toString) = some (cA 2) := h1
    exact Option.some.inj (h.symm.trans h2)
  · have h2 : s.vm.findClass ("[" ++ (FieldType.array .long).toString) = some (cA 3) := h1
    exact Option.some.inj (h.symm.trans h2)
theorem vc_newa {at_ : ArrayType} {kd N : Nat} {dt : (Nat → Int32) ⊕ (Nat → Int64) ⊕ (Nat → UInt32) ⊕ (Nat → UInt64) ⊕ (Nat → Option Nat)} {x : Int32} (cx : zCx p s m args c cc own D cA A nL) (hd : decode cc pc = .ok (.newarray at_, 2)) (hkd : kd < 3) (hty : newarray.typeOf at_ = zat kd) (w1 : Cond.arrayClass (zat kd) ∈ zwt) (hx0 : ¬ x < 0) (hxN : x.toNatClampNeg = N) (hby : N * componentBytes (zat kd) ≤ 536870912)
    (hdt : ∀ cA, vp_cell cA (N, dt) = arrV cA N (fun _ => defaultValue (zat kd))) (hze : ∀ ad, ze cA ad (.inl (kd, N, dt)) = .inl (cA kd, N, dt))
    (hcells : cells + 1 ≤ R.cells) (hslots : slots + N ≤ R.slots) (hb : zBd L st σ) (hn0 : n0 ≤ σ.length) (hN : σ.length < 1000)
    (k : ∀ ad', zVc ad0 n0 (fun H locs g => W p l e R s m args below meth c H locs (cells + 1) (slots + N) Q g) m s.heap D cA A nL ad' (pc + 2) L (.ref σ.length :: st) (σ ++ [.inl (kd, N, dt)])) :
    zVc ad0 n0 (fun H locs g => W p l e R s m args below meth c H locs cells slots Q g) m s.heap D cA A nL ad pc L (.int x :: st) σ := by
  intro had ls H locs hl hP hD hS
  obtain ⟨hx, hbc, -, hown, hts, hK, hA⟩ := cx
  refine va_newaK hx hbc (by rw [hty]; exact hts _ w1) rfl hd rfl hx0 hxN (by rw [hty]; exact hby) hcells hslots (h := H.size) rfl fun H1 cA' e1 z1 o1 hAr hNm => ?_
  rw [hty] at e1 hNm
  have hcA := z_acls (by omega) hK hNm
  subst hcA
  have agr := zad_agr (ad := ad) (N := σ.length) (k := 1) (x := H.size) (by omega)
  have hkp : ∀ (k : Nat) (y : Nat × va_E), (zw cA ad σ)[k]? = some y → H1[y.1]? = H[y.1]? := fun k y hy => o1 y.1 ((hP k y hy).lt)
  have hP1 : va_P D zcl (zw cA ad σ ++ [(H.size, .inl (cA kd, N, dt))]) H1 := (hP.kept hkp).app (fun k y hy => by
    have hz : k < 1 := (List.getElem?_eq_some_iff.mp hy).1
    rw [show k = 0 by omega] at hy
    cases hy
    show H1[H.size]? = some (vp_cell _ _)
    rw [hdt]
    exact e1)
  have hD1 : va_D A (zw cA ad σ ++ [(H.size, .inl (cA kd, N, dt))]) := hD.push hP rfl (hA _ hS.1)
  have e3 : znw cA (zad ad σ.length 1 H.size) H.size [.inl (kd, N, dt)] = [(H.size, .inl (cA kd, N, dt))] := by
    show [(H.size + 0, ze cA (zad ad σ.length 1 H.size) (.inl (kd, N, dt)))] = _
    rw [hze]; rfl
  have k1 := k (zad ad σ.length 1 H.size) (fun i hi => by rw [agr i (by omega)]; exact had i hi) ls H1 locs (agr.H hb.1 hl) (zP_app (τ := [.inl (kd, N, dt)]) (by simp; omega) hb.2.2 (by rw [show ([.inl (kd, N, dt)] : List va_E).length = 1 from rfl, e3]; exact hP1)) (zD_app (τ := [.inl (kd, N, dt)]) (by simp; omega) (by rw [show ([.inl (kd, N, dt)] : List va_E).length = 1 from rfl, e3]; exact hD1)) ⟨Nat.le_trans hS.1 (by omega), fun y h1 h2 => (o1 y (Nat.lt_of_lt_of_le h1 hS.1)).trans (hS.2.1 y h1 h2), hS.2.2⟩
  have e2 : (Value.ref σ.length :: st).map (zv (zad ad σ.length 1 H.size)) = .ref H.size :: st.map (zv ad) := by
    rw [List.map_cons, agr.st hb.2.1]
    show Value.ref (zad ad σ.length 1 H.size σ.length) :: _ = _
    have := zad_new (ad := ad) (N := σ.length) (k := 1) (x := H.size) (i := 0) (by decide)
    rw [Nat.add_zero, Nat.add_zero] at this
    rw [this]
  rw [e2] at k1
  exact k1
theorem vc_put {j ci k a N : Nat} {TT : u_T} {fs : List Value} {v : Value} (cx : zCx p s m args c cc own D cA A nL) (hin : meth.name = "<init>") (hd : decode cc pc = .ok (.putfield j, 3)) (hc : zcl[ci]? = some (own, TT, N)) (hk : k < N) (hl9 : Cond.fieldLink own j own (TT k).2.1 (TT k).2.2.1 ∈ zwt) (hfin : (TT k).2.2.2 = true) (hfit : ∀ ad, narrow (zty ci k) (zv ad v) = zv ad v ∧ fits (zty ci k) (zv ad v) = true) (hlen : fs.length = N)
    (ha : σ[a]? = some (.inr (ci, fs)))
    (kk : zVc ad0 n0 (fun H locs g => W p l e R s m args below meth c H locs cells slots Q g) m s.heap D cA A nL ad (pc + 3) L st (σ.set a (.inr (ci, fs.set k v)))) :
    zVc ad0 n0 (fun H locs g => W p l e R s m args below meth c H locs cells slots Q g) m s.heap D cA A nL ad pc L (v :: .ref a :: st) σ := by
  intro had ls H locs hl hP hD hS
  obtain ⟨hx, hbc, -, hown, hts, hK, hA⟩ := cx
  obtain ⟨c1, c2, c3, c4, c5⟩ := zcl_ok _ (zcl_lt hc) _ hc
  have e4 : (TT k).1 = own := c4 _ hk
  have hset := zw_set cA ad σ a (.inr (ci, fs.set k v))
  have hmap : (fs.map (zv ad)).set k (zv ad v) = (fs.set k v).map (zv ad) := by rw [List.map_set]
  refine va_putF (D := D) (ci := ci) (v := zv ad v) (ty := zty ci k) (C := own) (T := TT) (N := N) hx hbc hts c1 (zty ci) c2 c3 hown hK hP hD hS a (zw_at ha) hc k hk (hts _ hl9) (fun x9 h9 => by rw [e4] at h9; exact h9) hfin hin e4 (c2 _ hk) (hfit ad).1 (hfit ad).2 (by simpa [hlen] using hk) hd (fun H1 locs1 hP1 hD1 hS1 => ?_)
  rw [hmap] at hP1 hD1
  exact kk had ls H1 locs1 hl (by rw [hset]; exact hP1) (by rw [hset]; exact hD1) hS1
end Make
