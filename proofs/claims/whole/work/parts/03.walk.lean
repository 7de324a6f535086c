-- the static arrays of the class Whole: SIGNED_END (1000), UNSIGNED_END (1001)
def zseF : Nat → Int64 := fun j => if j = 7 then 2147483648 else 0
def zueF : Nat → Int64 := fun j => if j = 8 then 1 else 0
def zlook (σ : List va_E) (a : Nat) : Option va_E := match σ[a]? with
  | some q => some q
  | none => if a = 1000 then some (.inl (1, 16, .inr (.inl zseF))) else if a = 1001 then some (.inl (1, 16, .inr (.inl zueF))) else none
-- shapes of the stack
def z1i (st : List Value) (f : Int32 → List Value → Prop) : Prop := match st with
  | .int x :: r => f x r
  | _ => False
def z2i (st : List Value) (f : Int32 → Int32 → List Value → Prop) : Prop := match st with
  | .int y :: .int x :: r => f x y r
  | _ => False
def z1l (st : List Value) (f : Int64 → List Value → Prop) : Prop := match st with
  | .long x :: r => f x r
  | _ => False
def z2l (st : List Value) (f : Int64 → Int64 → List Value → Prop) : Prop := match st with
  | .long y :: .long x :: r => f x y r
  | _ => False
def zil (st : List Value) (f : Int64 → Int32 → List Value → Prop) : Prop := match st with
  | .int y :: .long x :: r => f x y r
  | _ => False
def z1a (st : List Value) (f : Nat → List Value → Prop) : Prop := match st with
  | .ref a :: r => f a r
  | _ => False
def zia (st : List Value) (f : Nat → Int32 → List Value → Prop) : Prop := match st with
  | .int i :: .ref a :: r => f a i r
  | _ => False
def ziia (st : List Value) (f : Nat → Int32 → Int32 → List Value → Prop) : Prop := match st with
  | .int x :: .int i :: .ref a :: r => f a i x r
  | _ => False
def zlia (st : List Value) (f : Nat → Int32 → Int64 → List Value → Prop) : Prop := match st with
  | .long x :: .int i :: .ref a :: r => f a i x r
  | _ => False
def z1v (st : List Value) (f : Value → List Value → Prop) : Prop := match st with
  | v :: r => f v r
  | _ => False
def z2v (st : List Value) (f : Value → Value → List Value → Prop) : Prop := match st with
  | v :: w :: r => f v w r
  | _ => False
def zva (st : List Value) (f : Nat → Value → List Value → Prop) : Prop := match st with
  | v :: .ref a :: r => f a v r
  | _ => False
theorem z1i_e {st : List Value} {f : Int32 → List Value → Prop} (h : z1i st f) : ∃ x r, st = .int x :: r ∧ f x r := by
  unfold z1i at h; split at h
  · exact ⟨_, _, rfl, h⟩
  · exact h.elim
theorem z2i_e {st : List Value} {f : Int32 → Int32 → List Value → Prop} (h : z2i st f) : ∃ x y r, st = .int y :: .int x :: r ∧ f x y r := by
  unfold z2i at h; split at h
  · exact ⟨_, _, _, rfl, h⟩
  · exact h.elim
theorem z1l_e {st : List Value} {f : Int64 → List Value → Prop} (h : z1l st f) : ∃ x r, st = .long x :: r ∧ f x r := by
  unfold z1l at h; split at h
  · exact ⟨_, _, rfl, h⟩
  · exact h.elim
theorem z2l_e {st : List Value} {f : Int64 → Int64 → List Value → Prop} (h : z2l st f) : ∃ x y r, st = .long y :: .long x :: r ∧ f x y r := by
  unfold z2l at h; split at h
  · exact ⟨_, _, _, rfl, h⟩
  · exact h.elim
theorem zil_e {st : List Value} {f : Int64 → Int32 → List Value → Prop} (h : zil st f) : ∃ x y r, st = .int y :: .long x :: r ∧ f x y r := by
  unfold zil at h; split at h
  · exact ⟨_, _, _, rfl, h⟩
  · exact h.elim
theorem z1a_e {st : List Value} {f : Nat → List Value → Prop} (h : z1a st f) : ∃ a r, st = .ref a :: r ∧ f a r := by
  unfold z1a at h; split at h
  · exact ⟨_, _, rfl, h⟩
  · exact h.elim
theorem zia_e {st : List Value} {f : Nat → Int32 → List Value → Prop} (h : zia st f) : ∃ a i r, st = .int i :: .ref a :: r ∧ f a i r := by
  unfold zia at h; split at h
  · exact ⟨_, _, _, rfl, h⟩
  · exact h.elim
theorem ziia_e {st : List Value} {f : Nat → Int32 → Int32 → List Value → Prop} (h : ziia st f) : ∃ a i x r, st = .int x :: .int i :: .ref a :: r ∧ f a i x r := by
  unfold ziia at h; split at h
  · exact ⟨_, _, _, _, rfl, h⟩
  · exact h.elim
theorem zlia_e {st : List Value} {f : Nat → Int32 → Int64 → List Value → Prop} (h : zlia st f) : ∃ a i x r, st = .long x :: .int i :: .ref a :: r ∧ f a i x r := by
  unfold zlia at h; split at h
  · exact ⟨_, _, _, _, rfl, h⟩
  · exact h.elim
theorem z1v_e {st : List Value} {f : Value → List Value → Prop} (h : z1v st f) : ∃ v r, st = v :: r ∧ f v r := by
  unfold z1v at h; split at h
  · exact ⟨_, _, rfl, h⟩
  · exact h.elim
theorem z2v_e {st : List Value} {f : Value → Value → List Value → Prop} (h : z2v st f) : ∃ v w r, st = v :: w :: r ∧ f v w r := by
  unfold z2v at h; split at h
  · exact ⟨_, _, _, rfl, h⟩
  · exact h.elim
theorem zva_e {st : List Value} {f : Nat → Value → List Value → Prop} (h : zva st f) : ∃ a v r, st = v :: .ref a :: r ∧ f a v r := by
  unfold zva at h; split at h
  · exact ⟨_, _, _, rfl, h⟩
  · exact h.elim
-- locals
def zldi (L : List (Option Value)) (i : Nat) (f : Int32 → Prop) : Prop := match L[i]? with
  | some (some (.int x)) => f x
  | _ => False
def zldl (L : List (Option Value)) (i : Nat) (f : Int64 → Prop) : Prop := match L[i]? with
  | some (some (.long x)) => f x
  | _ => False
def zlda (L : List (Option Value)) (i : Nat) (f : Nat → Prop) : Prop := match L[i]? with
  | some (some (.ref x)) => f x
  | _ => False
theorem zldi_e {L : List (Option Value)} {i : Nat} {f : Int32 → Prop} (h : zldi L i f) : ∃ x, L[i]? = some (some (.int x)) ∧ f x := by
  unfold zldi at h; split at h
  · rename_i x hx; exact ⟨x, hx, h⟩
  · exact h.elim
theorem zldl_e {L : List (Option Value)} {i : Nat} {f : Int64 → Prop} (h : zldl L i f) : ∃ x, L[i]? = some (some (.long x)) ∧ f x := by
  unfold zldl at h; split at h
  · rename_i x hx; exact ⟨x, hx, h⟩
  · exact h.elim
theorem zlda_e {L : List (Option Value)} {i : Nat} {f : Nat → Prop} (h : zlda L i f) : ∃ x, L[i]? = some (some (.ref x)) ∧ f x := by
  unfold zlda at h; split at h
  · rename_i x hx; exact ⟨x, hx, h⟩
  · exact h.elim
-- cells
def zci' (q : Option va_E) (f : Nat → (Nat → Int32) → Prop) : Prop := match q with
  | some (.inl (0, n, .inl g)) => f n g
  | _ => False
def zcl' (q : Option va_E) (f : Nat → (Nat → Int64) → Prop) : Prop := match q with
  | some (.inl (1, n, .inr (.inl g))) => f n g
  | _ => False
def zcc' (q : Option va_E) (f : Nat → (Nat → Int32) → Prop) : Prop := match q with
  | some (.inl (2, n, .inl g)) => f n g
  | _ => False
def zcr' (q : Option va_E) (f : Nat → (Nat → Option Nat) → Prop) : Prop := match q with
  | some (.inl (3, n, .inr (.inr (.inr (.inr g))))) => f n g
  | _ => False
def zlen' (q : Option va_E) (f : Nat → Prop) : Prop := match q with
  | some (.inl (0, n, .inl _)) => f n
  | some (.inl (1, n, .inr (.inl _))) => f n
  | some (.inl (2, n, .inl _)) => f n
  | _ => False
def zco' (q : Option va_E) (ci : Nat) (f : List Value → Prop) : Prop := match q with
  | some (.inr (cj, fs)) => cj = ci ∧ f fs
  | _ => False
def zo {α : Type} (q : Option α) (f : α → Prop) : Prop := match q with
  | some v => f v
  | none => False
theorem zo_e {α : Type} {q : Option α} {f : α → Prop} (h : zo q f) : ∃ v, q = some v ∧ f v := by
  unfold zo at h; split at h
  · exact ⟨_, rfl, h⟩
  · exact h.elim
theorem zci_e {q : Option va_E} {f : Nat → (Nat → Int32) → Prop} (h : zci' q f) : ∃ n g, q = some (.inl (0, n, .inl g)) ∧ f n g := by
  unfold zci' at h; split at h
  · exact ⟨_, _, rfl, h⟩
  · exact h.elim
theorem zcl_e {q : Option va_E} {f : Nat → (Nat → Int64) → Prop} (h : zcl' q f) : ∃ n g, q = some (.inl (1, n, .inr (.inl g))) ∧ f n g := by
  unfold zcl' at h; split at h
  · exact ⟨_, _, rfl, h⟩
  · exact h.elim
theorem zcc_e {q : Option va_E} {f : Nat → (Nat → Int32) → Prop} (h : zcc' q f) : ∃ n g, q = some (.inl (2, n, .inl g)) ∧ f n g := by
  unfold zcc' at h; split at h
  · exact ⟨_, _, rfl, h⟩
  · exact h.elim
theorem zcr_e {q : Option va_E} {f : Nat → (Nat → Option Nat) → Prop} (h : zcr' q f) : ∃ n g, q = some (.inl (3, n, .inr (.inr (.inr (.inr g))))) ∧ f n g := by
  unfold zcr' at h; split at h
  · exact ⟨_, _, rfl, h⟩
  · exact h.elim
theorem zlen_e {q : Option va_E} {f : Nat → Prop} (h : zlen' q f) : ∃ n, f n ∧ ((∃ g, q = some (.inl (0, n, .inl g))) ∨ (∃ g, q = some (.inl (1, n, .inr (.inl g)))) ∨ ∃ g, q = some (.inl (2, n, .inl g))) := by
  unfold zlen' at h; split at h
  · exact ⟨_, h, Or.inl ⟨_, rfl⟩⟩
  · exact ⟨_, h, Or.inr (Or.inl ⟨_, rfl⟩)⟩
  · exact ⟨_, h, Or.inr (Or.inr ⟨_, rfl⟩)⟩
  · exact h.elim
theorem zco_e {q : Option va_E} {ci : Nat} {f : List Value → Prop} (h : zco' q ci f) : ∃ fs, q = some (.inr (ci, fs)) ∧ f fs := by
  unfold zco' at h; split at h
  · obtain ⟨rfl, h⟩ := h
    exact ⟨_, rfl, h⟩
  · exact h.elim
/-- constants of the code: not below 0 as nI -/
def zkc (n : Int) : Int32 := match n with
  | .ofNat k => nI k
  | .negSucc k => -(nI (k + 1))
/-- where a jump goes -/
def ztg (pc : Nat) (off : Int) : Nat := match off with
  | .ofNat k => pc + k
  | .negSucc k => pc - (k + 1)
def zln (pc : Nat) (i : Instr) : Nat := match i with
  | .aload _ => 2
  | .astore _ => 2
  | .bipush _ => 2
  | .getfield _ => 3
  | .getstatic _ => 3
  | .goto _ => 3
  | .if_icmp _ _ => 3
  | .ifCond _ _ => 3
  | .iinc _ _ => 3
  | .iload _ => 2
  | .invokespecial _ => 3
  | .invokestatic _ => 3
  | .invokevirtual _ => 3
  | .istore _ => 2
  | .ldc _ => 2
  | .ldc_w _ => 3
  | .ldc2_w _ => 3
  | .lload _ => 2
  | .lookupswitch _ ps => 1 + (3 - pc % 4) + 8 + 8 * ps.size
  | .lstore _ => 2
  | .multianewarray _ _ => 4
  | .new _ => 3
  | .newarray _ => 2
  | .putfield _ => 3
  | .sipush _ => 3
  | .tableswitch _ _ _ offs => 1 + (3 - pc % 4) + 12 + 4 * offs.size
  | _ => 1
/-- which ints a field or a result of a small type holds as they are -/
def zfit (ty : FieldType) (v : Value) : Prop := match ty with
  | .int => ∃ x, v = .int x
  | .boolean => v = .int (nI 0) ∨ v = .int (nI 1)
  | _ => False
def zret (ty : Option FieldType) (x : Int32) : Prop := match ty with
  | some .int => True
  | some .boolean => x = nI 0 ∨ x = nI 1
  | some .char => ∃ n, n < 65536 ∧ x = nI n
  | _ => False
def zcd (c : ClassFile.Cond) (x y : Int32) : Prop := match c with
  | .eq => x = y
  | .ne => ¬ x = y
  | .lt => x < y
  | .ge => y ≤ x
  | .gt => y < x
  | .le => x ≤ y
/-- one instruction: f fields by their entries, kk constants, c calls, ret the method's type, g static fields; J at another place of the code, RT at a return, k behind the instruction -/
def zi (f : Nat → Option (Nat × Nat)) (kk : Nat → Option Value) (c : Nat → List Value → List va_E → (List Value → List va_E → Prop) → Prop) (ret : Option FieldType) (g : Nat → Option Nat)
    (J : Nat → List (Option Value) → List Value → List va_E → Prop) (RT : Option Value → List va_E → Prop) (k : List (Option Value) → List Value → List va_E → Prop)
    (pc : Nat) (L : List (Option Value)) (st : List Value) (σ : List va_E) (i : Instr) : Prop := match i with
  | .aload_n j => zlda L j.val fun a => k L (.ref a :: st) σ
  | .aload j => zlda L j fun a => k L (.ref a :: st) σ
  | .iload_n j => zldi L j.val fun x => k L (.int x :: st) σ
  | .iload j => zldi L j fun x => k L (.int x :: st) σ
  | .lload_n j => zldl L j.val fun x => k L (.long x :: st) σ
  | .lload j => zldl L j fun x => k L (.long x :: st) σ
  | .istore_n j => z1i st fun x r => k (zs1 L j.val (.int x)) r σ
  | .istore j => z1i st fun x r => k (zs1 L j (.int x)) r σ
  | .lstore_n j => z1l st fun x r => k (zs2 L j.val (.long x)) r σ
  | .lstore j => z1l st fun x r => k (zs2 L j (.long x)) r σ
  | .astore_n j => z1a st fun x r => k (zs1 L j.val (.ref x)) r σ
  | .astore j => z1a st fun x r => k (zs1 L j (.ref x)) r σ
  | .iinc j n => zldi L j fun x => k (zs1 L j (.int (x + zkc n))) st σ
  | .iconst n => k L (.int (zkc n) :: st) σ
  | .bipush n => k L (.int (zkc n) :: st) σ
  | .sipush n => k L (.int (zkc n) :: st) σ
  | .lconst n => k L (.long (lN n.val) :: st) σ
  | .ldc_w j => match kk j with
    | some (.int x) => k L (.int x :: st) σ
    | _ => False
  | .ldc2_w j => match kk j with
    | some (.long x) => k L (.long x :: st) σ
    | _ => False
  | .iadd => z2i st fun x y r => k L (.int (x + y) :: r) σ
  | .isub => z2i st fun x y r => k L (.int (x - y) :: r) σ
  | .imul => z2i st fun x y r => k L (.int (x * y) :: r) σ
  | .iand => z2i st fun x y r => k L (.int (x &&& y) :: r) σ
  | .ior => z2i st fun x y r => k L (.int (x ||| y) :: r) σ
  | .ixor => z2i st fun x y r => k L (.int (x ^^^ y) :: r) σ
  | .ishl => z2i st fun x y r => k L (.int (x <<< (y &&& 31)) :: r) σ
  | .ishr => z2i st fun x y r => k L (.int (x >>> (y &&& 31)) :: r) σ
  | .iushr => z2i st fun x y r => k L (.int (x.toUInt32 >>> (y.toUInt32 &&& Int32.toUInt32 31)).toInt32 :: r) σ
  | .idiv => z2i st fun x y r => ¬ y = nI 0 ∧ k L (.int (x / y) :: r) σ
  | .irem => z2i st fun x y r => ¬ y = nI 0 ∧ k L (.int (x - x / y * y) :: r) σ
  | .ineg => z1i st fun x r => k L (.int (-x) :: r) σ
  | .ladd => z2l st fun x y r => k L (.long (x + y) :: r) σ
  | .lsub => z2l st fun x y r => k L (.long (x - y) :: r) σ
  | .lmul => z2l st fun x y r => k L (.long (x * y) :: r) σ
  | .land => z2l st fun x y r => k L (.long (x &&& y) :: r) σ
  | .lor => z2l st fun x y r => k L (.long (x ||| y) :: r) σ
  | .lxor => z2l st fun x y r => k L (.long (x ^^^ y) :: r) σ
  | .ldiv => z2l st fun x y r => ¬ y = lN 0 ∧ k L (.long (x / y) :: r) σ
  | .lrem => z2l st fun x y r => ¬ y = lN 0 ∧ k L (.long (x - x / y * y) :: r) σ
  | .lcmp => z2l st fun x y r => k L (.int (lg_cmp x y) :: r) σ
  | .lshl => zil st fun x y r => k L (.long (x <<< (y.toInt64 &&& 63)) :: r) σ
  | .lshr => zil st fun x y r => k L (.long (x >>> (y.toInt64 &&& 63)) :: r) σ
  | .lushr => zil st fun x y r => k L (.long (x.toUInt64 >>> (y.toInt64.toUInt64 &&& Int64.toUInt64 63)).toInt64 :: r) σ
  | .i2l => z1i st fun x r => k L (.long x.toInt64 :: r) σ
  | .l2i => z1l st fun x r => k L (.int x.toInt32 :: r) σ
  | .i2c => z1i st fun x r => k L (.int (x.toUInt32 % 65536).toInt32 :: r) σ
  | .dup => z1v st fun v r => v.category = 1 ∧ k L (v :: v :: r) σ
  | .pop => z1v st fun v r => v.category = 1 ∧ k L r σ
  | .dup2 => z2v st fun v w r => (v.category = 1 ∧ w.category = 1) ∧ k L (v :: w :: v :: w :: r) σ
  | .pop2 => z1v st fun v r => v.category = 2 ∧ k L r σ
  | .nop => J pc L st σ
  | .goto off => J (ztg pc off) L st σ
  | .ifCond cd off => z1i st fun x r => (zcd cd x (nI 0) → J (ztg pc off) L r σ) ∧ (¬ zcd cd x (nI 0) → k L r σ)
  | .if_icmp cd off => z2i st fun x y r => (zcd cd x y → J (ztg pc off) L r σ) ∧ (¬ zcd cd x y → k L r σ)
  | .tableswitch d lo hi offs => z1i st fun x r => (x.toInt < lo ∨ hi < x.toInt → J (ztg pc d) L r σ) ∧ ∀ off, ¬ x.toInt < lo → ¬ hi < x.toInt → offs[(x.toInt - lo).toNat]? = some off → J (ztg pc off) L r σ
  | .lookupswitch d ps => z1i st fun x r => J (ztg pc (Op.lookupswitch.offset ps.toList d x.toInt)) L r σ
  | .getfield j => z1a st fun a r => zo (f j) fun q => zco' σ[a]? q.1 fun fs => zo fs[q.2]? fun v => k L (v :: r) σ
  | .putfield j => zva st fun a v r => zo (f j) fun q => zco' σ[a]? q.1 fun fs => q.2 < fs.length ∧ zfit (zty q.1 q.2) v ∧ k L r (σ.set a (.inr (q.1, fs.set q.2 v)))
  | .getstatic j => zo (g j) fun a => k L (.ref a :: st) σ
  | .arraylength => z1a st fun a r => zlen' (zlook σ a) fun n => k L (.int (nI n) :: r) σ
  | .iaload => zia st fun a x r => zci' σ[a]? fun n h => vp_in x n ∧ k L (.int (h x.toNatClampNeg) :: r) σ
  | .caload => zia st fun a x r => zcc' σ[a]? fun n h => vp_in x n ∧ k L (.int (h x.toNatClampNeg) :: r) σ
  | .laload => zia st fun a x r => zcl' (zlook σ a) fun n h => vp_in x n ∧ k L (.long (h x.toNatClampNeg) :: r) σ
  | .aaload => zia st fun a x r => zcr' σ[a]? fun n h => vp_in x n ∧ zo (h x.toNatClampNeg) fun b => k L (.ref b :: r) σ
  | .iastore => ziia st fun a x v r => zci' σ[a]? fun n h => vp_in x n ∧ k L r (σ.set a (.inl (0, n, .inl (upd h x.toNatClampNeg v))))
  | .castore => ziia st fun a x v r => zcc' σ[a]? fun n h => vp_in x n ∧ k L r (σ.set a (.inl (2, n, .inl (upd h x.toNatClampNeg (vp_nar .char v)))))
  | .lastore => zlia st fun a x v r => zcl' σ[a]? fun n h => vp_in x n ∧ k L r (σ.set a (.inl (1, n, .inr (.inl (vp_updL h x.toNatClampNeg v)))))
  | .invokestatic j => c (3 * j) st σ fun st' σ' => k L st' σ'
  | .invokevirtual j => c (3 * j + 1) st σ fun st' σ' => k L st' σ'
  | .invokespecial j => c (3 * j + 2) st σ fun st' σ' => k L st' σ'
  | .ireturn => match st with
    | [.int x] => zret ret x ∧ RT (some (.int x)) σ
    | _ => False
  | .lreturn => match st with
    | [.long x] => ret = some .long ∧ RT (some (.long x)) σ
    | _ => False
  | .areturn => match st with
    | [.ref a] => ret = some (.array .long) ∧ RT (some (.ref a)) σ
    | _ => False
  | .return_ => match st with
    | [] => ret = none ∧ RT none σ
    | _ => False
  | _ => False
/-- the code from a place on -/
def zx (f : Nat → Option (Nat × Nat)) (kk : Nat → Option Value) (c : Nat → List Value → List va_E → (List Value → List va_E → Prop) → Prop) (ret : Option FieldType) (g : Nat → Option Nat)
    (J : Nat → List (Option Value) → List Value → List va_E → Prop) (RT : Option Value → List va_E → Prop) : List Instr → Nat → List (Option Value) → List Value → List va_E → Prop
  | [], _, _, _, _ => False
  | i :: r, pc, L, st, σ => zi f kk c ret g J RT (fun L' st' σ' => zx f kk c ret g J RT r (pc + zln pc i) L' st' σ') pc L st σ i
/-- what is checked of the code once (a 'nop' ends a stretch: the walk goes on at that place): it decodes so, jumps go to places, locals are in range -/
def zjo (pc : Nat) (off : Int) : Bool := decide (0 ≤ (pc : Int) + off)
def zcf (nL pc : Nat) (i : Instr) : Bool := match i with
  | .istore_n j => decide (j.val < nL)
  | .istore j => decide (j < nL)
  | .iinc j n => decide (j < nL) && decide (Int32.ofInt n = zkc n)
  | .astore_n j => decide (j.val < nL)
  | .astore j => decide (j < nL)
  | .lstore_n j => decide (j.val + 1 < nL)
  | .lstore j => decide (j + 1 < nL)
  | .iconst n => decide (Int32.ofInt n = zkc n)
  | .bipush n => decide ((Int8.ofInt n).toInt32 = zkc n)
  | .sipush n => decide ((Int16.ofInt n).toInt32 = zkc n)
  | .goto off => zjo pc off
  | .ifCond _ off => zjo pc off
  | .if_icmp _ off => zjo pc off
  | .tableswitch d lo hi offs => zjo pc d && offs.all (fun o => zjo pc o) && decide (hi - lo + 1 = offs.size)
  | .lookupswitch d ps => zjo pc d && ps.all (fun o => zjo pc o.2) && (ps.toList.zip (ps.toList.drop 1)).all (fun (a, next) => a.1 < next.1)
  | _ => true
def zok (cc : ByteArray) (nL : Nat) : Nat → List Instr → Bool
  | _, [] => true
  | pc, i :: r => decide (i = .nop) || ((match decode cc pc with
    | .ok (j, n) => decide (j = i) && decide (n = zln pc i)
    | .error _ => false) && zcf nL pc i && zok cc nL (pc + zln pc i) r)
theorem ztg_ok {pc : Nat} {off : Int} (h : zjo pc off = true) : (pc : Int) + off = (ztg pc off : Int) := by
  have h := of_decide_eq_true h
  cases off with
  | ofNat k => simp [ztg]
  | negSucc k =>
    have e : (Int.negSucc k : Int) = -((k : Int) + 1) := Int.negSucc_eq k
    show (pc : Int) + Int.negSucc k = ((pc - (k + 1) : Nat) : Int)
    rw [e] at h ⊢
    omega
theorem zok_at {cc : ByteArray} {nL pc : Nat} {i : Instr} {r : List Instr} (hi : ¬ i = .nop) (h : zok cc nL pc (i :: r) = true) : decode cc pc = .ok (i, zln pc i) ∧ zcf nL pc i = true ∧ zok cc nL (pc + zln pc i) r = true := by
  unfold zok at h
  rw [decide_eq_false hi, Bool.false_or, Bool.and_eq_true, Bool.and_eq_true] at h
  obtain ⟨⟨h1, h2⟩, h3⟩ := h
  refine ⟨?_, h2, h3⟩
  split at h1
  · rename_i j n hd
    rw [Bool.and_eq_true] at h1
    rw [hd, of_decide_eq_true h1.1, of_decide_eq_true h1.2]
  · cases h1
