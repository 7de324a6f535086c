def zkl (q : Option Value) (F : Int64 → Prop) : Prop := match q with
  | some (.long x) => F x
  | _ => False
def zki (q : Option Value) (F : Int32 → Prop) : Prop := match q with
  | some (.int x) => F x
  | _ => False
section Steps
variable {f : Nat → Option (Nat × Nat)} {kk : Nat → Option Value} {c : Nat → List Value → List va_E → (List Value → List va_E → Prop) → Prop} {ret : Option FieldType} {g : Nat → Option Nat} {J : Nat → List (Option Value) → List Value → List va_E → Prop} {RT : Option Value → List va_E → Prop} {r : List Instr} {pc : Nat} {L : List (Option Value)} {σ : List va_E}
theorem zs_aload_n {j : Fin 4} {st : List Value} : zx f kk c ret g J RT (.aload_n j :: r) pc L (st) σ = (zlda L j.val fun a => zx f kk c ret g J RT r (pc + 1) L (.ref a :: st) σ) := rfl
theorem zs_aload {j : Nat} {st : List Value} : zx f kk c ret g J RT (.aload j :: r) pc L (st) σ = (zlda L j fun a => zx f kk c ret g J RT r (pc + 2) L (.ref a :: st) σ) := rfl
theorem zs_iload_n {j : Fin 4} {st : List Value} : zx f kk c ret g J RT (.iload_n j :: r) pc L (st) σ = (zldi L j.val fun x => zx f kk c ret g J RT r (pc + 1) L (.int x :: st) σ) := rfl
theorem zs_iload {j : Nat} {st : List Value} : zx f kk c ret g J RT (.iload j :: r) pc L (st) σ = (zldi L j fun x => zx f kk c ret g J RT r (pc + 2) L (.int x :: st) σ) := rfl
theorem zs_lload_n {j : Fin 4} {st : List Value} : zx f kk c ret g J RT (.lload_n j :: r) pc L (st) σ = (zldl L j.val fun x => zx f kk c ret g J RT r (pc + 1) L (.long x :: st) σ) := rfl
theorem zs_lload {j : Nat} {st : List Value} : zx f kk c ret g J RT (.lload j :: r) pc L (st) σ = (zldl L j fun x => zx f kk c ret g J RT r (pc + 2) L (.long x :: st) σ) := rfl
theorem zs_istore_n {j : Fin 4} {x : Int32} {st : List Value} : zx f kk c ret g J RT (.istore_n j :: r) pc L (.int x :: st) σ = (zx f kk c ret g J RT r (pc + 1) (zs1 L j.val (.int x)) (st) σ) := rfl
theorem zs_istore {j : Nat} {x : Int32} {st : List Value} : zx f kk c ret g J RT (.istore j :: r) pc L (.int x :: st) σ = (zx f kk c ret g J RT r (pc + 2) (zs1 L j (.int x)) (st) σ) := rfl
theorem zs_lstore_n {j : Fin 4} {x : Int64} {st : List Value} : zx f kk c ret g J RT (.lstore_n j :: r) pc L (.long x :: st) σ = (zx f kk c ret g J RT r (pc + 1) (zs2 L j.val (.long x)) (st) σ) := rfl
theorem zs_lstore {j : Nat} {x : Int64} {st : List Value} : zx f kk c ret g J RT (.lstore j :: r) pc L (.long x :: st) σ = (zx f kk c ret g J RT r (pc + 2) (zs2 L j (.long x)) (st) σ) := rfl
theorem zs_astore_n {j : Fin 4} {x : Nat} {st : List Value} : zx f kk c ret g J RT (.astore_n j :: r) pc L (.ref x :: st) σ = (zx f kk c ret g J RT r (pc + 1) (zs1 L j.val (.ref x)) (st) σ) := rfl
theorem zs_astore {j : Nat} {x : Nat} {st : List Value} : zx f kk c ret g J RT (.astore j :: r) pc L (.ref x :: st) σ = (zx f kk c ret g J RT r (pc + 2) (zs1 L j (.ref x)) (st) σ) := rfl
theorem zs_iinc {j : Nat} {n : Int} {st : List Value} : zx f kk c ret g J RT (.iinc j n :: r) pc L (st) σ = (zldi L j fun x => zx f kk c ret g J RT r (pc + 3) (zs1 L j (.int (x + zkc n))) (st) σ) := rfl
theorem zs_iconst {n : Int} {st : List Value} : zx f kk c ret g J RT (.iconst n :: r) pc L (st) σ = (zx f kk c ret g J RT r (pc + 1) L (.int (zkc n) :: st) σ) := rfl
theorem zs_bipush {n : Int} {st : List Value} : zx f kk c ret g J RT (.bipush n :: r) pc L (st) σ = (zx f kk c ret g J RT r (pc + 2) L (.int (zkc n) :: st) σ) := rfl
theorem zs_sipush {n : Int} {st : List Value} : zx f kk c ret g J RT (.sipush n :: r) pc L (st) σ = (zx f kk c ret g J RT r (pc + 3) L (.int (zkc n) :: st) σ) := rfl
theorem zs_lconst0  {st : List Value} : zx f kk c ret g J RT (.lconst 0 :: r) pc L (st) σ = (zx f kk c ret g J RT r (pc + 1) L (.long (lN 0) :: st) σ) := rfl
theorem zs_lconst1  {st : List Value} : zx f kk c ret g J RT (.lconst 1 :: r) pc L (st) σ = (zx f kk c ret g J RT r (pc + 1) L (.long (lN 1) :: st) σ) := rfl
theorem zs_ldc2_w {j : Nat} {st : List Value} : zx f kk c ret g J RT (.ldc2_w j :: r) pc L (st) σ = (zkl (kk j) fun x => zx f kk c ret g J RT r (pc + 3) L (.long x :: st) σ) := by
  show (match kk j with | some (.long x) => _ | _ => False) = _
  cases kk j with
  | none => rfl
  | some v => cases v <;> rfl
theorem zs_ldc_w {j : Nat} {st : List Value} : zx f kk c ret g J RT (.ldc_w j :: r) pc L (st) σ = (zki (kk j) fun x => zx f kk c ret g J RT r (pc + 3) L (.int x :: st) σ) := by
  show (match kk j with | some (.int x) => _ | _ => False) = _
  cases kk j with
  | none => rfl
  | some v => cases v <;> rfl
theorem zs_iadd {x y : Int32} {st : List Value} : zx f kk c ret g J RT (.iadd :: r) pc L (.int y :: .int x :: st) σ = (zx f kk c ret g J RT r (pc + 1) L (.int (x + y) :: st) σ) := rfl
theorem zs_isub {x y : Int32} {st : List Value} : zx f kk c ret g J RT (.isub :: r) pc L (.int y :: .int x :: st) σ = (zx f kk c ret g J RT r (pc + 1) L (.int (x - y) :: st) σ) := rfl
theorem zs_imul {x y : Int32} {st : List Value} : zx f kk c ret g J RT (.imul :: r) pc L (.int y :: .int x :: st) σ = (zx f kk c ret g J RT r (pc + 1) L (.int (x * y) :: st) σ) := rfl
theorem zs_iand {x y : Int32} {st : List Value} : zx f kk c ret g J RT (.iand :: r) pc L (.int y :: .int x :: st) σ = (zx f kk c ret g J RT r (pc + 1) L (.int (x &&& y) :: st) σ) := rfl
theorem zs_ior {x y : Int32} {st : List Value} : zx f kk c ret g J RT (.ior :: r) pc L (.int y :: .int x :: st) σ = (zx f kk c ret g J RT r (pc + 1) L (.int (x ||| y) :: st) σ) := rfl
theorem zs_ixor {x y : Int32} {st : List Value} : zx f kk c ret g J RT (.ixor :: r) pc L (.int y :: .int x :: st) σ = (zx f kk c ret g J RT r (pc + 1) L (.int (x ^^^ y) :: st) σ) := rfl
theorem zs_ishl {x y : Int32} {st : List Value} : zx f kk c ret g J RT (.ishl :: r) pc L (.int y :: .int x :: st) σ = (zx f kk c ret g J RT r (pc + 1) L (.int (x <<< (y &&& 31)) :: st) σ) := rfl
theorem zs_ishr {x y : Int32} {st : List Value} : zx f kk c ret g J RT (.ishr :: r) pc L (.int y :: .int x :: st) σ = (zx f kk c ret g J RT r (pc + 1) L (.int (x >>> (y &&& 31)) :: st) σ) := rfl
theorem zs_iushr {x y : Int32} {st : List Value} : zx f kk c ret g J RT (.iushr :: r) pc L (.int y :: .int x :: st) σ = (zx f kk c ret g J RT r (pc + 1) L (.int ((x.toUInt32 >>> (y.toUInt32 &&& Int32.toUInt32 31)).toInt32) :: st) σ) := rfl
theorem zs_idiv {x y : Int32} {st : List Value} : zx f kk c ret g J RT (.idiv :: r) pc L (.int y :: .int x :: st) σ = (¬ y = nI 0 ∧ zx f kk c ret g J RT r (pc + 1) L (.int (x / y) :: st) σ) := rfl
theorem zs_irem {x y : Int32} {st : List Value} : zx f kk c ret g J RT (.irem :: r) pc L (.int y :: .int x :: st) σ = (¬ y = nI 0 ∧ zx f kk c ret g J RT r (pc + 1) L (.int (x - x / y * y) :: st) σ) := rfl
theorem zs_ineg {x : Int32} {st : List Value} : zx f kk c ret g J RT (.ineg :: r) pc L (.int x :: st) σ = (zx f kk c ret g J RT r (pc + 1) L (.int (-x) :: st) σ) := rfl
theorem zs_ladd {x y : Int64} {st : List Value} : zx f kk c ret g J RT (.ladd :: r) pc L (.long y :: .long x :: st) σ = (zx f kk c ret g J RT r (pc + 1) L (.long (x + y) :: st) σ) := rfl
theorem zs_lsub {x y : Int64} {st : List Value} : zx f kk c ret g J RT (.lsub :: r) pc L (.long y :: .long x :: st) σ = (zx f kk c ret g J RT r (pc + 1) L (.long (x - y) :: st) σ) := rfl
theorem zs_lmul {x y : Int64} {st : List Value} : zx f kk c ret g J RT (.lmul :: r) pc L (.long y :: .long x :: st) σ = (zx f kk c ret g J RT r (pc + 1) L (.long (x * y) :: st) σ) := rfl
theorem zs_land {x y : Int64} {st : List Value} : zx f kk c ret g J RT (.land :: r) pc L (.long y :: .long x :: st) σ = (zx f kk c ret g J RT r (pc + 1) L (.long (x &&& y) :: st) σ) := rfl
theorem zs_lor {x y : Int64} {st : List Value} : zx f kk c ret g J RT (.lor :: r) pc L (.long y :: .long x :: st) σ = (zx f kk c ret g J RT r (pc + 1) L (.long (x ||| y) :: st) σ) := rfl
theorem zs_lxor {x y : Int64} {st : List Value} : zx f kk c ret g J RT (.lxor :: r) pc L (.long y :: .long x :: st) σ = (zx f kk c ret g J RT r (pc + 1) L (.long (x ^^^ y) :: st) σ) := rfl
theorem zs_ldiv {x y : Int64} {st : List Value} : zx f kk c ret g J RT (.ldiv :: r) pc L (.long y :: .long x :: st) σ = (¬ y = lN 0 ∧ zx f kk c ret g J RT r (pc + 1) L (.long (x / y) :: st) σ) := rfl
theorem zs_lrem {x y : Int64} {st : List Value} : zx f kk c ret g J RT (.lrem :: r) pc L (.long y :: .long x :: st) σ = (¬ y = lN 0 ∧ zx f kk c ret g J RT r (pc + 1) L (.long (x - x / y * y) :: st) σ) := rfl
theorem zs_lcmp {x y : Int64} {st : List Value} : zx f kk c ret g J RT (.lcmp :: r) pc L (.long y :: .long x :: st) σ = (zx f kk c ret g J RT r (pc + 1) L (.int (lg_cmp x y) :: st) σ) := rfl
theorem zs_lshl {x : Int64} {y : Int32} {st : List Value} : zx f kk c ret g J RT (.lshl :: r) pc L (.int y :: .long x :: st) σ = (zx f kk c ret g J RT r (pc + 1) L (.long (x <<< (y.toInt64 &&& 63)) :: st) σ) := rfl
theorem zs_lshr {x : Int64} {y : Int32} {st : List Value} : zx f kk c ret g J RT (.lshr :: r) pc L (.int y :: .long x :: st) σ = (zx f kk c ret g J RT r (pc + 1) L (.long (x >>> (y.toInt64 &&& 63)) :: st) σ) := rfl
theorem zs_lushr {x : Int64} {y : Int32} {st : List Value} : zx f kk c ret g J RT (.lushr :: r) pc L (.int y :: .long x :: st) σ = (zx f kk c ret g J RT r (pc + 1) L (.long ((x.toUInt64 >>> (y.toInt64.toUInt64 &&& Int64.toUInt64 63)).toInt64) :: st) σ) := rfl
theorem zs_i2l {x : Int32} {st : List Value} : zx f kk c ret g J RT (.i2l :: r) pc L (.int x :: st) σ = (zx f kk c ret g J RT r (pc + 1) L (.long x.toInt64 :: st) σ) := rfl
theorem zs_l2i {x : Int64} {st : List Value} : zx f kk c ret g J RT (.l2i :: r) pc L (.long x :: st) σ = (zx f kk c ret g J RT r (pc + 1) L (.int x.toInt32 :: st) σ) := rfl
theorem zs_i2c {x : Int32} {st : List Value} : zx f kk c ret g J RT (.i2c :: r) pc L (.int x :: st) σ = (zx f kk c ret g J RT r (pc + 1) L (.int (x.toUInt32 % 65536).toInt32 :: st) σ) := rfl
theorem zs_dup_i {x : Int32} {st : List Value} : zx f kk c ret g J RT (.dup :: r) pc L (.int x :: st) σ = (zx f kk c ret g J RT r (pc + 1) L (.int x :: .int x :: st) σ) := by show (_ = 1 ∧ _) = _; simp only [Value.category, true_and]; rfl
theorem zs_pop_i {x : Int32} {st : List Value} : zx f kk c ret g J RT (.pop :: r) pc L (.int x :: st) σ = (zx f kk c ret g J RT r (pc + 1) L (st) σ) := by show (_ = 1 ∧ _) = _; simp only [Value.category, true_and]; rfl
theorem zs_dup_a {x : Nat} {st : List Value} : zx f kk c ret g J RT (.dup :: r) pc L (.ref x :: st) σ = (zx f kk c ret g J RT r (pc + 1) L (.ref x :: .ref x :: st) σ) := by show (_ = 1 ∧ _) = _; simp only [Value.category, true_and]; rfl
theorem zs_pop_a {x : Nat} {st : List Value} : zx f kk c ret g J RT (.pop :: r) pc L (.ref x :: st) σ = (zx f kk c ret g J RT r (pc + 1) L (st) σ) := by show (_ = 1 ∧ _) = _; simp only [Value.category, true_and]; rfl
theorem zs_dup2 {x : Int32} {a : Nat} {st : List Value} : zx f kk c ret g J RT (.dup2 :: r) pc L (.int x :: .ref a :: st) σ = (zx f kk c ret g J RT r (pc + 1) L (.int x :: .ref a :: .int x :: .ref a :: st) σ) := by show ((_ = 1 ∧ _ = 1) ∧ _) = _; simp only [Value.category, true_and]; rfl
theorem zs_pop2 {x : Int64} {st : List Value} : zx f kk c ret g J RT (.pop2 :: r) pc L (.long x :: st) σ = (zx f kk c ret g J RT r (pc + 1) L (st) σ) := by show (_ = 2 ∧ _) = _; simp only [Value.category, true_and]; rfl
theorem zs_nop  {st : List Value} : zx f kk c ret g J RT (.nop :: r) pc L (st) σ = (J pc L st σ) := rfl
theorem zs_goto {off : Int} {st : List Value} : zx f kk c ret g J RT (.goto off :: r) pc L (st) σ = (J (ztg pc off) L st σ) := rfl
theorem zs_if_eq {x : Int32} {off : Int} {st : List Value} : zx f kk c ret g J RT (.ifCond .eq off :: r) pc L (.int x :: st) σ = ((x = nI 0 → J (ztg pc off) L st σ) ∧ (¬ (x = nI 0) → zx f kk c ret g J RT r (pc + 3) L (st) σ)) := rfl
theorem zs_icmp_eq {x y : Int32} {off : Int} {st : List Value} : zx f kk c ret g J RT (.if_icmp .eq off :: r) pc L (.int y :: .int x :: st) σ = ((x = y → J (ztg pc off) L st σ) ∧ (¬ (x = y) → zx f kk c ret g J RT r (pc + 3) L (st) σ)) := rfl
theorem zs_if_ne {x : Int32} {off : Int} {st : List Value} : zx f kk c ret g J RT (.ifCond .ne off :: r) pc L (.int x :: st) σ = ((¬ x = nI 0 → J (ztg pc off) L st σ) ∧ (¬ (¬ x = nI 0) → zx f kk c ret g J RT r (pc + 3) L (st) σ)) := rfl
theorem zs_icmp_ne {x y : Int32} {off : Int} {st : List Value} : zx f kk c ret g J RT (.if_icmp .ne off :: r) pc L (.int y :: .int x :: st) σ = ((¬ x = y → J (ztg pc off) L st σ) ∧ (¬ (¬ x = y) → zx f kk c ret g J RT r (pc + 3) L (st) σ)) := rfl
theorem zs_if_lt {x : Int32} {off : Int} {st : List Value} : zx f kk c ret g J RT (.ifCond .lt off :: r) pc L (.int x :: st) σ = ((x < nI 0 → J (ztg pc off) L st σ) ∧ (¬ (x < nI 0) → zx f kk c ret g J RT r (pc + 3) L (st) σ)) := rfl
theorem zs_icmp_lt {x y : Int32} {off : Int} {st : List Value} : zx f kk c ret g J RT (.if_icmp .lt off :: r) pc L (.int y :: .int x :: st) σ = ((x < y → J (ztg pc off) L st σ) ∧ (¬ (x < y) → zx f kk c ret g J RT r (pc + 3) L (st) σ)) := rfl
theorem zs_if_ge {x : Int32} {off : Int} {st : List Value} : zx f kk c ret g J RT (.ifCond .ge off :: r) pc L (.int x :: st) σ = ((nI 0 ≤ x → J (ztg pc off) L st σ) ∧ (¬ (nI 0 ≤ x) → zx f kk c ret g J RT r (pc + 3) L (st) σ)) := rfl
theorem zs_icmp_ge {x y : Int32} {off : Int} {st : List Value} : zx f kk c ret g J RT (.if_icmp .ge off :: r) pc L (.int y :: .int x :: st) σ = ((y ≤ x → J (ztg pc off) L st σ) ∧ (¬ (y ≤ x) → zx f kk c ret g J RT r (pc + 3) L (st) σ)) := rfl
theorem zs_if_gt {x : Int32} {off : Int} {st : List Value} : zx f kk c ret g J RT (.ifCond .gt off :: r) pc L (.int x :: st) σ = ((nI 0 < x → J (ztg pc off) L st σ) ∧ (¬ (nI 0 < x) → zx f kk c ret g J RT r (pc + 3) L (st) σ)) := rfl
theorem zs_icmp_gt {x y : Int32} {off : Int} {st : List Value} : zx f kk c ret g J RT (.if_icmp .gt off :: r) pc L (.int y :: .int x :: st) σ = ((y < x → J (ztg pc off) L st σ) ∧ (¬ (y < x) → zx f kk c ret g J RT r (pc + 3) L (st) σ)) := rfl
theorem zs_if_le {x : Int32} {off : Int} {st : List Value} : zx f kk c ret g J RT (.ifCond .le off :: r) pc L (.int x :: st) σ = ((x ≤ nI 0 → J (ztg pc off) L st σ) ∧ (¬ (x ≤ nI 0) → zx f kk c ret g J RT r (pc + 3) L (st) σ)) := rfl
theorem zs_icmp_le {x y : Int32} {off : Int} {st : List Value} : zx f kk c ret g J RT (.if_icmp .le off :: r) pc L (.int y :: .int x :: st) σ = ((x ≤ y → J (ztg pc off) L st σ) ∧ (¬ (x ≤ y) → zx f kk c ret g J RT r (pc + 3) L (st) σ)) := rfl
theorem zs_getf {j a : Nat} {st : List Value} : zx f kk c ret g J RT (.getfield j :: r) pc L (.ref a :: st) σ = (zo (f j) fun q => zco' σ[a]? q.1 fun fs => zo fs[q.2]? fun v => zx f kk c ret g J RT r (pc + 3) L (v :: st) σ) := rfl
theorem zs_putf {j a : Nat} {v : Value} {st : List Value} : zx f kk c ret g J RT (.putfield j :: r) pc L (v :: .ref a :: st) σ = (zo (f j) fun q => zco' σ[a]? q.1 fun fs => q.2 < fs.length ∧ zfit (zty q.1 q.2) v ∧ zx f kk c ret g J RT r (pc + 3) L (st) (σ.set a (.inr (q.1, fs.set q.2 v)))) := rfl
theorem zs_gets {j : Nat} {st : List Value} : zx f kk c ret g J RT (.getstatic j :: r) pc L (st) σ = (zo (g j) fun a => zx f kk c ret g J RT r (pc + 3) L (.ref a :: st) σ) := rfl
theorem zs_alen {a : Nat} {st : List Value} : zx f kk c ret g J RT (.arraylength :: r) pc L (.ref a :: st) σ = (zlen' (zlook σ a) fun n => zx f kk c ret g J RT r (pc + 1) L (.int (nI n) :: st) σ) := rfl
theorem zs_iald {a : Nat} {x : Int32} {st : List Value} : zx f kk c ret g J RT (.iaload :: r) pc L (.int x :: .ref a :: st) σ = (zci' σ[a]? fun n h => vp_in x n ∧ zx f kk c ret g J RT r (pc + 1) L (.int (h x.toNatClampNeg) :: st) σ) := rfl
theorem zs_cald {a : Nat} {x : Int32} {st : List Value} : zx f kk c ret g J RT (.caload :: r) pc L (.int x :: .ref a :: st) σ = (zcc' σ[a]? fun n h => vp_in x n ∧ zx f kk c ret g J RT r (pc + 1) L (.int (h x.toNatClampNeg) :: st) σ) := rfl
theorem zs_lald {a : Nat} {x : Int32} {st : List Value} : zx f kk c ret g J RT (.laload :: r) pc L (.int x :: .ref a :: st) σ = (zcl' (zlook σ a) fun n h => vp_in x n ∧ zx f kk c ret g J RT r (pc + 1) L (.long (h x.toNatClampNeg) :: st) σ) := rfl
theorem zs_aald {a : Nat} {x : Int32} {st : List Value} : zx f kk c ret g J RT (.aaload :: r) pc L (.int x :: .ref a :: st) σ = (zcr' σ[a]? fun n h => vp_in x n ∧ zo (h x.toNatClampNeg) fun b => zx f kk c ret g J RT r (pc + 1) L (.ref b :: st) σ) := rfl
theorem zs_iast {a : Nat} {x v : Int32} {st : List Value} : zx f kk c ret g J RT (.iastore :: r) pc L (.int v :: .int x :: .ref a :: st) σ = (zci' σ[a]? fun n h => vp_in x n ∧ zx f kk c ret g J RT r (pc + 1) L (st) (σ.set a (.inl (0, n, .inl (upd h x.toNatClampNeg v))))) := rfl
theorem zs_cast {a : Nat} {x v : Int32} {st : List Value} : zx f kk c ret g J RT (.castore :: r) pc L (.int v :: .int x :: .ref a :: st) σ = (zcc' σ[a]? fun n h => vp_in x n ∧ zx f kk c ret g J RT r (pc + 1) L (st) (σ.set a (.inl (2, n, .inl (upd h x.toNatClampNeg (vp_nar .char v)))))) := rfl
theorem zs_last {a : Nat} {x : Int32} {v : Int64} {st : List Value} : zx f kk c ret g J RT (.lastore :: r) pc L (.long v :: .int x :: .ref a :: st) σ = (zcl' σ[a]? fun n h => vp_in x n ∧ zx f kk c ret g J RT r (pc + 1) L (st) (σ.set a (.inl (1, n, .inr (.inl (vp_updL h x.toNatClampNeg v)))))) := rfl
theorem zs_invstatic {j : Nat} {st : List Value} : zx f kk c ret g J RT (.invokestatic j :: r) pc L (st) σ = (c (3 * j) st σ fun st' σ' => zx f kk c ret g J RT r (pc + 3) L st' σ') := rfl
theorem zs_invvirtual {j : Nat} {st : List Value} : zx f kk c ret g J RT (.invokevirtual j :: r) pc L (st) σ = (c (3 * j + 1) st σ fun st' σ' => zx f kk c ret g J RT r (pc + 3) L st' σ') := rfl
theorem zs_invspecial {j : Nat} {st : List Value} : zx f kk c ret g J RT (.invokespecial j :: r) pc L (st) σ = (c (3 * j + 2) st σ fun st' σ' => zx f kk c ret g J RT r (pc + 3) L st' σ') := rfl
theorem zs_ireturn {x : Int32} : zx f kk c ret g J RT (.ireturn :: r) pc L [.int x] σ = (zret ret x ∧ RT (some (.int x)) σ) := rfl
theorem zs_lreturn {x : Int64} : zx f kk c ret g J RT (.lreturn :: r) pc L [.long x] σ = (ret = some .long ∧ RT (some (.long x)) σ) := rfl
theorem zs_areturn {a : Nat} : zx f kk c ret g J RT (.areturn :: r) pc L [.ref a] σ = (ret = some (.array .long) ∧ RT (some (.ref a)) σ) := rfl
theorem zs_return  : zx f kk c ret g J RT (.return_ :: r) pc L [] σ = (ret = none ∧ RT none σ) := rfl
theorem zs_tsw {d lo hi : Int} {offs : Array Int} {x : Int32} {st : List Value} : zx f kk c ret g J RT (.tableswitch d lo hi offs :: r) pc L (.int x :: st) σ = ((x.toInt < lo ∨ hi < x.toInt → J (ztg pc d) L st σ) ∧ ∀ off, ¬ x.toInt < lo → ¬ hi < x.toInt → offs[(x.toInt - lo).toNat]? = some off → J (ztg pc off) L st σ) := rfl
theorem zs_lsw {d : Int} {ps : Array (Int × Int)} {x : Int32} {st : List Value} : zx f kk c ret g J RT (.lookupswitch d ps :: r) pc L (.int x :: st) σ = (J (ztg pc (Op.lookupswitch.offset ps.toList d x.toInt)) L st σ) := rfl
end Steps
theorem zr_zlda0 {L : List (Option Value)} {q : Option Value} {x : Nat} {F : Nat → Prop} : zlda (some (.ref x) :: L) 0 F = (F x) := rfl
theorem zr_zldas {L : List (Option Value)} {q : Option Value} {n : Nat} {F : Nat → Prop} : zlda (q :: L) (n + 1) F = (zlda L n F) := rfl
theorem zr_zldi0 {L : List (Option Value)} {q : Option Value} {x : Int32} {F : Int32 → Prop} : zldi (some (.int x) :: L) 0 F = (F x) := rfl
theorem zr_zldis {L : List (Option Value)} {q : Option Value} {n : Nat} {F : Int32 → Prop} : zldi (q :: L) (n + 1) F = (zldi L n F) := rfl
theorem zr_zldl0 {L : List (Option Value)} {q : Option Value} {x : Int64} {F : Int64 → Prop} : zldl (some (.long x) :: L) 0 F = (F x) := rfl
theorem zr_zldls {L : List (Option Value)} {q : Option Value} {n : Nat} {F : Int64 → Prop} : zldl (q :: L) (n + 1) F = (zldl L n F) := rfl
theorem zr_zs1_0 {L : List (Option Value)} {q : Option Value} {v : Value} : zs1 (q :: L) 0 v = (some v :: L) := rfl
theorem zr_zs1_1n {L : List (Option Value)} {q : Option Value} {v : Value} {p : Option Value} : zs1 (none :: p :: L) 1 v = (none :: some v :: L) := rfl
theorem zr_zs1_1i {L : List (Option Value)} {q : Option Value} {v : Value} {p : Option Value} {x : Int32} : zs1 (some (.int x) :: p :: L) 1 v = (some (.int x) :: some v :: L) := rfl
theorem zr_zs1_1a {L : List (Option Value)} {q : Option Value} {v : Value} {p : Option Value} {x : Nat} : zs1 (some (.ref x) :: p :: L) 1 v = (some (.ref x) :: some v :: L) := rfl
theorem zr_zs1_1l {L : List (Option Value)} {q : Option Value} {v : Value} {p : Option Value} {x : Int64} : zs1 (some (.long x) :: p :: L) 1 v = (none :: some v :: L) := rfl
theorem zr_zs1_s {L : List (Option Value)} {q : Option Value} {v : Value} {n : Nat} : zs1 (q :: L) (n + 2) v = (q :: zs1 L (n + 1) v) := rfl
theorem zr_zs2_0 {L : List (Option Value)} {q : Option Value} {v : Value} {p : Option Value} : zs2 (q :: p :: L) 0 v = (some v :: none :: L) := rfl
theorem zr_zs2_1n {L : List (Option Value)} {q : Option Value} {v : Value} {p p2 : Option Value} : zs2 (none :: p :: p2 :: L) 1 v = (none :: some v :: none :: L) := rfl
theorem zr_zs2_1i {L : List (Option Value)} {q : Option Value} {v : Value} {p p2 : Option Value} {x : Int32} : zs2 (some (.int x) :: p :: p2 :: L) 1 v = (some (.int x) :: some v :: none :: L) := rfl
theorem zr_zs2_1a {L : List (Option Value)} {q : Option Value} {v : Value} {p p2 : Option Value} {x : Nat} : zs2 (some (.ref x) :: p :: p2 :: L) 1 v = (some (.ref x) :: some v :: none :: L) := rfl
theorem zr_zs2_1l {L : List (Option Value)} {q : Option Value} {v : Value} {p p2 : Option Value} {x : Int64} : zs2 (some (.long x) :: p :: p2 :: L) 1 v = (none :: some v :: none :: L) := rfl
theorem zr_zs2_s {L : List (Option Value)} {q : Option Value} {v : Value} {n : Nat} : zs2 (q :: L) (n + 2) v = (q :: zs2 L (n + 1) v) := rfl
theorem zr_f0  : (0 : Fin 4).val = (0) := rfl
theorem zr_f1  : (1 : Fin 4).val = (1) := rfl
theorem zr_f2  : (2 : Fin 4).val = (2) := rfl
theorem zr_f3  : (3 : Fin 4).val = (3) := rfl
theorem zr_kp (n : Nat) : zkc (OfNat.ofNat (no_index n)) = nI (OfNat.ofNat n) := rfl
theorem zr_k0  : zkc 0 = (nI 0) := rfl
theorem zr_k1  : zkc 1 = (nI 1) := rfl
theorem zr_kn (n : Nat) : zkc (-(OfNat.ofNat (no_index (n + 1)))) = -(nI (n + 1)) := rfl
theorem zr_km1  : zkc (-1) = (-(nI 1)) := rfl
theorem zr_km2  : zkc (-2) = (-(nI 2)) := rfl
theorem zr_km4  : zkc (-4) = (-(nI 4)) := rfl
theorem zr_km8  : zkc (-8) = (-(nI 8)) := rfl
theorem zr_km16  : zkc (-16) = (-(nI 16)) := rfl
theorem zr_tp (pc n : Nat) : ztg pc (OfNat.ofNat (no_index n)) = pc + (OfNat.ofNat n) := rfl
theorem zr_tn (pc n : Nat) : ztg pc (-(OfNat.ofNat (no_index n))) = pc - (OfNat.ofNat n) := by
  cases n <;> rfl
theorem zr_kl {x : Int64} {F : Int64 → Prop} : zkl (some (.long x)) F = (F x) := rfl
theorem zr_ki {x : Int32} {F : Int32 → Prop} : zki (some (.int x)) F = (F x) := rfl
theorem zr_o {α : Type} {v : α} {F : α → Prop} : zo (some v) F = (F v) := rfl
theorem zr_ci {n : Nat} {h : Nat → Int32} {F : Nat → (Nat → Int32) → Prop} : zci' (some (.inl (0, n, .inl h))) F = (F n h) := rfl
theorem zr_cl {n : Nat} {h : Nat → Int64} {F : Nat → (Nat → Int64) → Prop} : zcl' (some (.inl (1, n, .inr (.inl h)))) F = (F n h) := rfl
theorem zr_cc {n : Nat} {h : Nat → Int32} {F : Nat → (Nat → Int32) → Prop} : zcc' (some (.inl (2, n, .inl h))) F = (F n h) := rfl
theorem zr_cr {n : Nat} {h : Nat → Option Nat} {F : Nat → (Nat → Option Nat) → Prop} : zcr' (some (.inl (3, n, .inr (.inr (.inr (.inr h)))))) F = (F n h) := rfl
theorem zr_len0 {n : Nat} {h : Nat → Int32} {F : Nat → Prop} : zlen' (some (.inl (0, n, .inl h))) F = (F n) := rfl
theorem zr_len1 {n : Nat} {h : Nat → Int64} {F : Nat → Prop} : zlen' (some (.inl (1, n, .inr (.inl h)))) F = (F n) := rfl
theorem zr_len2 {n : Nat} {h : Nat → Int32} {F : Nat → Prop} : zlen' (some (.inl (2, n, .inl h))) F = (F n) := rfl
theorem zr_co {ci : Nat} {fs : List Value} {F : List Value → Prop} : zco' (some (.inr (ci, fs))) ci F = (F fs) := by show (_ ∧ _) = _; simp only [true_and]
theorem zr_ctm {q : Nat × Nat × zSpec} {t : List (Nat × Nat × zSpec)} {key : Nat} {st : List Value} {σ : List va_E} {K : List Value → List va_E → Prop} : zct (q :: t) key st σ K = (if key = q.1 then zcs q.2.1 q.2.2 st σ K else zct t key st σ K) := rfl
