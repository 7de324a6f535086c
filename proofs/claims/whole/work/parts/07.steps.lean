def zkl (q : Option Value) (F : Int64 → Prop) : Prop := match q with
  | some (.long x) => F x
  | _ => False
def zki (q : Option Value) (F : Int32 → Prop) : Prop := match q with
  | some (.int x) => F x
  | _ => False
def zvi (L : List (Option Value)) (j : Nat) : Int32 := match L[j]? with
  | some (some (.int x)) => x
  | _ => 0
def zvl (L : List (Option Value)) (j : Nat) : Int64 := match L[j]? with
  | some (some (.long x)) => x
  | _ => 0
def zva' (L : List (Option Value)) (j : Nat) : Nat := match L[j]? with
  | some (some (.ref x)) => x
  | _ => 0
def zii (L : List (Option Value)) (j : Nat) : Prop := zldi L j fun _ => True
def zil' (L : List (Option Value)) (j : Nat) : Prop := zldl L j fun _ => True
def zia' (L : List (Option Value)) (j : Nat) : Prop := zlda L j fun _ => True
theorem zld_i {L : List (Option Value)} {j : Nat} {F : Int32 → Prop} : zldi L j F = (zii L j ∧ F (zvi L j)) := by
  unfold zii zldi zvi
  split
  · rename_i h; rw [h]; simp
  · simp
theorem zld_l {L : List (Option Value)} {j : Nat} {F : Int64 → Prop} : zldl L j F = (zil' L j ∧ F (zvl L j)) := by
  unfold zil' zldl zvl
  split
  · rename_i h; rw [h]; simp
  · simp
theorem zld_a {L : List (Option Value)} {j : Nat} {F : Nat → Prop} : zlda L j F = (zia' L j ∧ F (zva' L j)) := by
  unfold zia' zlda zva'
  split
  · rename_i h; rw [h]; simp
  · simp
def zcn (q : Option va_E) : Nat := match q with
  | some (.inl (_, n, _)) => n
  | _ => 0
def zcfi (q : Option va_E) : Nat → Int32 := match q with
  | some (.inl (_, _, .inl h)) => h
  | _ => fun _ => 0
def zcfl (q : Option va_E) : Nat → Int64 := match q with
  | some (.inl (_, _, .inr (.inl h))) => h
  | _ => fun _ => 0
def zcfr (q : Option va_E) : Nat → Option Nat := match q with
  | some (.inl (_, _, .inr (.inr (.inr (.inr h))))) => h
  | _ => fun _ => none
def zcfo (q : Option va_E) : List Value := match q with
  | some (.inr (_, fs)) => fs
  | _ => []
def zisi (q : Option va_E) : Prop := zci' q fun _ _ => True
def zisl (q : Option va_E) : Prop := zcl' q fun _ _ => True
def zisc (q : Option va_E) : Prop := zcc' q fun _ _ => True
def zisr (q : Option va_E) : Prop := zcr' q fun _ _ => True
def zisn (q : Option va_E) : Prop := zlen' q fun _ => True
def ziso (q : Option va_E) (ci : Nat) : Prop := zco' q ci fun _ => True
theorem zcx_i {q : Option va_E} {F : Nat → (Nat → Int32) → Prop} : zci' q F = (zisi q ∧ F (zcn q) (zcfi q)) := by
  unfold zisi zci'
  split
  · simp [zcn, zcfi]
  · simp
theorem zcx_c {q : Option va_E} {F : Nat → (Nat → Int32) → Prop} : zcc' q F = (zisc q ∧ F (zcn q) (zcfi q)) := by
  unfold zisc zcc'
  split
  · simp [zcn, zcfi]
  · simp
theorem zcx_l {q : Option va_E} {F : Nat → (Nat → Int64) → Prop} : zcl' q F = (zisl q ∧ F (zcn q) (zcfl q)) := by
  unfold zisl zcl'
  split
  · simp [zcn, zcfl]
  · simp
theorem zcx_r {q : Option va_E} {F : Nat → (Nat → Option Nat) → Prop} : zcr' q F = (zisr q ∧ F (zcn q) (zcfr q)) := by
  unfold zisr zcr'
  split
  · simp [zcn, zcfr]
  · simp
theorem zcx_n {q : Option va_E} {F : Nat → Prop} : zlen' q F = (zisn q ∧ F (zcn q)) := by
  unfold zisn zlen'
  split <;> simp [zcn]
theorem zcx_o {q : Option va_E} {ci : Nat} {F : List Value → Prop} : zco' q ci F = (ziso q ci ∧ F (zcfo q)) := by
  unfold ziso zco'
  split
  · simp [zcfo]
  · simp
def zov {α : Type} (d : α) (q : Option α) : α := q.getD d
def zis {α : Type} (q : Option α) : Prop := zo q fun _ => True
theorem zox {α : Type} (d : α) {q : Option α} {F : α → Prop} : zo q F = (zis q ∧ F (zov d q)) := by
  unfold zis zo zov
  split
  · simp
  · simp
def zkvl (q : Option Value) : Int64 := match q with
  | some (.long x) => x
  | _ => 0
def zkvi (q : Option Value) : Int32 := match q with
  | some (.int x) => x
  | _ => 0
def zkisl (q : Option Value) : Prop := zkl q fun _ => True
def zkisi (q : Option Value) : Prop := zki q fun _ => True
theorem zkx_l {q : Option Value} {F : Int64 → Prop} : zkl q F = (zkisl q ∧ F (zkvl q)) := by
  unfold zkisl zkl
  split
  · simp [zkvl]
  · simp
theorem zkx_i {q : Option Value} {F : Int32 → Prop} : zki q F = (zkisi q ∧ F (zkvi q)) := by
  unfold zkisi zki
  split
  · simp [zkvi]
  · simp
section Steps
variable {f : Nat → Option (Nat × Nat)} {kk : Nat → Option Value} {c : Nat → List Value → List va_E → (List Value → List va_E → Prop) → Prop} {ret : Option FieldType} {g : Nat → Option Nat} {J : Nat → List (Option Value) → List Value → List va_E → Prop} {RT : Option Value → List va_E → Prop} {r : List Instr} {pc : Nat} {L : List (Option Value)} {σ : List va_E}
theorem zs_aload_n {j : Fin 4} {st : List Value} : zx f kk c ret g J RT (.aload_n j :: r) pc L (st) σ = (zia' L j.val ∧ zx f kk c ret g J RT r (pc + 1) L (.ref (zva' L j.val) :: st) σ) := zld_a
theorem zs_aload {j : Nat} {st : List Value} : zx f kk c ret g J RT (.aload j :: r) pc L (st) σ = (zia' L j ∧ zx f kk c ret g J RT r (pc + 2) L (.ref (zva' L j) :: st) σ) := zld_a
theorem zs_iload_n {j : Fin 4} {st : List Value} : zx f kk c ret g J RT (.iload_n j :: r) pc L (st) σ = (zii L j.val ∧ zx f kk c ret g J RT r (pc + 1) L (.int (zvi L j.val) :: st) σ) := zld_i
theorem zs_iload {j : Nat} {st : List Value} : zx f kk c ret g J RT (.iload j :: r) pc L (st) σ = (zii L j ∧ zx f kk c ret g J RT r (pc + 2) L (.int (zvi L j) :: st) σ) := zld_i
theorem zs_lload_n {j : Fin 4} {st : List Value} : zx f kk c ret g J RT (.lload_n j :: r) pc L (st) σ = (zil' L j.val ∧ zx f kk c ret g J RT r (pc + 1) L (.long (zvl L j.val) :: st) σ) := zld_l
theorem zs_lload {j : Nat} {st : List Value} : zx f kk c ret g J RT (.lload j :: r) pc L (st) σ = (zil' L j ∧ zx f kk c ret g J RT r (pc + 2) L (.long (zvl L j) :: st) σ) := zld_l
theorem zs_istore_n {j : Fin 4} {x : Int32} {st : List Value} : zx f kk c ret g J RT (.istore_n j :: r) pc L (.int x :: st) σ = (zx f kk c ret g J RT r (pc + 1) (zs1 L j.val (.int x)) (st) σ) := rfl
theorem zs_istore {j : Nat} {x : Int32} {st : List Value} : zx f kk c ret g J RT (.istore j :: r) pc L (.int x :: st) σ = (zx f kk c ret g J RT r (pc + 2) (zs1 L j (.int x)) (st) σ) := rfl
theorem zs_lstore_n {j : Fin 4} {x : Int64} {st : List Value} : zx f kk c ret g J RT (.lstore_n j :: r) pc L (.long x :: st) σ = (zx f kk c ret g J RT r (pc + 1) (zs2 L j.val (.long x)) (st) σ) := rfl
theorem zs_lstore {j : Nat} {x : Int64} {st : List Value} : zx f kk c ret g J RT (.lstore j :: r) pc L (.long x :: st) σ = (zx f kk c ret g J RT r (pc + 2) (zs2 L j (.long x)) (st) σ) := rfl
theorem zs_astore_n {j : Fin 4} {x : Nat} {st : List Value} : zx f kk c ret g J RT (.astore_n j :: r) pc L (.ref x :: st) σ = (zx f kk c ret g J RT r (pc + 1) (zs1 L j.val (.ref x)) (st) σ) := rfl
theorem zs_astore {j : Nat} {x : Nat} {st : List Value} : zx f kk c ret g J RT (.astore j :: r) pc L (.ref x :: st) σ = (zx f kk c ret g J RT r (pc + 2) (zs1 L j (.ref x)) (st) σ) := rfl
theorem zs_iinc {j : Nat} {n : Int} {st : List Value} : zx f kk c ret g J RT (.iinc j n :: r) pc L (st) σ = (zii L j ∧ zx f kk c ret g J RT r (pc + 3) (zs1 L j (.int (zvi L j + zkc n))) (st) σ) := zld_i
theorem zs_iconst {n : Int} {st : List Value} : zx f kk c ret g J RT (.iconst n :: r) pc L (st) σ = (zx f kk c ret g J RT r (pc + 1) L (.int (zkc n) :: st) σ) := rfl
theorem zs_bipush {n : Int} {st : List Value} : zx f kk c ret g J RT (.bipush n :: r) pc L (st) σ = (zx f kk c ret g J RT r (pc + 2) L (.int (zkc n) :: st) σ) := rfl
theorem zs_sipush {n : Int} {st : List Value} : zx f kk c ret g J RT (.sipush n :: r) pc L (st) σ = (zx f kk c ret g J RT r (pc + 3) L (.int (zkc n) :: st) σ) := rfl
theorem zs_lconst0  {st : List Value} : zx f kk c ret g J RT (.lconst 0 :: r) pc L (st) σ = (zx f kk c ret g J RT r (pc + 1) L (.long (lN 0) :: st) σ) := rfl
theorem zs_lconst1  {st : List Value} : zx f kk c ret g J RT (.lconst 1 :: r) pc L (st) σ = (zx f kk c ret g J RT r (pc + 1) L (.long (lN 1) :: st) σ) := rfl
theorem zs_ldc2_w {j : Nat} {st : List Value} : zx f kk c ret g J RT (.ldc2_w j :: r) pc L (st) σ = (zkisl (kk j) ∧ zx f kk c ret g J RT r (pc + 3) L (.long (zkvl (kk j)) :: st) σ) := by
  rw [← zkx_l (q := kk j) (F := fun x => zx f kk c ret g J RT r (pc + 3) L (.long x :: st) σ)]
  show (match kk j with | some (.long x) => _ | _ => False) = _
  cases kk j with
  | none => rfl
  | some v => cases v <;> rfl
theorem zs_ldc_w {j : Nat} {st : List Value} : zx f kk c ret g J RT (.ldc_w j :: r) pc L (st) σ = (zkisi (kk j) ∧ zx f kk c ret g J RT r (pc + 3) L (.int (zkvi (kk j)) :: st) σ) := by
  rw [← zkx_i (q := kk j) (F := fun x => zx f kk c ret g J RT r (pc + 3) L (.int x :: st) σ)]
  show (match kk j with | some (.int x) => _ | _ => False) = _
  cases kk j with
  | none => rfl
  | some v => cases v <;> rfl
theorem zs_iadd {x y : Int32} {st : List Value} : zx f kk c ret g J RT (.iadd :: r) pc L (.int y :: .int x :: st) σ = (zx f kk c ret g J RT r (pc + 1) L (.int (x + y) :: st) σ) := rfl
theorem zs_isub {x y : Int32} {st : List Value} : zx f kk c ret g J RT (.isub :: r) pc L (.int y :: .int x :: st) σ = (zx f kk c ret g J RT r (pc + 1) L (.int (x - y) :: st) σ) := rfl
theorem zs_imul {x y : Int32} {st : List Value} : zx f kk c ret g J RT (.imul :: r) pc L (.int y :: .int x :: st) σ = (zx f kk c ret g J RT r (pc + 1) L (.int (x * y) :: st) σ) := rfl
theorem zs_iand {x y : Int32} {st : List Value} : zx f kk c ret g J RT (.iand :: r) pc L (.int y :: .int x :: st) σ = (zx f kk c ret g J RT r (pc + 1) L (.int (x &&& y) :: st) σ) := rfl
theorem zs_ior {x y : Int32} {st : List Value} : zx f kk c ret g J RT (.ior :: r) pc L (.int y :: .int x :: st) σ = (zx f kk c ret g J RT r (pc + 1) L (.int (x ||| y) :: st) σ) := rfl
theorem zs_ixor {x y : Int32} {st : List Value} : zx f kk c ret g J RT (.ixor :: r) pc L (.int y :: .int x :: st) σ = (zx f kk c ret g J RT r (pc + 1) L (.int (x ^^^ y) :: st) σ) := rfl
theorem zs_ishl {x y : Int32} {st : List Value} : zx f kk c ret g J RT (.ishl :: r) pc L (.int y :: .int x :: st) σ = (zx f kk c ret g J RT r (pc + 1) L (.int (x <<< (y &&& 31)) :: st) σ) := rfl
theorem zs_ishr {x y : Int32} {st : List Value} : zx f kk c ret g J RT (.ishr :: r) pc L (.int y :: .int x :: st) σ = (zx f kk c ret g J RT r (pc + 1) L (.int (x >>> (y &&& 31)) :: st) σ) := rfl
theorem zs_iushr {x y : Int32} {st : List Value} : zx f kk c ret g J RT (.iushr :: r) pc L (.int y :: .int x :: st) σ = (zx f kk c ret g J RT r (pc + 1) L (.int ((x.toUInt32 >>> (y.toUInt32 &&& Int32.toUInt32 31)).toInt32) :: st) σ) := rfl
theorem zs_idiv {x y : Int32} {st : List Value} : zx f kk c ret g J RT (.idiv :: r) pc L (.int y :: .int x :: st) σ = (¬ y = nI 0 ∧ zx f kk c ret g J RT r (pc + 1) L (.int (x / y) :: st) σ) := rfl
theorem zs_irem {x y : Int32} {st : List Value} : zx f kk c ret g J RT (.irem :: r) pc L (.int y :: .int x :: st) σ = (¬ y = nI 0 ∧ zx f kk c ret g J RT r (pc + 1) L (.int (x - x / y * y) :: st) σ) := rfl
theorem zs_ineg {x : Int32} {st : List Value} : zx f kk c ret g J RT (.ineg :: r) pc L (.int x :: st) σ = (zx f kk c ret g J RT r (pc + 1) L (.int (-x) :: st) σ) := rfl
theorem zs_ladd {x y : Int64} {st : List Value} : zx f kk c ret g J RT (.ladd :: r) pc L (.long y :: .long x :: st) σ = (zx f kk c ret g J RT r (pc + 1) L (.long (x + y) :: st) σ) := rfl
theorem zs_lsub {x y : Int64} {st : List Value} : zx f kk c ret g J RT (.lsub :: r) pc L (.long y :: .long x :: st) σ = (zx f kk c ret g J RT r (pc + 1) L (.long (x - y) :: st) σ) := rfl
theorem zs_lmul {x y : Int64} {st : List Value} : zx f kk c ret g J RT (.lmul :: r) pc L (.long y :: .long x :: st) σ = (zx f kk c ret g J RT r (pc + 1) L (.long (x * y) :: st) σ) := rfl
theorem zs_land {x y : Int64} {st : List Value} : zx f kk c ret g J RT (.land :: r) pc L (.long y :: .long x :: st) σ = (zx f kk c ret g J RT r (pc + 1) L (.long (x &&& y) :: st) σ) := rfl
theorem zs_lor {x y : Int64} {st : List Value} : zx f kk c ret g J RT (.lor :: r) pc L (.long y :: .long x :: st) σ = (zx f kk c ret g J RT r (pc + 1) L (.long (x ||| y) :: st) σ) := rfl
theorem zs_lxor {x y : Int64} {st : List Value} : zx f kk c ret g J RT (.lxor :: r) pc L (.long y :: .long x :: st) σ = (zx f kk c ret g J RT r (pc + 1) L (.long (x ^^^ y) :: st) σ) := rfl
theorem zs_ldiv {x y : Int64} {st : List Value} : zx f kk c ret g J RT (.ldiv :: r) pc L (.long y :: .long x :: st) σ = (¬ y = lN 0 ∧ zx f kk c ret g J RT r (pc + 1) L (.long (x / y) :: st) σ) := rfl
theorem zs_lrem {x y : Int64} {st : List Value} : zx f kk c ret g J RT (.lrem :: r) pc L (.long y :: .long x :: st) σ = (¬ y = lN 0 ∧ zx f kk c ret g J RT r (pc + 1) L (.long (x - x / y * y) :: st) σ) := rfl
theorem zs_lcmp {x y : Int64} {st : List Value} : zx f kk c ret g J RT (.lcmp :: r) pc L (.long y :: .long x :: st) σ = (zx f kk c ret g J RT r (pc + 1) L (.int (lg_cmp x y) :: st) σ) := rfl
theorem zs_lshl {x : Int64} {y : Int32} {st : List Value} : zx f kk c ret g J RT (.lshl :: r) pc L (.int y :: .long x :: st) σ = (zx f kk c ret g J RT r (pc + 1) L (.long (x <<< (y.toInt64 &&& 63)) :: st) σ) := rfl
theorem zs_lshr {x : Int64} {y : Int32} {st : List Value} : zx f kk c ret g J RT (.lshr :: r) pc L (.int y :: .long x :: st) σ = (zx f kk c ret g J RT r (pc + 1) L (.long (x >>> (y.toInt64 &&& 63)) :: st) σ) := rfl
theorem zs_lushr {x : Int64} {y : Int32} {st : List Value} : zx f kk c ret g J RT (.lushr :: r) pc L (.int y :: .long x :: st) σ = (zx f kk c ret g J RT r (pc + 1) L (.long ((x.toUInt64 >>> (y.toInt64.toUInt64 &&& Int64.toUInt64 63)).toInt64) :: st) σ) := rfl
theorem zs_i2l {x : Int32} {st : List Value} : zx f kk c ret g J RT (.i2l :: r) pc L (.int x :: st) σ = (zx f kk c ret g J RT r (pc + 1) L (.long x.toInt64 :: st) σ) := rfl
theorem zs_l2i {x : Int64} {st : List Value} : zx f kk c ret g J RT (.l2i :: r) pc L (.long x :: st) σ = (zx f kk c ret g J RT r (pc + 1) L (.int x.toInt32 :: st) σ) := rfl
theorem zs_i2c {x : Int32} {st : List Value} : zx f kk c ret g J RT (.i2c :: r) pc L (.int x :: st) σ = (zx f kk c ret g J RT r (pc + 1) L (.int (x.toUInt32 % 65536).toInt32 :: st) σ) := rfl
theorem zs_dup_i {x : Int32} {st : List Value} : zx f kk c ret g J RT (.dup :: r) pc L (.int x :: st) σ = (zx f kk c ret g J RT r (pc + 1) L (.int x :: .int x :: st) σ) := by show (_ = 1 ∧ _) = _; simp only [Value.category, true_and]; rfl
theorem zs_pop_i {x : Int32} {st : List Value} : zx f kk c ret g J RT (.pop :: r) pc L (.int x :: st) σ = (zx f kk c ret g J RT r (pc + 1) L (st) σ) := by show (_ = 1 ∧ _) = _; simp only [Value.category, true_and]; rfl
theorem zs_dup_a {x : Nat} {st : List Value} : zx f kk c ret g J RT (.dup :: r) pc L (.ref x :: st) σ = (zx f kk c ret g J RT r (pc + 1) L (.ref x :: .ref x :: st) σ) := by show (_ = 1 ∧ _) = _; simp only [Value.category, true_and]; rfl
theorem zs_pop_a {x : Nat} {st : List Value} : zx f kk c ret g J RT (.pop :: r) pc L (.ref x :: st) σ = (zx f kk c ret g J RT r (pc + 1) L (st) σ) := by show (_ = 1 ∧ _) = _; simp only [Value.category, true_and]; rfl
theorem zs_dup2 {x : Int32} {a : Nat} {st : List Value} : zx f kk c ret g J RT (.dup2 :: r) pc L (.int x :: .ref a :: st) σ = (zx f kk c ret g J RT r (pc + 1) L (.int x :: .ref a :: .int x :: .ref a :: st) σ) := by show ((_ = 1 ∧ _ = 1) ∧ _) = _; simp only [Value.category, true_and]; rfl
theorem zs_pop2 {x : Int64} {st : List Value} : zx f kk c ret g J RT (.pop2 :: r) pc L (.long x :: st) σ = (zx f kk c ret g J RT r (pc + 1) L (st) σ) := by show (_ = 2 ∧ _) = _; simp only [Value.category, true_and]; rfl
theorem zs_nop  {st : List Value} : zx f kk c ret g J RT (.nop :: r) pc L (st) σ = (J pc L st σ) := rfl
theorem zs_goto {off : Int} {st : List Value} : zx f kk c ret g J RT (.goto off :: r) pc L (st) σ = (J (ztg pc off) L st σ) := rfl
theorem zs_if_eq {x : Int32} {off : Int} {st : List Value} : zx f kk c ret g J RT (.ifCond .eq off :: r) pc L (.int x :: st) σ = ((x = nI 0 → J (ztg pc off) L st σ) ∧ (¬ (x = nI 0) → zx f kk c ret g J RT r (pc + 3) L (st) σ)) := rfl
theorem zs_icmp_eq {x y : Int32} {off : Int} {st : List Value} : zx f kk c ret g J RT (.if_icmp .eq off :: r) pc L (.int y :: .int x :: st) σ = ((x = y → J (ztg pc off) L st σ) ∧ (¬ (x = y) → zx f kk c ret g J RT r (pc + 3) L (st) σ)) := rfl
theorem zs_if_ne {x : Int32} {off : Int} {st : List Value} : zx f kk c ret g J RT (.ifCond .ne off :: r) pc L (.int x :: st) σ = ((¬ x = nI 0 → J (ztg pc off) L st σ) ∧ (¬ (¬ x = nI 0) → zx f kk c ret g J RT r (pc + 3) L (st) σ)) := rfl
theorem zs_icmp_ne {x y : Int32} {off : Int} {st : List Value} : zx f kk c ret g J RT (.if_icmp .ne off :: r) pc L (.int y :: .int x :: st) σ = ((¬ x = y → J (ztg pc off) L st σ) ∧ (¬ (¬ x = y) → zx f kk c ret g J RT r (pc + 3) L (st) σ)) := rfl
theorem zs_if_lt {x : Int32} {off : Int} {st : List Value} : zx f kk c ret g J RT (.ifCond .lt off :: r) pc L (.int x :: st) σ = ((x < nI 0 → J (ztg pc off) L st σ) ∧ (¬ (x < nI 0) → zx f kk c ret g J RT r (pc + 3) L (st) σ)) := rfl
theorem zs_icmp_lt {x y : Int32} {off : Int} {st : List Value} : zx f kk c ret g J RT (.if_icmp .lt off :: r) pc L (.int y :: .int x :: st) σ = ((x < y → J (ztg pc off) L st σ) ∧ (¬ (x < y) → zx f kk c ret g J RT r (pc + 3) L (st) σ)) := rfl
theorem zs_if_ge {x : Int32} {off : Int} {st : List Value} : zx f kk c ret g J RT (.ifCond .ge off :: r) pc L (.int x :: st) σ = ((nI 0 ≤ x → J (ztg pc off) L st σ) ∧ (¬ (nI 0 ≤ x) → zx f kk c ret g J RT r (pc + 3) L (st) σ)) := rfl
theorem zs_icmp_ge {x y : Int32} {off : Int} {st : List Value} : zx f kk c ret g J RT (.if_icmp .ge off :: r) pc L (.int y :: .int x :: st) σ = ((y ≤ x → J (ztg pc off) L st σ) ∧ (¬ (y ≤ x) → zx f kk c ret g J RT r (pc + 3) L (st) σ)) := rfl
theorem zs_if_gt {x : Int32} {off : Int} {st : List Value} : zx f kk c ret g J RT (.ifCond .gt off :: r) pc L (.int x :: st) σ = ((nI 0 < x → J (ztg pc off) L st σ) ∧ (¬ (nI 0 < x) → zx f kk c ret g J RT r (pc + 3) L (st) σ)) := rfl
theorem zs_icmp_gt {x y : Int32} {off : Int} {st : List Value} : zx f kk c ret g J RT (.if_icmp .gt off :: r) pc L (.int y :: .int x :: st) σ = ((y < x → J (ztg pc off) L st σ) ∧ (¬ (y < x) → zx f kk c ret g J RT r (pc + 3) L (st) σ)) := rfl
theorem zs_if_le {x : Int32} {off : Int} {st : List Value} : zx f kk c ret g J RT (.ifCond .le off :: r) pc L (.int x :: st) σ = ((x ≤ nI 0 → J (ztg pc off) L st σ) ∧ (¬ (x ≤ nI 0) → zx f kk c ret g J RT r (pc + 3) L (st) σ)) := rfl
theorem zs_icmp_le {x y : Int32} {off : Int} {st : List Value} : zx f kk c ret g J RT (.if_icmp .le off :: r) pc L (.int y :: .int x :: st) σ = ((x ≤ y → J (ztg pc off) L st σ) ∧ (¬ (x ≤ y) → zx f kk c ret g J RT r (pc + 3) L (st) σ)) := rfl
theorem zs_getf {j a : Nat} {st : List Value} : zx f kk c ret g J RT (.getfield j :: r) pc L (.ref a :: st) σ = (zis (f j) ∧ ziso σ[a]? (zov (0, 0) (f j)).1 ∧ zis (zcfo σ[a]?)[(zov (0, 0) (f j)).2]? ∧ zx f kk c ret g J RT r (pc + 3) L (zov .null (zcfo σ[a]?)[(zov (0, 0) (f j)).2]? :: st) σ) := by
  show (zo (f j) fun q => zco' σ[a]? q.1 fun fs => zo fs[q.2]? fun v => _) = _
  rw [zox (0, 0), zcx_o, zox .null]
  rfl
theorem zs_putf {j a : Nat} {v : Value} {st : List Value} : zx f kk c ret g J RT (.putfield j :: r) pc L (v :: .ref a :: st) σ = (zis (f j) ∧ ziso σ[a]? (zov (0, 0) (f j)).1 ∧ (zov (0, 0) (f j)).2 < (zcfo σ[a]?).length ∧ zfit (zty (zov (0, 0) (f j)).1 (zov (0, 0) (f j)).2) v ∧ zx f kk c ret g J RT r (pc + 3) L (st) (σ.set a (.inr ((zov (0, 0) (f j)).1, (zcfo σ[a]?).set (zov (0, 0) (f j)).2 v)))) := by
  show (zo (f j) fun q => zco' σ[a]? q.1 fun fs => q.2 < fs.length ∧ zfit (zty q.1 q.2) v ∧ _) = _
  rw [zox (0, 0), zcx_o]
  rfl
theorem zs_gets {j : Nat} {st : List Value} : zx f kk c ret g J RT (.getstatic j :: r) pc L (st) σ = (zis (g j) ∧ zx f kk c ret g J RT r (pc + 3) L (.ref (zov 0 (g j)) :: st) σ) := zox 0
theorem zs_alen {a : Nat} {st : List Value} : zx f kk c ret g J RT (.arraylength :: r) pc L (.ref a :: st) σ = (zisn (zlook σ a) ∧ zx f kk c ret g J RT r (pc + 1) L (.int (nI (zcn (zlook σ a))) :: st) σ) := zcx_n
theorem zs_iald {a : Nat} {x : Int32} {st : List Value} : zx f kk c ret g J RT (.iaload :: r) pc L (.int x :: .ref a :: st) σ = (zisi σ[a]? ∧ vp_in x (zcn σ[a]?) ∧ zx f kk c ret g J RT r (pc + 1) L (.int (zcfi σ[a]? x.toNatClampNeg) :: st) σ) := zcx_i
theorem zs_cald {a : Nat} {x : Int32} {st : List Value} : zx f kk c ret g J RT (.caload :: r) pc L (.int x :: .ref a :: st) σ = (zisc σ[a]? ∧ vp_in x (zcn σ[a]?) ∧ zx f kk c ret g J RT r (pc + 1) L (.int (zcfi σ[a]? x.toNatClampNeg) :: st) σ) := zcx_c
theorem zs_lald {a : Nat} {x : Int32} {st : List Value} : zx f kk c ret g J RT (.laload :: r) pc L (.int x :: .ref a :: st) σ = (zisl (zlook σ a) ∧ vp_in x (zcn (zlook σ a)) ∧ zx f kk c ret g J RT r (pc + 1) L (.long (zcfl (zlook σ a) x.toNatClampNeg) :: st) σ) := zcx_l
theorem zs_aald {a : Nat} {x : Int32} {st : List Value} : zx f kk c ret g J RT (.aaload :: r) pc L (.int x :: .ref a :: st) σ = (zisr σ[a]? ∧ vp_in x (zcn σ[a]?) ∧ zis (zcfr σ[a]? x.toNatClampNeg) ∧ zx f kk c ret g J RT r (pc + 1) L (.ref (zov 0 (zcfr σ[a]? x.toNatClampNeg)) :: st) σ) := by
  show (zcr' σ[a]? fun n h => vp_in x n ∧ zo (h x.toNatClampNeg) fun b => _) = _
  rw [zcx_r, zox 0]
  rfl
theorem zs_iast {a : Nat} {x v : Int32} {st : List Value} : zx f kk c ret g J RT (.iastore :: r) pc L (.int v :: .int x :: .ref a :: st) σ = (zisi σ[a]? ∧ vp_in x (zcn σ[a]?) ∧ zx f kk c ret g J RT r (pc + 1) L (st) (σ.set a (.inl (0, zcn σ[a]?, .inl (upd (zcfi σ[a]?) x.toNatClampNeg v))))) := zcx_i
theorem zs_cast {a : Nat} {x v : Int32} {st : List Value} : zx f kk c ret g J RT (.castore :: r) pc L (.int v :: .int x :: .ref a :: st) σ = (zisc σ[a]? ∧ vp_in x (zcn σ[a]?) ∧ zx f kk c ret g J RT r (pc + 1) L (st) (σ.set a (.inl (2, zcn σ[a]?, .inl (upd (zcfi σ[a]?) x.toNatClampNeg (vp_nar .char v)))))) := zcx_c
theorem zs_last {a : Nat} {x : Int32} {v : Int64} {st : List Value} : zx f kk c ret g J RT (.lastore :: r) pc L (.long v :: .int x :: .ref a :: st) σ = (zisl σ[a]? ∧ vp_in x (zcn σ[a]?) ∧ zx f kk c ret g J RT r (pc + 1) L (st) (σ.set a (.inl (1, zcn σ[a]?, .inr (.inl (vp_updL (zcfl σ[a]?) x.toNatClampNeg v)))))) := zcx_l
theorem zs_invstatic {j : Nat} {st : List Value} : zx f kk c ret g J RT (.invokestatic j :: r) pc L (st) σ = (c (3 * j) st σ fun st' σ' => zx f kk c ret g J RT r (pc + 3) L st' σ') := rfl
theorem zs_invvirtual {j : Nat} {st : List Value} : zx f kk c ret g J RT (.invokevirtual j :: r) pc L (st) σ = (c (3 * j + 1) st σ fun st' σ' => zx f kk c ret g J RT r (pc + 3) L st' σ') := rfl
theorem zs_invspecial {j : Nat} {st : List Value} : zx f kk c ret g J RT (.invokespecial j :: r) pc L (st) σ = (c (3 * j + 2) st σ fun st' σ' => zx f kk c ret g J RT r (pc + 3) L st' σ') := rfl
theorem zs_ireturn {x : Int32} : zx f kk c ret g J RT (.ireturn :: r) pc L [.int x] σ = (zret ret x ∧ RT (some (.int x)) σ) := rfl
theorem zs_lreturn {x : Int64} : zx f kk c ret g J RT (.lreturn :: r) pc L [.long x] σ = (ret = some .long ∧ RT (some (.long x)) σ) := rfl
theorem zs_areturn {a : Nat} : zx f kk c ret g J RT (.areturn :: r) pc L [.ref a] σ = (ret = some (.array .long) ∧ RT (some (.ref a)) σ) := rfl
theorem zs_return  : zx f kk c ret g J RT (.return_ :: r) pc L [] σ = (ret = none ∧ RT none σ) := rfl
theorem zs_tsw {d lo hi : Int} {offs : Array Int} {x : Int32} {st : List Value} : zx f kk c ret g J RT (.tableswitch d lo hi offs :: r) pc L (.int x :: st) σ = ((x.toInt < lo ∨ hi < x.toInt → J (ztg pc d) L st σ) ∧ ∀ off, ¬ x.toInt < lo → ¬ hi < x.toInt → offs[(x.toInt - lo).toNat]? = some off → J (ztg pc off) L st σ) := rfl
theorem zs_lsw {d : Int} {ps : Array (Int × Int)} {x : Int32} {st : List Value} : zx f kk c ret g J RT (.lookupswitch d ps :: r) pc L (.int x :: st) σ = (J (ztg pc (Op.lookupswitch.offset ps.toList d x.toInt)) L st σ) := rfl
end Steps
theorem zr_zva0 {L : List (Option Value)} {x : Nat} : zva' (some (.ref x) :: L) 0 = (x) := rfl
theorem zr_zvas {L : List (Option Value)} {q : Option Value} {n : Nat} : zva' (q :: L) (n + 1) = (zva' L n) := rfl
theorem zr_zvai0 {L : List (Option Value)} {x : Nat} : zia' (some (.ref x) :: L) 0 := trivial
theorem zr_zvais {L : List (Option Value)} {q : Option Value} {n : Nat} : zia' (q :: L) (n + 1) = (zia' L n) := rfl
theorem zr_zvi0 {L : List (Option Value)} {x : Int32} : zvi (some (.int x) :: L) 0 = (x) := rfl
theorem zr_zvis {L : List (Option Value)} {q : Option Value} {n : Nat} : zvi (q :: L) (n + 1) = (zvi L n) := rfl
theorem zr_zvii0 {L : List (Option Value)} {x : Int32} : zii (some (.int x) :: L) 0 := trivial
theorem zr_zviis {L : List (Option Value)} {q : Option Value} {n : Nat} : zii (q :: L) (n + 1) = (zii L n) := rfl
theorem zr_zvl0 {L : List (Option Value)} {x : Int64} : zvl (some (.long x) :: L) 0 = (x) := rfl
theorem zr_zvls {L : List (Option Value)} {q : Option Value} {n : Nat} : zvl (q :: L) (n + 1) = (zvl L n) := rfl
theorem zr_zvli0 {L : List (Option Value)} {x : Int64} : zil' (some (.long x) :: L) 0 := trivial
theorem zr_zvlis {L : List (Option Value)} {q : Option Value} {n : Nat} : zil' (q :: L) (n + 1) = (zil' L n) := rfl
theorem zr_zs1_0 {L : List (Option Value)} {q : Option Value} {v : Value} : zs1 (q :: L) 0 v = (some v :: L) := rfl
theorem zr_zs1_1n {L : List (Option Value)} {v : Value} {p : Option Value} : zs1 (none :: p :: L) 1 v = (none :: some v :: L) := rfl
theorem zr_zs1_1i {L : List (Option Value)} {v : Value} {p : Option Value} {x : Int32} : zs1 (some (.int x) :: p :: L) 1 v = (some (.int x) :: some v :: L) := rfl
theorem zr_zs1_1a {L : List (Option Value)} {v : Value} {p : Option Value} {x : Nat} : zs1 (some (.ref x) :: p :: L) 1 v = (some (.ref x) :: some v :: L) := rfl
theorem zr_zs1_1l {L : List (Option Value)} {v : Value} {p : Option Value} {x : Int64} : zs1 (some (.long x) :: p :: L) 1 v = (none :: some v :: L) := rfl
theorem zr_zs1_s {L : List (Option Value)} {q : Option Value} {v : Value} {n : Nat} : zs1 (q :: L) (n + 2) v = (q :: zs1 L (n + 1) v) := rfl
theorem zr_zs2_0 {L : List (Option Value)} {q : Option Value} {v : Value} {p : Option Value} : zs2 (q :: p :: L) 0 v = (some v :: none :: L) := rfl
theorem zr_zs2_1n {L : List (Option Value)} {v : Value} {p p2 : Option Value} : zs2 (none :: p :: p2 :: L) 1 v = (none :: some v :: none :: L) := rfl
theorem zr_zs2_1i {L : List (Option Value)} {v : Value} {p p2 : Option Value} {x : Int32} : zs2 (some (.int x) :: p :: p2 :: L) 1 v = (some (.int x) :: some v :: none :: L) := rfl
theorem zr_zs2_1a {L : List (Option Value)} {v : Value} {p p2 : Option Value} {x : Nat} : zs2 (some (.ref x) :: p :: p2 :: L) 1 v = (some (.ref x) :: some v :: none :: L) := rfl
theorem zr_zs2_1l {L : List (Option Value)} {v : Value} {p p2 : Option Value} {x : Int64} : zs2 (some (.long x) :: p :: p2 :: L) 1 v = (none :: some v :: none :: L) := rfl
theorem zr_zs2_s {L : List (Option Value)} {q : Option Value} {v : Value} {n : Nat} : zs2 (q :: L) (n + 2) v = (q :: zs2 L (n + 1) v) := rfl
theorem zr_f0  : (0 : Fin 4).val = (0) := rfl
theorem zr_f1  : (1 : Fin 4).val = (1) := rfl
theorem zr_f2  : (2 : Fin 4).val = (2) := rfl
theorem zr_f3  : (3 : Fin 4).val = (3) := rfl
theorem zr_kp (n : Nat) : zkc (no_index (OfNat.ofNat n)) = nI (OfNat.ofNat n) := rfl
theorem zr_k0  : zkc 0 = (nI 0) := rfl
theorem zr_k1  : zkc 1 = (nI 1) := rfl
theorem zr_kn (n : Nat) : zkc (-(no_index (OfNat.ofNat (n + 1)))) = -(nI (n + 1)) := rfl
theorem zr_km1  : zkc (-1) = (-(nI 1)) := rfl
theorem zr_km2  : zkc (-2) = (-(nI 2)) := rfl
theorem zr_km4  : zkc (-4) = (-(nI 4)) := rfl
theorem zr_km8  : zkc (-8) = (-(nI 8)) := rfl
theorem zr_km16  : zkc (-16) = (-(nI 16)) := rfl
theorem zr_tp (pc n : Nat) : ztg pc (no_index (OfNat.ofNat n)) = pc + (OfNat.ofNat n) := rfl
theorem zr_tn (pc n : Nat) : ztg pc (-(no_index (OfNat.ofNat n))) = pc - (OfNat.ofNat n) := by
  cases n <;> rfl
theorem zr_kl {x : Int64} : zkvl (some (.long x)) = (x) := rfl
theorem zr_ki {x : Int32} : zkvi (some (.int x)) = (x) := rfl
theorem zr_kil {x : Int64} : zkisl (some (.long x)) := trivial
theorem zr_kii {x : Int32} : zkisi (some (.int x)) := trivial
theorem zr_ov {α : Type} {d v : α} : zov d (some v) = (v) := rfl
theorem zr_is {α : Type} {v : α} : zis (some v) := trivial
theorem zr_cn {k n : Nat} {h : (Nat → Int32) ⊕ (Nat → Int64) ⊕ (Nat → UInt32) ⊕ (Nat → UInt64) ⊕ (Nat → Option Nat)} : zcn (some (.inl (k, n, h))) = (n) := rfl
theorem zr_cfi {k n : Nat} {h : Nat → Int32} : zcfi (some (.inl (k, n, .inl h))) = (h) := rfl
theorem zr_cfl {k n : Nat} {h : Nat → Int64} : zcfl (some (.inl (k, n, .inr (.inl h)))) = (h) := rfl
theorem zr_cfr {k n : Nat} {h : Nat → Option Nat} : zcfr (some (.inl (k, n, .inr (.inr (.inr (.inr h)))))) = (h) := rfl
theorem zr_cfo {ci : Nat} {fs : List Value} : zcfo (some (.inr (ci, fs))) = (fs) := rfl
theorem zr_isi {n : Nat} {h : Nat → Int32} : zisi (some (.inl (0, n, .inl h))) := trivial
theorem zr_isl {n : Nat} {h : Nat → Int64} : zisl (some (.inl (1, n, .inr (.inl h)))) := trivial
theorem zr_isc {n : Nat} {h : Nat → Int32} : zisc (some (.inl (2, n, .inl h))) := trivial
theorem zr_isr {n : Nat} {h : Nat → Option Nat} : zisr (some (.inl (3, n, .inr (.inr (.inr (.inr h)))))) := trivial
theorem zr_isn0 {n : Nat} {h : Nat → Int32} : zisn (some (.inl (0, n, .inl h))) := trivial
theorem zr_isn1 {n : Nat} {h : Nat → Int64} : zisn (some (.inl (1, n, .inr (.inl h)))) := trivial
theorem zr_isn2 {n : Nat} {h : Nat → Int32} : zisn (some (.inl (2, n, .inl h))) := trivial
theorem zr_iso {ci : Nat} {fs : List Value} : ziso (some (.inr (ci, fs))) ci := ⟨rfl, trivial⟩
theorem zr_reti {x : Int32} : zret (some .int) x := trivial
theorem zr_ctm {q : Nat × Nat × zSpec} {t : List (Nat × Nat × zSpec)} {key : Nat} {st : List Value} {σ : List va_E} {K : List Value → List va_E → Prop} : zct (q :: t) key st σ K = (if key = q.1 then zcs q.2.1 q.2.2 st σ K else zct t key st σ K) := rfl
def zcat (st : List Value) : Nat := (st.map fun v => v.category).sum
theorem zr_cat0  : zcat [] = (0) := rfl
theorem zr_cati {x : Int32} {st : List Value} : zcat (.int x :: st) = (zcat st + 1) := by simp [zcat, Value.category, Nat.add_comm]
theorem zr_cata {x : Nat} {st : List Value} : zcat (.ref x :: st) = (zcat st + 1) := by simp [zcat, Value.category, Nat.add_comm]
theorem zr_catl {x : Int64} {st : List Value} : zcat (.long x :: st) = (zcat st + 2) := by simp [zcat, Value.category, Nat.add_comm]
theorem zr_cs0 {S : zSpec} {st : List Value} {σ : List va_E} {K : List Value → List va_E → Prop} : zcs 0 S (st) σ K = (zcat st ≤ 8 ∧ S [] σ (fun r σ' => K (r.toList ++ st) σ')) := by simp [zcs, zcat]
theorem zr_cs1 {S : zSpec} {v0 : Value} {st : List Value} {σ : List va_E} {K : List Value → List va_E → Prop} : zcs 1 S (v0 :: st) σ K = (zcat st ≤ 8 ∧ S [v0] σ (fun r σ' => K (r.toList ++ st) σ')) := by simp [zcs, zcat]
theorem zr_cs2 {S : zSpec} {v0 v1 : Value} {st : List Value} {σ : List va_E} {K : List Value → List va_E → Prop} : zcs 2 S (v0 :: v1 :: st) σ K = (zcat st ≤ 8 ∧ S [v1, v0] σ (fun r σ' => K (r.toList ++ st) σ')) := by simp [zcs, zcat]
theorem zr_cs3 {S : zSpec} {v0 v1 v2 : Value} {st : List Value} {σ : List va_E} {K : List Value → List va_E → Prop} : zcs 3 S (v0 :: v1 :: v2 :: st) σ K = (zcat st ≤ 8 ∧ S [v2, v1, v0] σ (fun r σ' => K (r.toList ++ st) σ')) := by simp [zcs, zcat]
theorem zr_cs4 {S : zSpec} {v0 v1 v2 v3 : Value} {st : List Value} {σ : List va_E} {K : List Value → List va_E → Prop} : zcs 4 S (v0 :: v1 :: v2 :: v3 :: st) σ K = (zcat st ≤ 8 ∧ S [v3, v2, v1, v0] σ (fun r σ' => K (r.toList ++ st) σ')) := by simp [zcs, zcat]
theorem zr_cs5 {S : zSpec} {v0 v1 v2 v3 v4 : Value} {st : List Value} {σ : List va_E} {K : List Value → List va_E → Prop} : zcs 5 S (v0 :: v1 :: v2 :: v3 :: v4 :: st) σ K = (zcat st ≤ 8 ∧ S [v4, v3, v2, v1, v0] σ (fun r σ' => K (r.toList ++ st) σ')) := by simp [zcs, zcat]
theorem zr_cs6 {S : zSpec} {v0 v1 v2 v3 v4 v5 : Value} {st : List Value} {σ : List va_E} {K : List Value → List va_E → Prop} : zcs 6 S (v0 :: v1 :: v2 :: v3 :: v4 :: v5 :: st) σ K = (zcat st ≤ 8 ∧ S [v5, v4, v3, v2, v1, v0] σ (fun r σ' => K (r.toList ++ st) σ')) := by simp [zcs, zcat]
