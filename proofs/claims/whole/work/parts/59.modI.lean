/-! the reference: what bits answers; ask, reckon -/
theorem tb_n (x i : Nat) : x / 2 ^ i % 2 = (x.testBit i).toNat := (Nat.toNat_testBit x i).symm
theorem pv_bits {f : Nat → Nat} {v : Nat} (hv : v < 4294967296 ^ 8) (h : ∀ j, j < 256 → f j = v / 2 ^ j % 2) : pv 2 f 256 = v := by
  rw [pv_congr (e := dg 2 v) (fun j hj => h j hj), pv_dg, Nat.mod_eq_of_lt (by rw [show (2 : Nat) ^ 256 = 4294967296 ^ 8 by decide]; exact hv)]
theorem b_and (a b : Bool) : a.toNat &&& b.toNat = (a && b).toNat := by cases a <;> cases b <;> rfl
theorem b_or (a b : Bool) : a.toNat ||| b.toNat = (a || b).toNat := by cases a <;> cases b <;> rfl
theorem b_xor (a b : Bool) : a.toNat ^^^ b.toNat = (a ^^ b).toNat := by cases a <;> cases b <;> rfl
theorem b_not (a : Bool) : 1 - a.toNat = (!a).toNat := by cases a <;> rfl
theorem p256 : (4294967296 : Nat) ^ 8 = 2 ^ 256 := by decide
theorem bfv {op x y : Nat} (h1 : 17 ≤ op) (h2 : op < 25) (h21 : op ≠ 21) (hx : x < 4294967296 ^ 8) (hy : y < 4294967296 ^ 8) : pv 2 (bf op (min x 256) x y) 256 = if op = 20 then wop1 op x else wop2 op x y := by
  have s3 : 22 ≤ op → wop2 op x y = shs op (min x 256) y := fun q => by
    unfold wop2
    rw [if_neg (by omega), if_neg (by omega), if_neg (by omega), if_pos q]
  have s4 : op < 20 → wop2 op x y = bitop op x y := fun q => by
    unfold wop2
    rw [if_neg (by omega), if_neg (by omega), if_pos (by omega)]
  have hs : min x 256 ≤ 256 := Nat.min_le_right _ _
  rcases (show op = 17 ∨ op = 18 ∨ op = 19 ∨ op = 20 ∨ op = 22 ∨ op = 23 ∨ op = 24 by omega) with q | q | q | q | q | q | q
  · rw [if_neg (by omega), s4 (by omega)]
    subst q
    unfold bitop
    rw [if_pos rfl]
    refine pv_bits (by rw [p256]; exact Nat.and_lt_two_pow _ (by rw [← p256]; exact hy)) (fun j hj => ?_)
    unfold bf
    rw [if_neg (by decide), if_neg (by decide), if_pos rfl, tb_n, tb_n, tb_n, b_and, Nat.testBit_and]
  · rw [if_neg (by omega), s4 (by omega)]
    subst q
    unfold bitop
    rw [if_neg (by decide), if_pos rfl]
    refine pv_bits (by rw [p256] at hx hy ⊢; exact Nat.or_lt_two_pow hx hy) (fun j hj => ?_)
    unfold bf
    rw [if_neg (by decide), if_neg (by decide), if_neg (by decide), if_pos rfl, tb_n, tb_n, tb_n, b_or, Nat.testBit_or]
  · rw [if_neg (by omega), s4 (by omega)]
    subst q
    unfold bitop
    rw [if_neg (by decide), if_neg (by decide)]
    refine pv_bits (by rw [p256] at hx hy ⊢; exact Nat.xor_lt_two_pow hx hy) (fun j hj => ?_)
    unfold bf
    rw [if_neg (by decide), if_neg (by decide), if_neg (by decide), if_neg (by decide), if_pos rfl, tb_n, tb_n, tb_n, b_xor, Nat.testBit_xor]
  · rw [if_pos q]
    subst q
    unfold wop1
    rw [if_neg (by decide)]
    refine pv_bits (by omega) (fun j hj => ?_)
    unfold bf
    rw [if_neg (by decide), if_neg (by decide), if_neg (by decide), if_neg (by decide), if_neg (by decide), tb_n, tb_n, b_not, show 4294967296 ^ 8 - 1 - x = 2 ^ 256 - (x + 1) by rw [p256, Nat.sub_sub, Nat.add_comm], Nat.testBit_two_pow_sub_succ (by rw [← p256]; exact hx), decide_eq_true hj, Bool.true_and]
  · rw [if_neg (by omega), s3 (by omega)]
    generalize min x 256 = s at *
    subst q
    unfold shs
    rw [if_pos rfl]
    refine pv_bits (Nat.mod_lt _ (Nat.pow_pos (by decide))) (fun j hj => ?_)
    unfold bf
    rw [if_pos rfl, p256, tb_n (y * 2 ^ s % 2 ^ 256), Nat.testBit_mod_two_pow, decide_eq_true hj, Bool.true_and, Nat.mul_comm, Nat.testBit_two_pow_mul, tb_n]
    by_cases q : s ≤ j
    · rw [if_pos q, decide_eq_true q, Bool.true_and]
    · rw [if_neg q, decide_eq_false q, Bool.false_and]; rfl
  · rw [if_neg (by omega), s3 (by omega)]
    generalize min x 256 = s at *
    subst q
    unfold shs
    rw [if_neg (by decide), if_neg (by omega), Nat.zero_mul, Nat.zero_add]
    refine pv_bits (Nat.mod_lt _ (Nat.pow_pos (by decide))) (fun j hj => ?_)
    unfold bf
    rw [if_neg (by decide), if_pos (by decide), p256, Nat.pow_add 2 256 s, ← Nat.div_div_eq_div_mul, Nat.mul_div_cancel _ (Nat.pow_pos (by decide)), tb_n, tb_n (y / 2 ^ s % 2 ^ 256), Nat.testBit_mod_two_pow, decide_eq_true hj, Bool.true_and, Nat.testBit_div_two_pow]
    by_cases q : j + s < 256
    · rw [if_pos q]
    · rw [if_neg q, if_neg (by decide), Nat.testBit_lt_two_pow (Nat.lt_of_lt_of_le (by rw [← p256]; exact hy) (Nat.pow_le_pow_right (by decide) (by omega)))]; rfl
  · rw [if_neg (by omega), s3 (by omega)]
    generalize min x 256 = s at *
    subst q
    unfold shs
    rw [if_neg (by decide)]
    refine pv_bits (Nat.mod_lt _ (Nat.pow_pos (by decide))) (fun j hj => ?_)
    unfold bf
    rw [if_neg (by decide), if_pos (by decide), if_pos rfl]
    have hy' : y < 2 ^ 256 := by rw [← p256]; exact hy
    have e1 : ∀ F : Nat, ((F * 4294967296 ^ 8 + y) * 4294967296 ^ 8 / 2 ^ (256 + s) % 4294967296 ^ 8) / 2 ^ j % 2 = ((2 ^ 256 * F + y).testBit (j + s)).toNat := by
      intro F
      rw [p256, Nat.pow_add 2 256 s, ← Nat.div_div_eq_div_mul, Nat.mul_div_cancel _ (Nat.pow_pos (by decide)), tb_n, Nat.testBit_mod_two_pow, decide_eq_true hj, Bool.true_and, Nat.testBit_div_two_pow, Nat.mul_comm]
    rw [e1, Nat.testBit_two_pow_mul_add _ hy', tb_n, tb_n]
    by_cases q : j + s < 256
    · rw [if_pos q, if_pos q]
    · rw [if_neg q, if_neg q]
      have hb : y.testBit 255 = decide (4294967296 ^ 8 ≤ 2 * y) := by
        rw [Nat.testBit_eq_decide_div_mod_eq]
        have e : (4294967296 : Nat) ^ 8 = 2 * 2 ^ 255 := by decide
        rw [e] at hy ⊢
        generalize (2 : Nat) ^ 255 = W at *
        by_cases g : W ≤ y
        · have : y / W = 1 := Nat.div_eq_of_lt_le (by omega) (by omega)
          rw [this, decide_eq_true (show 2 * W ≤ 2 * y by omega)]; rfl
        · rw [Nat.div_eq_of_lt (by omega), decide_eq_false (show ¬ 2 * W ≤ 2 * y by omega)]; rfl
      rw [hb]
      by_cases g : 4294967296 ^ 8 ≤ 2 * y
      · rw [decide_eq_true g, if_pos ⟨rfl, g⟩, show (4294967296 : Nat) ^ 9 - 1 = 2 ^ 288 - 1 by decide, Nat.testBit_two_pow_sub_one, decide_eq_true (by omega)]
      · rw [decide_eq_false g, if_neg (fun z => g z.2), Nat.zero_testBit]
