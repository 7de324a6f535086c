/-! ===== lN n to 2^64: shifts, and, or, masks, one bit ===== -/
theorem wb_tb (n : Nat) : (lN n).toBitVec = BitVec.ofNat 64 n := rfl
theorem wb_inj {a b : Int64} (h : a.toBitVec = b.toBitVec) : a = b := Int64.toBitVec_inj.mp h
theorem wb_tn {n : Nat} (h : n < 2 ^ 64) : (lN n).toBitVec.toNat = n := by rw [wb_tb, BitVec.toNat_ofNat, Nat.mod_eq_of_lt h]
theorem wb_of (x : Int64) : ∃ n, n < 2 ^ 64 ∧ x = lN n := ⟨x.toBitVec.toNat, x.toBitVec.isLt, wb_inj (by rw [wb_tb]; simp)⟩
theorem wb_of32 (x : Int32) : ∃ n, n < 2 ^ 32 ∧ x = nI n := ⟨x.toBitVec.toNat, x.toBitVec.isLt, Int32.toBitVec_inj.mp (by show _ = BitVec.ofNat 32 _; simp)⟩
theorem wb_c : ∀ k, k < 64 → ((nI k).toInt64 &&& 63) = lN k := by decide +kernel
theorem wb_cu : ∀ k, k < 64 → ((nI k).toInt64.toUInt64 &&& Int64.toUInt64 63) = UInt64.ofNat k := by decide +kernel
theorem wb_sm : ∀ k, k < 64 → (BitVec.ofNat 64 k).smod 64 = BitVec.ofNat 64 k := by decide +kernel
theorem wb_pw {a b : Nat} (h : a ≤ b) : 2 ^ b = 2 ^ a * 2 ^ (b - a) := by rw [← Nat.pow_add]; congr 1; omega
theorem wb_lt2 {a b : Nat} (h : a < b) : 2 ^ a < 2 ^ b := Nat.pow_lt_pow_right (by decide) h
theorem wb_mod (n : Nat) : lN n = lN (n % 2 ^ 64) := wb_inj (by rw [wb_tb, wb_tb]; apply BitVec.eq_of_toNat_eq; rw [BitVec.toNat_ofNat, BitVec.toNat_ofNat, Nat.mod_mod])
theorem wb_shr {n k : Nat} (hn : n < 2 ^ 64) (hk : k < 64) : ((lN n).toUInt64 >>> ((nI k).toInt64.toUInt64 &&& Int64.toUInt64 63)).toInt64 = lN (n / 2 ^ k) := by
  rw [wb_cu k hk]
  apply wb_inj
  apply BitVec.eq_of_toNat_eq
  show ((lN n).toUInt64 >>> UInt64.ofNat k).toNat = (BitVec.ofNat 64 _).toNat
  have h1 : (UInt64.ofNat k).toNat = k := by
    show (BitVec.ofNat 64 k).toNat = k
    rw [BitVec.toNat_ofNat, Nat.mod_eq_of_lt (by omega)]
  have h2 : (lN n).toUInt64.toNat = n := wb_tn hn
  rw [UInt64.toNat_shiftRight, h1, h2, Nat.mod_eq_of_lt hk, Nat.shiftRight_eq_div_pow, BitVec.toNat_ofNat, Nat.mod_eq_of_lt (Nat.lt_of_le_of_lt (Nat.div_le_self _ _) hn)]
theorem wb_shl (n : Nat) {k : Nat} (hk : k < 64) : lN n <<< ((nI k).toInt64 &&& 63) = lN (n * 2 ^ k) := by
  rw [wb_c k hk]
  apply wb_inj
  rw [Int64.toBitVec_shiftLeft, wb_tb, wb_tb, wb_tb, wb_sm k hk]
  apply BitVec.eq_of_toNat_eq
  rw [BitVec.shiftLeft_eq', BitVec.toNat_shiftLeft, BitVec.toNat_ofNat, BitVec.toNat_ofNat, BitVec.toNat_ofNat, Nat.mod_eq_of_lt (show k < 2 ^ 64 by omega), Nat.shiftLeft_eq, Nat.mul_mod, Nat.mod_mod, ← Nat.mul_mod]
theorem wb_and {a b : Nat} (ha : a < 2 ^ 64) (hb : b < 2 ^ 64) : lN a &&& lN b = lN (a &&& b) := by
  apply wb_inj
  rw [Int64.toBitVec_and, wb_tb, wb_tb, wb_tb]
  apply BitVec.eq_of_toNat_eq
  rw [BitVec.toNat_and, BitVec.toNat_ofNat, BitVec.toNat_ofNat, BitVec.toNat_ofNat, Nat.mod_eq_of_lt ha, Nat.mod_eq_of_lt hb, Nat.mod_eq_of_lt (Nat.and_lt_two_pow _ hb)]
theorem wb_or {a b : Nat} (ha : a < 2 ^ 64) (hb : b < 2 ^ 64) : lN a ||| lN b = lN (a ||| b) := by
  apply wb_inj
  rw [Int64.toBitVec_or, wb_tb, wb_tb, wb_tb]
  apply BitVec.eq_of_toNat_eq
  rw [BitVec.toNat_or, BitVec.toNat_ofNat, BitVec.toNat_ofNat, BitVec.toNat_ofNat, Nat.mod_eq_of_lt ha, Nat.mod_eq_of_lt hb, Nat.mod_eq_of_lt (Nat.or_lt_two_pow ha hb)]
theorem wb_mask {n k : Nat} (hn : n < 2 ^ 64) (hk : k < 64) : lN n &&& lN (2 ^ k - 1) = lN (n % 2 ^ k) := by
  rw [wb_and hn (by have := wb_lt2 hk; omega), Nat.and_two_pow_sub_one_eq_mod]
theorem wb_a1 {n : Nat} (hn : n < 2 ^ 64) : lN n &&& 1 = lN (n % 2) := wb_mask (k := 1) hn (by decide)
theorem wb_bit {n k : Nat} (hn : n < 2 ^ 64) (hk : k < 64) : ((lN n).toUInt64 >>> ((nI k).toInt64.toUInt64 &&& Int64.toUInt64 63)).toInt64 &&& 1 = lN (n / 2 ^ k % 2) := by
  rw [wb_shr hn hk, wb_a1 (Nat.lt_of_le_of_lt (Nat.div_le_self _ _) hn)]
theorem wb_xor {q k : Nat} (hk : k < 63) (h : 2 ^ k ≤ q) (h2 : q < 2 ^ (k + 1)) : lN q ^^^ lN (2 ^ k) = lN (q - 2 ^ k) := by
  obtain ⟨r, rfl⟩ : ∃ r, q = 2 ^ k + r := ⟨q - 2 ^ k, by omega⟩
  have hr : r < 2 ^ k := by rw [Nat.pow_succ] at h2; omega
  have hx : (2 ^ k + r) ^^^ 2 ^ k = r := by
    apply Nat.eq_of_testBit_eq
    intro i
    rw [Nat.testBit_xor, Nat.testBit_two_pow]
    rcases Nat.lt_trichotomy i k with h | h | h
    · rw [Nat.testBit_two_pow_add_gt h]
      simp [show ¬ k = i by omega]
    · subst h
      rw [Nat.testBit_two_pow_add_eq]
      simp
    · have a1 : 2 ^ (k + 1) ≤ 2 ^ i := Nat.pow_le_pow_right (by decide) h
      rw [Nat.testBit_lt_two_pow (show 2 ^ k + r < 2 ^ i by omega), Nat.testBit_lt_two_pow (show r < 2 ^ i by omega)]
      simp [show ¬ k = i by omega]
  have b1 := wb_lt2 (show k + 1 < 64 by omega)
  have b2 := wb_lt2 (show k < 64 by omega)
  apply wb_inj
  rw [Int64.toBitVec_xor, wb_tb, wb_tb, wb_tb]
  apply BitVec.eq_of_toNat_eq
  rw [BitVec.toNat_xor, BitVec.toNat_ofNat, BitVec.toNat_ofNat, BitVec.toNat_ofNat, Nat.mod_eq_of_lt (by omega : 2 ^ k + r < 2 ^ 64), Nat.mod_eq_of_lt b2, hx, Nat.add_sub_cancel_left, Nat.mod_eq_of_lt (by omega)]
/-! ===== lN: masks, 'or' of parts that don't overlap is a sum ===== -/
theorem u_tn {n : Nat} (h : n < 2 ^ 64) : (UInt64.ofNat n).toNat = n := Nat.mod_eq_of_lt h
theorem g_and {a b c : Nat} (ha : a < 2 ^ 64) (hb : b < 2 ^ 64) (hc : a &&& b = c) : lN a &&& lN b = lN c := by
  subst hc
  have h : UInt64.ofNat a &&& UInt64.ofNat b = UInt64.ofNat (a &&& b) := UInt64.toNat_inj.mp (by rw [UInt64.toNat_and, u_tn ha, u_tn hb, u_tn (Nat.and_lt_two_pow a hb)])
  have h2 := congrArg UInt64.toInt64 h
  exact h2
theorem g_and1 {a : Nat} (ha : a < 2 ^ 64) : lN a &&& 1 = lN (a % 2) := g_and (b := 1) ha (by decide) (Nat.and_two_pow_sub_one_eq_mod a 1)
theorem g_mask {a s p : Nat} (hp : 2 ^ s = p) (hs : s < 64) (ha : a < 2 ^ 64) : lN a &&& lN (p - 1) = lN (a % p) := by
  subst hp
  have := Nat.pow_lt_pow_right (show 1 < 2 by decide) hs
  exact g_and ha (by omega) (Nat.and_two_pow_sub_one_eq_mod a s)
theorem g_or {k p a b : Nat} (hp : 2 ^ k = p) (ha : a < p) (h : b * p + a < 2 ^ 64) : lN (b * p) ||| lN a = lN (b * p + a) := by
  subst hp
  have h1 : b * 2 ^ k ||| a = b * 2 ^ k + a := by rw [← Nat.shiftLeft_eq, Nat.shiftLeft_add_eq_or_of_lt ha]
  have h3 : UInt64.ofNat (b * 2 ^ k) ||| UInt64.ofNat a = UInt64.ofNat (b * 2 ^ k + a) := UInt64.toNat_inj.mp (by rw [UInt64.toNat_or, u_tn (by omega), u_tn (by omega), u_tn h, h1])
  have h2 := congrArg UInt64.toInt64 h3
  exact h2
theorem g_or' {k p a b : Nat} (hp : 2 ^ k = p) (ha : a < p) (h : a + b * p < 2 ^ 64) : lN a ||| lN (b * p) = lN (a + b * p) := by
  rw [Int64.or_comm, g_or hp ha (by omega), Nat.add_comm]
theorem g_ushr {a k p : Nat} {y : UInt64} (hy : y = UInt64.ofNat k) (hk : k < 64) (hp : 2 ^ k = p) (ha : a < 2 ^ 64) : ((lN a).toUInt64 >>> y).toInt64 = lN (a / p) := by
  subst hy hp
  have h : UInt64.ofNat a >>> UInt64.ofNat k = UInt64.ofNat (a / 2 ^ k) := UInt64.toNat_inj.mp (by rw [UInt64.toNat_shiftRight, u_tn ha, u_tn (by omega), u_tn (Nat.lt_of_le_of_lt (Nat.div_le_self _ _) ha), Nat.mod_eq_of_lt hk, Nat.shiftRight_eq_div_pow])
  have h2 := congrArg UInt64.toInt64 h
  exact h2
theorem g_shl {a k p : Nat} {y : Int64} (hy : y.toBitVec.smod 64 = BitVec.ofNat 64 k) (hk : k < 64) (hp : 2 ^ k = p) (ha : a < 2 ^ 64) : lN a <<< y = lN (a * p) := by
  subst hp
  apply Int64.toBitVec_inj.mp
  rw [Int64.toBitVec_shiftLeft, hy]
  apply BitVec.eq_of_toNat_eq
  have hb : (lN a).toBitVec.toNat = a := Nat.mod_eq_of_lt ha
  have hk' : (BitVec.ofNat 64 k).toNat = k := Nat.mod_eq_of_lt (by omega)
  have h : ((lN a).toBitVec <<< BitVec.ofNat 64 k).toNat = (a * 2 ^ k) % 2 ^ 64 := by simp only [BitVec.shiftLeft_eq', BitVec.toNat_shiftLeft, hb, hk', Nat.shiftLeft_eq]
  exact h
/-! numbers by their digits to a base b -/
/-- the digit at j -/
def dg (b v j : Nat) : Nat := v / b ^ j % b
/-- the number of the first t digits -/
def pv (b : Nat) (d : Nat → Nat) : Nat → Nat
  | 0 => 0
  | t + 1 => pv b d t + d t * b ^ t
def ud (d : Nat → Nat) (k x : Nat) : Nat → Nat := fun j => if j = k then x else d j
theorem dg_lt {b : Nat} (hb : 0 < b) (v j : Nat) : dg b v j < b := Nat.mod_lt _ hb
theorem ud_self (d : Nat → Nat) (k x : Nat) : ud d k x k = x := if_pos rfl
theorem ud_ne {d : Nat → Nat} {k x j : Nat} (h : j ≠ k) : ud d k x j = d j := if_neg h
theorem pv_congr {b : Nat} {d e : Nat → Nat} : ∀ {t : Nat}, (∀ j, j < t → d j = e j) → pv b d t = pv b e t
  | 0, _ => rfl
  | t + 1, h => by
    show pv b d t + d t * b ^ t = pv b e t + e t * b ^ t
    rw [pv_congr (fun j hj => h j (by omega)), h t (by omega)]
theorem pv_ud {b : Nat} {d : Nat → Nat} {k x t : Nat} (h : t ≤ k) : pv b (ud d k x) t = pv b d t := pv_congr (fun j hj => ud_ne (by omega))
theorem pv_lt {b : Nat} {d : Nat → Nat} : ∀ {t : Nat}, (∀ j, j < t → d j < b) → pv b d t < b ^ t
  | 0, _ => by simp [pv]
  | t + 1, h => by
    have h1 := pv_lt (t := t) (fun j hj => h j (by omega))
    have h2 := h t (by omega)
    show pv b d t + d t * b ^ t < b ^ (t + 1)
    have h3 : (d t + 1) * b ^ t ≤ b * b ^ t := Nat.mul_le_mul_right _ h2
    rw [Nat.pow_succ, Nat.mul_comm (b ^ t) b]
    rw [Nat.add_mul, Nat.one_mul] at h3
    omega
theorem pv_dg (b v : Nat) : ∀ t, pv b (dg b v) t = v % b ^ t
  | 0 => by simp [pv, Nat.mod_one]
  | t + 1 => by
    show pv b (dg b v) t + dg b v t * b ^ t = _
    rw [pv_dg b v t, Nat.pow_succ, Nat.mod_mul]
    unfold dg
    rw [Nat.mul_comm]
theorem pv_cut {b : Nat} (hb : 0 < b) {d : Nat → Nat} {n : Nat} : ∀ {t : Nat}, (∀ j, j < n → d j < b) → n ≤ t → pv b d t % b ^ n = pv b d n := by
  intro t h hn
  induction t with
  | zero =>
    have : n = 0 := by omega
    subst this
    simp [pv, Nat.mod_one]
  | succ t ih =>
    by_cases hc : n = t + 1
    · subst hc
      exact Nat.mod_eq_of_lt (pv_lt h)
    · show (pv b d t + d t * b ^ t) % b ^ n = _
      have e : b ^ t = b ^ n * b ^ (t - n) := by rw [← Nat.pow_add]; congr 1; omega
      rw [e, show d t * (b ^ n * b ^ (t - n)) = b ^ n * (d t * b ^ (t - n)) by rw [Nat.mul_left_comm], Nat.add_mul_mod_self_left]
      exact ih (by omega)
theorem dg_pv {b : Nat} (hb : 0 < b) {d : Nat → Nat} {n : Nat} (h : ∀ j, j < n → d j < b) {j : Nat} (hj : j < n) : dg b (pv b d n) j = d j := by
  have h1 : pv b d n % b ^ (j + 1) = pv b d (j + 1) := pv_cut hb (fun i hi => h i (by omega)) (by omega)
  unfold dg
  have h2 : pv b d n / b ^ j % b = pv b d n % b ^ (j + 1) / b ^ j := by
    rw [Nat.pow_succ, Nat.mod_mul_right_div_self]
  rw [h2, h1]
  show (pv b d j + d j * b ^ j) / b ^ j = d j
  rw [Nat.mul_comm, Nat.add_mul_div_left _ _ (Nat.pow_pos hb), Nat.div_eq_of_lt (pv_lt (fun i hi => h i (by omega))), Nat.zero_add]
theorem dg_mod {b : Nat} {v n j : Nat} (hj : j < n) : dg b (v % b ^ n) j = dg b v j := by
  unfold dg
  have e : b ^ n = b ^ j * b ^ (n - j) := by rw [← Nat.pow_add]; congr 1; omega
  rw [e, Nat.mod_mul_right_div_self]
  have e2 : b ^ (n - j) = b * b ^ (n - j - 1) := by rw [Nat.mul_comm, ← Nat.pow_succ]; congr 1; omega
  rw [e2, Nat.mod_mul_right_mod]
theorem dg_zero (b j : Nat) : dg b 0 j = 0 := by simp [dg]
/-- two numbers with the same digits -/
theorem dg_ext {b v w n : Nat} (hv : v < b ^ n) (hw : w < b ^ n) (h : ∀ j, j < n → dg b v j = dg b w j) : v = w := by
  have h1 := pv_dg b v n
  have h2 := pv_dg b w n
  rw [Nat.mod_eq_of_lt hv] at h1
  rw [Nat.mod_eq_of_lt hw] at h2
  rw [← h1, ← h2]
  exact pv_congr h
/-! rows of digits of 32 bits in the store -/
abbrev BB : Nat := 4294967296
/-- an array of longs that hold these numbers -/
abbrev LD (n : Nat) (d : Nat → Nat) : va_E := .inl (1, n, .inr (.inl (fun j => lN (d j))))
/-- the row of the number v -/
abbrev LR (n v : Nat) : va_E := LD n (dg 4294967296 v)
theorem LD_upd (d : Nat → Nat) (k x : Nat) : vp_updL (fun j => lN (d j)) k (lN x) = fun j => lN (ud d k x j) := by
  funext j
  unfold vp_updL ud
  by_cases h : j = k
  · rw [if_pos h, if_pos h]
  · rw [if_neg h, if_neg h]
theorem LD_sim {n : Nat} {d e : Nat → Nat} (h : ∀ j, j < n → d j = e j) : zsim (LD n d) (LD n e) := zsim_l (fun j hj => by rw [h j hj])
theorem zk_in {σ : List va_E} {i : Nat} {q : va_E} (h : σ[i]? = some q) : zlook σ i = some q := by unfold zlook; rw [h]
theorem zk_lt {σ : List va_E} {i : Nat} {q : va_E} (h : σ[i]? = some q) : i < σ.length := (List.getElem?_eq_some_iff.mp h).1
theorem zk_self {σ : List va_E} {i : Nat} {q q0 : va_E} (h : σ[i]? = some q0) : (σ.set i q)[i]? = some q := List.getElem?_set_self (zk_lt h)
theorem zk_selfL {σ : List va_E} {i : Nat} {q q0 : va_E} (h : σ[i]? = some q0) : zlook (σ.set i q) i = some q := zk_in (zk_self h)
theorem zk_ne {σ : List va_E} {i j : Nat} {q : va_E} (h : i ≠ j) : (σ.set i q)[j]? = σ[j]? := List.getElem?_set_ne h
theorem zk_neL {σ : List va_E} {i j : Nat} {q : va_E} (h : i ≠ j) : zlook (σ.set i q) j = zlook σ j := by unfold zlook; rw [zk_ne h]
theorem zk_same {σ : List va_E} {i : Nat} {q : va_E} (h : σ[i]? = some q) : σ.set i q = σ := by
  apply List.ext_getElem?
  intro j
  by_cases hj : i = j
  · subst hj
    rw [zk_self h, h]
  · rw [zk_ne hj]
-- ints and longs of the walks
theorem zl_mask {a : Nat} (h : a < 18446744073709551616) : lN a &&& lN 4294967295 = lN (a % 4294967296) := wb_mask (k := 32) h (by decide)
theorem zl_hi {a : Nat} (h : a < 18446744073709551616) : ((lN a).toUInt64 >>> ((nI 32).toInt64.toUInt64 &&& Int64.toUInt64 63)).toInt64 = lN (a / 4294967296) := wb_shr (k := 32) h (by decide)
theorem zi_in {t n : Nat} (h : t < n) (hn : n < 2147483648) : vp_in (nI t) n := vp_in_nI h hn
theorem zi_cl {t : Nat} (h : t < 2147483648) : (nI t).toNatClampNeg = t := nI_clamp h
theorem zi_le {a b : Nat} (ha : a < 2147483648) (hb : b < 2147483648) : (nI a ≤ nI b) = (a ≤ b) := propext (nI_leI ha hb)
theorem zi_lt {a b : Nat} (ha : a < 2147483648) (hb : b < 2147483648) : (nI a < nI b) = (a < b) := propext (nI_ltI ha hb)
theorem zi_eq {a b : Nat} (ha : a < 2147483648) (hb : b < 2147483648) : (nI a = nI b) = (a = b) := propext (nI_eq ha hb)
theorem zl_lt {a b : Nat} (ha : a < 9223372036854775808) (hb : b < 9223372036854775808) : (lN a < lN b) = (a < b) := propext (pk_lLT ha hb)
theorem zl_le {a b : Nat} (ha : a < 9223372036854775808) (hb : b < 9223372036854775808) : (lN a ≤ lN b) = (a ≤ b) := propext (pk_lLE ha hb)
theorem zl_eq {a b : Nat} (ha : a < 9223372036854775808) (hb : b < 9223372036854775808) : (lN a = lN b) = (a = b) := propext (pk_lEQ ha hb)
theorem zl_cmp {a b : Nat} (ha : a < 9223372036854775808) (hb : b < 9223372036854775808) : lg_cmp (lN a) (lN b) = if b < a then nI 1 else if a = b then nI 0 else -(nI 1) := by
  unfold lg_cmp
  by_cases h1 : b < a
  · rw [if_pos (show lN a > lN b from (pk_lLT hb ha).mpr h1), if_pos h1]; rfl
  · rw [if_neg (show ¬ lN a > lN b from fun q => h1 ((pk_lLT hb ha).mp q)), if_neg h1]
    by_cases h2 : a = b
    · rw [if_pos (show lN a = lN b by rw [h2]), if_pos h2]; rfl
    · rw [if_neg (show ¬ lN a = lN b from fun q => h2 ((pk_lEQ ha hb).mp q)), if_neg h2]; rfl
theorem zl_clt {a b : Nat} (ha : a < 9223372036854775808) (hb : b < 9223372036854775808) : (lg_cmp (lN a) (lN b) < nI 0) = (a < b) := by
  rw [zl_cmp ha hb]
  apply propext
  by_cases h1 : b < a
  · rw [if_pos h1]; exact ⟨fun q => absurd q (by decide), fun q => by omega⟩
  · rw [if_neg h1]
    by_cases h2 : a = b
    · rw [if_pos h2]; exact ⟨fun q => absurd q (by decide), fun q => by omega⟩
    · rw [if_neg h2]; exact ⟨fun _ => by omega, fun _ => by decide⟩
theorem zl_cge {a b : Nat} (ha : a < 9223372036854775808) (hb : b < 9223372036854775808) : (nI 0 ≤ lg_cmp (lN a) (lN b)) = (b ≤ a) := by
  rw [zl_cmp ha hb]
  apply propext
  by_cases h1 : b < a
  · rw [if_pos h1]; exact ⟨fun q => by omega, fun q => by decide⟩
  · rw [if_neg h1]
    by_cases h2 : a = b
    · rw [if_pos h2]; exact ⟨fun q => by omega, fun q => by decide⟩
    · rw [if_neg h2]; exact ⟨fun q => absurd q (by decide), fun _ => by omega⟩
theorem zl_ceq {a b : Nat} (ha : a < 9223372036854775808) (hb : b < 9223372036854775808) : (lg_cmp (lN a) (lN b) = nI 0) = (a = b) := by
  rw [zl_cmp ha hb]
  apply propext
  by_cases h1 : b < a
  · rw [if_pos h1]; exact ⟨fun q => absurd q (by decide), fun q => by omega⟩
  · rw [if_neg h1]
    by_cases h2 : a = b
    · rw [if_pos h2]; exact ⟨fun q => h2, fun q => rfl⟩
    · rw [if_neg h2]; exact ⟨fun q => absurd q (by decide), fun q => absurd q h2⟩
/-- a digit of a digit -/
theorem dg_pick {b m v q r : Nat} (hr : r < m) : dg (b ^ m) v q / b ^ r % b = dg b v (m * q + r) := by
  unfold dg
  have e1 : b ^ m = b ^ r * b ^ (m - r) := by rw [← Nat.pow_add]; congr 1; omega
  have e2 : b ^ (m - r) = b * b ^ (m - r - 1) := by rw [Nat.mul_comm, ← Nat.pow_succ]; congr 1; omega
  rw [← Nat.pow_mul, Nat.pow_add b (m * q) r, ← Nat.div_div_eq_div_mul]
  generalize v / b ^ (m * q) = x
  rw [e1, Nat.mod_mul_right_div_self, e2, Nat.mod_mul_right_mod]
theorem zl_and1 {a : Nat} (h : a < 18446744073709551616) : lN a &&& lN 1 = lN (a % 2) := wb_mask (k := 1) h (by decide)
theorem zl_and255 {a : Nat} (h : a < 18446744073709551616) : lN a &&& lN 255 = lN (a % 256) := wb_mask (k := 8) h (by decide)
theorem zi_div {a d : Nat} (ha : a < 2147483648) (h0 : 0 < d) (hd : d < 2147483648) : nI a / nI d = nI (a / d) := pk_div ha h0 hd
theorem zi_rem {a d : Nat} (ha : a < 2147483648) (h0 : 0 < d) (hd : d < 2147483648) : nI a - nI a / nI d * nI d = nI (a % d) := pk_rem ha h0 hd
theorem zi_mul (a b : Nat) : nI a * nI b = nI (a * b) := pk_mul a b
theorem zi_sub {a b : Nat} (h : b ≤ a) : nI a - nI b = nI (a - b) := pk_sub h
