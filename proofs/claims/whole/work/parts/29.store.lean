/-! the store of the class: 0 the stack, 1 its rows, 2 .. 13 the rows, 14 text, 15 letters, 16 exact, 17 .. 22 its numbers, 23 spare, 24 wrapping, 25 product, 26 result; behind them what else there is -/
def cS (w : Nat → Nat) (n : Nat) (tx : Nat → Nat) (tl : Nat) (vx : Nat) (bx : Bool) (vy : Nat) (by_ : Bool) (vr : Nat) (br : Bool) (vs vp ve : Nat) (τ : List va_E) : List va_E :=
  (.inr (4, [.ref 1, .int (nI n), .ref 14, .ref 16, .ref 24, .ref 26]) : va_E) ::
  (.inl (3, 12, .inr (.inr (.inr (.inr (fun j => some (2 + j)))))) : va_E) ::
  (LR 8 (w 0) : va_E) ::
  (LR 8 (w 1) : va_E) ::
  (LR 8 (w 2) : va_E) ::
  (LR 8 (w 3) : va_E) ::
  (LR 8 (w 4) : va_E) ::
  (LR 8 (w 5) : va_E) ::
  (LR 8 (w 6) : va_E) ::
  (LR 8 (w 7) : va_E) ::
  (LR 8 (w 8) : va_E) ::
  (LR 8 (w 9) : va_E) ::
  (LR 8 (w 10) : va_E) ::
  (LR 8 (w 11) : va_E) ::
  (.inr (1, [.ref 15, .int (nI tl)]) : va_E) ::
  (.inl (2, 80, .inl (fun j => nI (tx j))) : va_E) ::
  (.inr (0, [.ref 17, .ref 19, .ref 21, .ref 23]) : va_E) ::
  (cW 18 bx : va_E) ::
  (LR 16 vx : va_E) ::
  (cW 20 by_ : va_E) ::
  (LR 16 vy : va_E) ::
  (cW 22 br : va_E) ::
  (LR 16 vr : va_E) ::
  (LR 16 vs : va_E) ::
  (.inr (3, [.ref 16, .ref 25]) : va_E) ::
  (LR 8 vp : va_E) ::
  (LR 8 ve : va_E) :: τ
theorem cS_g0 {w : Nat → Nat} {n : Nat} {tx : Nat → Nat} {tl : Nat} {vx : Nat} {bx : Bool} {vy : Nat} {by_ : Bool} {vr : Nat} {br : Bool} {vs vp ve : Nat} {τ : List va_E} : (cS w n tx tl vx bx vy by_ vr br vs vp ve τ)[0]? = some (.inr (4, [.ref 1, .int (nI n), .ref 14, .ref 16, .ref 24, .ref 26])) := rfl
theorem cS_g1 {w : Nat → Nat} {n : Nat} {tx : Nat → Nat} {tl : Nat} {vx : Nat} {bx : Bool} {vy : Nat} {by_ : Bool} {vr : Nat} {br : Bool} {vs vp ve : Nat} {τ : List va_E} : (cS w n tx tl vx bx vy by_ vr br vs vp ve τ)[1]? = some (.inl (3, 12, .inr (.inr (.inr (.inr (fun j => some (2 + j))))))) := rfl
theorem cS_g14 {w : Nat → Nat} {n : Nat} {tx : Nat → Nat} {tl : Nat} {vx : Nat} {bx : Bool} {vy : Nat} {by_ : Bool} {vr : Nat} {br : Bool} {vs vp ve : Nat} {τ : List va_E} : (cS w n tx tl vx bx vy by_ vr br vs vp ve τ)[14]? = some (.inr (1, [.ref 15, .int (nI tl)])) := rfl
theorem cS_g15 {w : Nat → Nat} {n : Nat} {tx : Nat → Nat} {tl : Nat} {vx : Nat} {bx : Bool} {vy : Nat} {by_ : Bool} {vr : Nat} {br : Bool} {vs vp ve : Nat} {τ : List va_E} : (cS w n tx tl vx bx vy by_ vr br vs vp ve τ)[15]? = some (.inl (2, 80, .inl (fun j => nI (tx j)))) := rfl
theorem cS_g16 {w : Nat → Nat} {n : Nat} {tx : Nat → Nat} {tl : Nat} {vx : Nat} {bx : Bool} {vy : Nat} {by_ : Bool} {vr : Nat} {br : Bool} {vs vp ve : Nat} {τ : List va_E} : (cS w n tx tl vx bx vy by_ vr br vs vp ve τ)[16]? = some (.inr (0, [.ref 17, .ref 19, .ref 21, .ref 23])) := rfl
theorem cS_g17 {w : Nat → Nat} {n : Nat} {tx : Nat → Nat} {tl : Nat} {vx : Nat} {bx : Bool} {vy : Nat} {by_ : Bool} {vr : Nat} {br : Bool} {vs vp ve : Nat} {τ : List va_E} : (cS w n tx tl vx bx vy by_ vr br vs vp ve τ)[17]? = some (cW 18 bx) := rfl
theorem cS_g18 {w : Nat → Nat} {n : Nat} {tx : Nat → Nat} {tl : Nat} {vx : Nat} {bx : Bool} {vy : Nat} {by_ : Bool} {vr : Nat} {br : Bool} {vs vp ve : Nat} {τ : List va_E} : (cS w n tx tl vx bx vy by_ vr br vs vp ve τ)[18]? = some (LR 16 vx) := rfl
theorem cS_g19 {w : Nat → Nat} {n : Nat} {tx : Nat → Nat} {tl : Nat} {vx : Nat} {bx : Bool} {vy : Nat} {by_ : Bool} {vr : Nat} {br : Bool} {vs vp ve : Nat} {τ : List va_E} : (cS w n tx tl vx bx vy by_ vr br vs vp ve τ)[19]? = some (cW 20 by_) := rfl
theorem cS_g20 {w : Nat → Nat} {n : Nat} {tx : Nat → Nat} {tl : Nat} {vx : Nat} {bx : Bool} {vy : Nat} {by_ : Bool} {vr : Nat} {br : Bool} {vs vp ve : Nat} {τ : List va_E} : (cS w n tx tl vx bx vy by_ vr br vs vp ve τ)[20]? = some (LR 16 vy) := rfl
theorem cS_g21 {w : Nat → Nat} {n : Nat} {tx : Nat → Nat} {tl : Nat} {vx : Nat} {bx : Bool} {vy : Nat} {by_ : Bool} {vr : Nat} {br : Bool} {vs vp ve : Nat} {τ : List va_E} : (cS w n tx tl vx bx vy by_ vr br vs vp ve τ)[21]? = some (cW 22 br) := rfl
theorem cS_g22 {w : Nat → Nat} {n : Nat} {tx : Nat → Nat} {tl : Nat} {vx : Nat} {bx : Bool} {vy : Nat} {by_ : Bool} {vr : Nat} {br : Bool} {vs vp ve : Nat} {τ : List va_E} : (cS w n tx tl vx bx vy by_ vr br vs vp ve τ)[22]? = some (LR 16 vr) := rfl
theorem cS_g23 {w : Nat → Nat} {n : Nat} {tx : Nat → Nat} {tl : Nat} {vx : Nat} {bx : Bool} {vy : Nat} {by_ : Bool} {vr : Nat} {br : Bool} {vs vp ve : Nat} {τ : List va_E} : (cS w n tx tl vx bx vy by_ vr br vs vp ve τ)[23]? = some (LR 16 vs) := rfl
theorem cS_g24 {w : Nat → Nat} {n : Nat} {tx : Nat → Nat} {tl : Nat} {vx : Nat} {bx : Bool} {vy : Nat} {by_ : Bool} {vr : Nat} {br : Bool} {vs vp ve : Nat} {τ : List va_E} : (cS w n tx tl vx bx vy by_ vr br vs vp ve τ)[24]? = some (.inr (3, [.ref 16, .ref 25])) := rfl
theorem cS_g25 {w : Nat → Nat} {n : Nat} {tx : Nat → Nat} {tl : Nat} {vx : Nat} {bx : Bool} {vy : Nat} {by_ : Bool} {vr : Nat} {br : Bool} {vs vp ve : Nat} {τ : List va_E} : (cS w n tx tl vx bx vy by_ vr br vs vp ve τ)[25]? = some (LR 8 vp) := rfl
theorem cS_g26 {w : Nat → Nat} {n : Nat} {tx : Nat → Nat} {tl : Nat} {vx : Nat} {bx : Bool} {vy : Nat} {by_ : Bool} {vr : Nat} {br : Bool} {vs vp ve : Nat} {τ : List va_E} : (cS w n tx tl vx bx vy by_ vr br vs vp ve τ)[26]? = some (LR 8 ve) := rfl
theorem cS_s0 {w : Nat → Nat} {n : Nat} {tx : Nat → Nat} {tl : Nat} {vx : Nat} {bx : Bool} {vy : Nat} {by_ : Bool} {vr : Nat} {br : Bool} {vs vp ve : Nat} {τ : List va_E} {n' : Nat} : (cS w n tx tl vx bx vy by_ vr br vs vp ve τ).set 0 (.inr (4, [.ref 1, .int (nI n'), .ref 14, .ref 16, .ref 24, .ref 26])) = cS w n' tx tl vx bx vy by_ vr br vs vp ve τ := rfl
theorem cS_s14 {w : Nat → Nat} {n : Nat} {tx : Nat → Nat} {tl : Nat} {vx : Nat} {bx : Bool} {vy : Nat} {by_ : Bool} {vr : Nat} {br : Bool} {vs vp ve : Nat} {τ : List va_E} {tl' : Nat} : (cS w n tx tl vx bx vy by_ vr br vs vp ve τ).set 14 (.inr (1, [.ref 15, .int (nI tl')])) = cS w n tx tl' vx bx vy by_ vr br vs vp ve τ := rfl
theorem cS_s15 {w : Nat → Nat} {n : Nat} {tx : Nat → Nat} {tl : Nat} {vx : Nat} {bx : Bool} {vy : Nat} {by_ : Bool} {vr : Nat} {br : Bool} {vs vp ve : Nat} {τ : List va_E} {tx' : Nat → Nat} : (cS w n tx tl vx bx vy by_ vr br vs vp ve τ).set 15 (.inl (2, 80, .inl (fun j => nI (tx' j)))) = cS w n tx' tl vx bx vy by_ vr br vs vp ve τ := rfl
theorem cS_s17 {w : Nat → Nat} {n : Nat} {tx : Nat → Nat} {tl : Nat} {vx : Nat} {bx : Bool} {vy : Nat} {by_ : Bool} {vr : Nat} {br : Bool} {vs vp ve : Nat} {τ : List va_E} {b' : Bool} : (cS w n tx tl vx bx vy by_ vr br vs vp ve τ).set 17 (cW 18 b') = cS w n tx tl vx b' vy by_ vr br vs vp ve τ := rfl
theorem cS_s18 {w : Nat → Nat} {n : Nat} {tx : Nat → Nat} {tl : Nat} {vx : Nat} {bx : Bool} {vy : Nat} {by_ : Bool} {vr : Nat} {br : Bool} {vs vp ve : Nat} {τ : List va_E} {v' : Nat} : (cS w n tx tl vx bx vy by_ vr br vs vp ve τ).set 18 (LR 16 v') = cS w n tx tl v' bx vy by_ vr br vs vp ve τ := rfl
theorem cS_s19 {w : Nat → Nat} {n : Nat} {tx : Nat → Nat} {tl : Nat} {vx : Nat} {bx : Bool} {vy : Nat} {by_ : Bool} {vr : Nat} {br : Bool} {vs vp ve : Nat} {τ : List va_E} {b' : Bool} : (cS w n tx tl vx bx vy by_ vr br vs vp ve τ).set 19 (cW 20 b') = cS w n tx tl vx bx vy b' vr br vs vp ve τ := rfl
theorem cS_s20 {w : Nat → Nat} {n : Nat} {tx : Nat → Nat} {tl : Nat} {vx : Nat} {bx : Bool} {vy : Nat} {by_ : Bool} {vr : Nat} {br : Bool} {vs vp ve : Nat} {τ : List va_E} {v' : Nat} : (cS w n tx tl vx bx vy by_ vr br vs vp ve τ).set 20 (LR 16 v') = cS w n tx tl vx bx v' by_ vr br vs vp ve τ := rfl
theorem cS_s21 {w : Nat → Nat} {n : Nat} {tx : Nat → Nat} {tl : Nat} {vx : Nat} {bx : Bool} {vy : Nat} {by_ : Bool} {vr : Nat} {br : Bool} {vs vp ve : Nat} {τ : List va_E} {b' : Bool} : (cS w n tx tl vx bx vy by_ vr br vs vp ve τ).set 21 (cW 22 b') = cS w n tx tl vx bx vy by_ vr b' vs vp ve τ := rfl
theorem cS_s22 {w : Nat → Nat} {n : Nat} {tx : Nat → Nat} {tl : Nat} {vx : Nat} {bx : Bool} {vy : Nat} {by_ : Bool} {vr : Nat} {br : Bool} {vs vp ve : Nat} {τ : List va_E} {v' : Nat} : (cS w n tx tl vx bx vy by_ vr br vs vp ve τ).set 22 (LR 16 v') = cS w n tx tl vx bx vy by_ v' br vs vp ve τ := rfl
theorem cS_s23 {w : Nat → Nat} {n : Nat} {tx : Nat → Nat} {tl : Nat} {vx : Nat} {bx : Bool} {vy : Nat} {by_ : Bool} {vr : Nat} {br : Bool} {vs vp ve : Nat} {τ : List va_E} {v' : Nat} : (cS w n tx tl vx bx vy by_ vr br vs vp ve τ).set 23 (LR 16 v') = cS w n tx tl vx bx vy by_ vr br v' vp ve τ := rfl
theorem cS_s25 {w : Nat → Nat} {n : Nat} {tx : Nat → Nat} {tl : Nat} {vx : Nat} {bx : Bool} {vy : Nat} {by_ : Bool} {vr : Nat} {br : Bool} {vs vp ve : Nat} {τ : List va_E} {v' : Nat} : (cS w n tx tl vx bx vy by_ vr br vs vp ve τ).set 25 (LR 8 v') = cS w n tx tl vx bx vy by_ vr br vs v' ve τ := rfl
theorem cS_s26 {w : Nat → Nat} {n : Nat} {tx : Nat → Nat} {tl : Nat} {vx : Nat} {bx : Bool} {vy : Nat} {by_ : Bool} {vr : Nat} {br : Bool} {vs vp ve : Nat} {τ : List va_E} {v' : Nat} : (cS w n tx tl vx bx vy by_ vr br vs vp ve τ).set 26 (LR 8 v') = cS w n tx tl vx bx vy by_ vr br vs vp v' τ := rfl
theorem z12 {P : Nat → Prop} (h0 : P 0) (h1 : P 1) (h2 : P 2) (h3 : P 3) (h4 : P 4) (h5 : P 5) (h6 : P 6) (h7 : P 7) (h8 : P 8) (h9 : P 9) (h10 : P 10) (h11 : P 11) {p : Nat} (hp : p < 12) : P p := by
  rcases (show p = 0 ∨ p = 1 ∨ p = 2 ∨ p = 3 ∨ p = 4 ∨ p = 5 ∨ p = 6 ∨ p = 7 ∨ p = 8 ∨ p = 9 ∨ p = 10 ∨ p = 11 by omega) with rfl | rfl | rfl | rfl | rfl | rfl | rfl | rfl | rfl | rfl | rfl | rfl <;> assumption
theorem cS_row {w : Nat → Nat} {n : Nat} {tx : Nat → Nat} {tl : Nat} {vx : Nat} {bx : Bool} {vy : Nat} {by_ : Bool} {vr : Nat} {br : Bool} {vs vp ve : Nat} {τ : List va_E} {p : Nat} (hp : p < 12) : (cS w n tx tl vx bx vy by_ vr br vs vp ve τ)[2 + p]? = some (LR 8 (w p)) := z12 (P := fun p => (cS w n tx tl vx bx vy by_ vr br vs vp ve τ)[2 + p]? = some (LR 8 (w p))) rfl rfl rfl rfl rfl rfl rfl rfl rfl rfl rfl rfl hp
theorem cS_put {w : Nat → Nat} {n : Nat} {tx : Nat → Nat} {tl : Nat} {vx : Nat} {bx : Bool} {vy : Nat} {by_ : Bool} {vr : Nat} {br : Bool} {vs vp ve : Nat} {τ : List va_E} {p v : Nat} (hp : p < 12) : (cS w n tx tl vx bx vy by_ vr br vs vp ve τ).set (2 + p) (LR 8 v) = cS (ud w p v) n tx tl vx bx vy by_ vr br vs vp ve τ := z12 (P := fun p => (cS w n tx tl vx bx vy by_ vr br vs vp ve τ).set (2 + p) (LR 8 v) = cS (ud w p v) n tx tl vx bx vy by_ vr br vs vp ve τ) rfl rfl rfl rfl rfl rfl rfl rfl rfl rfl rfl rfl hp
theorem cS_none {w : Nat → Nat} {n : Nat} {tx : Nat → Nat} {tl : Nat} {vx : Nat} {bx : Bool} {vy : Nat} {by_ : Bool} {vr : Nat} {br : Bool} {vs vp ve : Nat} {τ : List va_E} (h : τ.length ≤ 100) {k : Nat} (hk : 1000 ≤ k) : (cS w n tx tl vx bx vy by_ vr br vs vp ve τ)[k]? = none := List.getElem?_eq_none (by show τ.length + 27 ≤ k; omega)
