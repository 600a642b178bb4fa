section NE2
variable {k : Nat} {h h1 h2 h3 h4 : Nat → Int → Int} {sem : Sem} {H n b : Nat} {σ : Int → Int}
/-- an exit: the place behind it, or of the fault -/
def neX (σ : Int → Int) (H : Nat) (p : Nat) : Nat × Bool := if σ p = 45 then (p + 1, true) else if 97 ≤ σ p ∧ σ p < 97 + (H : Int) then (if 49 ≤ σ (p + 1) ∧ σ (p + 1) < 58 then (p + 2, true) else (p + 1, false)) else (p, false)
def neS (σ : Int → Int) (e p : Nat) : Nat × Bool := if e % 2 = 0 then (if σ p = (if e = 0 then 58 else 59) then (p + 1, true) else (p, false)) else (p, true)
def neR (σ : Int → Int) (H : Nat) : Nat → Nat × Bool
  | 0 => (1, true)
  | e + 1 => if (neR σ H e).2 then (if (neS σ e (neR σ H e).1).2 then neX σ H (neS σ e (neR σ H e).1).1 else ((neS σ e (neR σ H e).1).1, false)) else neR σ H e
/-- what an exit says -/
def neT (σ : Int → Int) (H : Nat) (p : Nat) : Int × Int := if 97 ≤ σ p ∧ σ p < 97 + (H : Int) ∧ 49 ≤ σ (p + 1) ∧ σ (p + 1) < 58 then (σ p - 97, σ (p + 1) - 48) else (-1, 0)
theorem neR_b {e : Nat} : (neR σ H e).1 ≤ 1 + 3 * e := by
  induction e with
  | zero => exact Nat.le_refl _
  | succ e ih =>
    show (if (neR σ H e).2 then (if (neS σ e (neR σ H e).1).2 then neX σ H (neS σ e (neR σ H e).1).1 else ((neS σ e (neR σ H e).1).1, false)) else neR σ H e).1 ≤ _
    have hs : (neS σ e (neR σ H e).1).1 ≤ (neR σ H e).1 + 1 := by
      unfold neS
      by_cases q : e % 2 = 0
      · rw [if_pos q]
        by_cases q2 : σ ((neR σ H e).1 : Nat) = (if e = 0 then 58 else 59)
        · rw [if_pos q2]; exact Nat.le_refl _
        · rw [if_neg q2]; exact Nat.le_succ _
      · rw [if_neg q]; exact Nat.le_succ _
    have hx : ∀ p, (neX σ H p).1 ≤ p + 2 := fun p => by
      unfold neX
      split
      · dsimp only; omega
      · split
        · split
          · dsimp only; omega
          · dsimp only; omega
        · dsimp only; omega
    split
    · split
      · have := hx (neS σ e (neR σ H e).1).1
        omega
      · dsimp only; omega
    · omega
theorem T_X0_readX {p e : Nat} (hσ : ∀ p : Int, 0 ≤ p → signAt h p = σ p) (hσb : ∀ p : Int, -1 ≤ σ p ∧ σ p ≤ 255) (hH : h 7 0 = H) (hH9 : 1 ≤ H ∧ H ≤ 9) (he : e < 18) (hp : p ≤ 80) : MT mX0_readExit 2 [pR 7, pR 1, pI p, pI e] h (some (pI (if (neX σ H p).2 then ((neX σ H p).1 : Int) else -1 - ((neX σ H p).1 : Int)))) (rup (rup h 8 (fup (h 8) e (neT σ H p).1)) 9 (fup (h 9) e (neT σ H p).2)) := by
  refine T_X0_readExit hσ hσb hH hH9 he hp ?_
  unfold exN exH exM
  by_cases q1 : σ p = 45
  · have e1 : neX σ H p = (p + 1, true) := if_pos q1
    have e2 : neT σ H p = (-1, 0) := if_neg (fun w => by have := w.1; omega)
    rw [e1, e2]
    left
    exact ⟨q1, rfl, rfl, rfl⟩
  · by_cases q2 : 97 ≤ σ p ∧ σ p < 97 + (H : Int)
    · by_cases q3 : 49 ≤ σ (p + 1) ∧ σ (p + 1) < 58
      · have e1 : neX σ H p = (p + 2, true) := by unfold neX; rw [if_neg q1, if_pos q2, if_pos q3]
        have e2 : neT σ H p = (σ p - 97, σ (p + 1) - 48) := if_pos ⟨q2.1, q2.2, q3⟩
        rw [e1, e2]
        right; right; right
        exact ⟨q2, q3, rfl, rfl, rfl⟩
      · have e1 : neX σ H p = (p + 1, false) := by unfold neX; rw [if_neg q1, if_pos q2, if_neg q3]
        have e2 : neT σ H p = (-1, 0) := if_neg (fun w => q3 w.2.2)
        rw [e1, e2]
        right; right; left
        refine ⟨q2, q3, ?_, rfl, rfl⟩
        show (-1 : Int) - ((p + 1 : Nat) : Int) = _
        omega
    · have e1 : neX σ H p = (p, false) := by unfold neX; rw [if_neg q1, if_neg q2]
      have e2 : neT σ H p = (-1, 0) := if_neg (fun w => q2 ⟨w.1, w.2.1⟩)
      rw [e1, e2]
      right; left
      exact ⟨q1, q2, rfl, rfl, rfl⟩
end NE2
