/-! sets as bits -/
def bset (P : Nat → Bool) : Nat → Nat
  | 0 => 0
  | n + 1 => bset P n ||| (if P n then 2 ^ n else 0)
theorem bset_lt (P : Nat → Bool) (n : Nat) : bset P n < 2 ^ n := by
  induction n with
  | zero => exact Nat.one_pos
  | succ n ih =>
    have h1 : bset P n < 2 ^ (n + 1) := Nat.lt_of_lt_of_le ih (Nat.pow_le_pow_right (by omega) (by omega))
    have h2 : (if P n then 2 ^ n else 0) < 2 ^ (n + 1) := by
      have := Nat.pow_lt_pow_right (a := 2) (by omega) (show n < n + 1 by omega)
      split
      · exact this
      · exact Nat.pow_pos (by omega)
    exact Nat.or_lt_two_pow h1 h2
theorem bset_bit (P : Nat → Bool) (n i : Nat) : (bset P n).testBit i = (decide (i < n) && P i) := by
  induction n with
  | zero => simp [bset]
  | succ n ih =>
    rw [bset, Nat.testBit_or, ih]
    by_cases h : P n
    · rw [if_pos h, Nat.testBit_two_pow]
      by_cases hi : i = n
      · subst hi; simp [h]
      · have : decide (n = i) = false := by simpa using fun e => hi e.symm
        rw [this, Bool.or_false]
        by_cases h2 : i < n
        · simp [h2, show i < n + 1 by omega]
        · simp [h2, show ¬ i < n + 1 by omega]
    · rw [if_neg h]
      by_cases hi : i = n
      · subst hi; simp [h]
      · by_cases h2 : i < n
        · simp [h2, show i < n + 1 by omega]
        · simp [h2, show ¬ i < n + 1 by omega]
theorem bset_congr {P P' : Nat → Bool} {n : Nat} (h : ∀ i, i < n → P i = P' i) : bset P n = bset P' n := by
  apply Nat.eq_of_testBit_eq
  intro i
  rw [bset_bit, bset_bit]
  by_cases hi : i < n
  · simp [hi, h i hi]
  · simp [hi]
theorem i32_nat {n : Nat} (h : n < 2147483648) : Int32.ofInt (n : Int) = nI n := by
  apply Int32.toInt_inj.mp
  rw [r32_i ⟨by omega, by omega⟩, nI_toInt (by omega)]
theorem iOr_nat {a b : Nat} (ha : a < 2147483648) (hb : b < 2147483648) : iOr (a : Int) (b : Int) = ((a ||| b : Nat) : Int) := by
  unfold iOr
  rw [i32_nat ha, i32_nat hb]
  have e : nI a ||| nI b = nI (a ||| b) := by
    apply Int32.toBitVec_inj.mp
    rw [Int32.toBitVec_or]
    show BitVec.ofNat 32 a ||| BitVec.ofNat 32 b = BitVec.ofNat 32 (a ||| b)
    apply BitVec.eq_of_getLsbD_eq
    intro i hi
    simp [BitVec.getLsbD_or, BitVec.getLsbD_ofNat, hi]
  rw [e, nI_toInt]
  exact Nat.or_lt_two_pow (n := 31) ha hb
theorem iAnd_nat {a b : Nat} (ha : a < 2147483648) (hb : b < 2147483648) : iAnd (a : Int) (b : Int) = ((a &&& b : Nat) : Int) := by
  unfold iAnd
  rw [i32_nat ha, i32_nat hb]
  have e : nI a &&& nI b = nI (a &&& b) := by
    apply Int32.toBitVec_inj.mp
    rw [Int32.toBitVec_and]
    show BitVec.ofNat 32 a &&& BitVec.ofNat 32 b = BitVec.ofNat 32 (a &&& b)
    apply BitVec.eq_of_getLsbD_eq
    intro i hi
    simp [BitVec.getLsbD_and, BitVec.getLsbD_ofNat, hi]
  rw [e, nI_toInt]
  exact Nat.lt_of_le_of_lt Nat.and_le_left ha
theorem iShl_one : ∀ n : Nat, n < 31 → iShl 1 (n : Int) = ((2 ^ n : Nat) : Int) := by decide +kernel
theorem iOr_0 {a : Nat} (ha : a < 2147483648) : iOr (a : Int) 0 = (a : Int) := by
  have := iOr_nat ha (b := 0) (by omega)
  simpa using this
/-- one bit more -/
theorem bset_or {P : Nat → Bool} {n : Nat} (hn : n < 31) (h : P n = true) : iOr (bset P n : Int) (iShl 1 (n : Int)) = ((bset P (n + 1) : Nat) : Int) := by
  have h1 : bset P n < 2 ^ 31 := Nat.lt_of_lt_of_le (bset_lt P n) (Nat.pow_le_pow_right (by omega) (by omega))
  have h2 : 2 ^ n < 2 ^ 31 := Nat.pow_lt_pow_right (by omega) hn
  rw [iShl_one n hn, iOr_nat h1 h2, bset, if_pos h]
theorem bset_no {P : Nat → Bool} {n : Nat} (h : P n = false) : bset P (n + 1) = bset P n := by
  rw [bset, h]
  simp
theorem bset_31 {P : Nat → Bool} {n : Nat} (hn : n < 31) : bset P n < 2147483648 := Nat.lt_of_lt_of_le (bset_lt P n) (show 2 ^ n ≤ 2 ^ 31 from Nat.pow_le_pow_right (by omega) (by omega))
theorem rup_rup {h : Nat → Int → Int} {a : Nat} {f f' : Int → Int} : rup (rup h a f) a f' = rup h a f' := by
  funext b
  unfold rup
  split <;> rfl
