/-! sets as bits -/
def bset (P : Nat → Bool) : Nat → Nat
  | 0 => 0
  | n + 1 => bset P n ||| (if P n then 2 ^ n else 0)
theorem bset_lt (P : Nat → Bool) (n : Nat) : bset P n < 2 ^ n := by
  induction n with
  | zero => exact Nat.one_pos
  | succ n ih =>
    have h1 : bset P n < 2 ^ (n + 1) := Nat.lt_of_lt_of_le ih (Nat.pow_le_pow_right (by omega) (by omega))
    have h2 : (if P n then 2 ^ n else 0) < 2 ^ (n + 1) := by
      have := Nat.pow_lt_pow_right (a := 2) (by omega) (show n < n + 1 by omega)
      split
      · exact this
      · exact Nat.pow_pos (by omega)
    exact Nat.or_lt_two_pow h1 h2
theorem bset_bit (P : Nat → Bool) (n i : Nat) : (bset P n).testBit i = (decide (i < n) && P i) := by
  induction n with
  | zero => simp [bset]
  | succ n ih =>
    rw [bset, Nat.testBit_or, ih]
    by_cases h : P n
    · rw [if_pos h, Nat.testBit_two_pow]
      by_cases hi : i = n
      · subst hi; simp [h]
      · have : decide (n = i) = false := by simpa using fun e => hi e.symm
        rw [this, Bool.or_false]
        by_cases h2 : i < n
        · simp [h2, show i < n + 1 by omega]
        · simp [h2, show ¬ i < n + 1 by omega]
    · rw [if_neg h]
      by_cases hi : i = n
      · subst hi; simp [h]
      · by_cases h2 : i < n
        · simp [h2, show i < n + 1 by omega]
        · simp [h2, show ¬ i < n + 1 by omega]
theorem bset_congr {P P' : Nat → Bool} {n : Nat} (h : ∀ i, i < n → P i = P' i) : bset P n = bset P' n := by
  apply Nat.eq_of_testBit_eq
  intro i
  rw [bset_bit, bset_bit]
  by_cases hi : i < n
  · simp [hi, h i hi]
  · simp [hi]
theorem i32_nat {n : Nat} (h : n < 2147483648) : Int32.ofInt (n : Int) = nI n := by
  apply Int32.toInt_inj.mp
  rw [r32_i ⟨by omega, by omega⟩, nI_toInt (by omega)]
theorem iOr_nat {a b : Nat} (ha : a < 2147483648) (hb : b < 2147483648) : iOr (a : Int) (b : Int) = ((a ||| b : Nat) : Int) := by
  unfold iOr
  rw [i32_nat ha, i32_nat hb]
  have e : nI a ||| nI b = nI (a ||| b) := by
    apply Int32.toBitVec_inj.mp
    rw [Int32.toBitVec_or]
    show BitVec.ofNat 32 a ||| BitVec.ofNat 32 b = BitVec.ofNat 32 (a ||| b)
    apply BitVec.eq_of_getLsbD_eq
    intro i hi
    simp [BitVec.getLsbD_or, BitVec.getLsbD_ofNat, hi]
  rw [e, nI_toInt]
  exact Nat.or_lt_two_pow (n := 31) ha hb
theorem iAnd_nat {a b : Nat} (ha : a < 2147483648) (hb : b < 2147483648) : iAnd (a : Int) (b : Int) = ((a &&& b : Nat) : Int) := by
  unfold iAnd
  rw [i32_nat ha, i32_nat hb]
  have e : nI a &&& nI b = nI (a &&& b) := by
    apply Int32.toBitVec_inj.mp
    rw [Int32.toBitVec_and]
    show BitVec.ofNat 32 a &&& BitVec.ofNat 32 b = BitVec.ofNat 32 (a &&& b)
    apply BitVec.eq_of_getLsbD_eq
    intro i hi
    simp [BitVec.getLsbD_and, BitVec.getLsbD_ofNat, hi]
  rw [e, nI_toInt]
  exact Nat.lt_of_le_of_lt Nat.and_le_left ha
theorem iShl_one : ∀ n : Nat, n < 31 → iShl 1 (n : Int) = ((2 ^ n : Nat) : Int) := by decide +kernel
theorem iOr_0 {a : Nat} (ha : a < 2147483648) : iOr (a : Int) 0 = (a : Int) := by
  have := iOr_nat ha (b := 0) (by omega)
  simpa using this
/-- one bit more -/
theorem bset_or {P : Nat → Bool} {n : Nat} (hn : n < 31) (h : P n = true) : iOr (bset P n : Int) (iShl 1 (n : Int)) = ((bset P (n + 1) : Nat) : Int) := by
  have h1 : bset P n < 2 ^ 31 := Nat.lt_of_lt_of_le (bset_lt P n) (Nat.pow_le_pow_right (by omega) (by omega))
  have h2 : 2 ^ n < 2 ^ 31 := Nat.pow_lt_pow_right (by omega) hn
  rw [iShl_one n hn, iOr_nat h1 h2, bset, if_pos h]
theorem bset_no {P : Nat → Bool} {n : Nat} (h : P n = false) : bset P (n + 1) = bset P n := by
  rw [bset, h]
  simp
theorem bset_31 {P : Nat → Bool} {n : Nat} (hn : n < 31) : bset P n < 2147483648 := Nat.lt_of_lt_of_le (bset_lt P n) (show 2 ^ n ≤ 2 ^ 31 from Nat.pow_le_pow_right (by omega) (by omega))
theorem rup_rup {h : Nat → Int → Int} {a : Nat} {f f' : Int → Int} : rup (rup h a f) a f' = rup h a f' := by
  funext b
  unfold rup
  split <;> rfl
theorem iDiv_pos {a b : Int} (ha : 0 ≤ a) (ha2 : r32 a) (hb : 0 < b) (hb2 : r32 b) : iDiv a b = a / b := by
  obtain ⟨n, rfl⟩ := Int.eq_ofNat_of_zero_le ha
  obtain ⟨m, rfl⟩ := Int.eq_ofNat_of_zero_le (Int.le_of_lt hb)
  unfold iDiv
  rw [i32_nat (by omega), i32_nat (by omega), pk_div (by omega) (by omega) (by omega), nI_toInt (Nat.lt_of_le_of_lt (Nat.div_le_self n m) (by omega))]
  rfl
theorem iRem_pos {a b : Int} (ha : 0 ≤ a) (ha2 : r32 a) (hb : 0 < b) (hb2 : r32 b) : iRem a b = a % b := by
  obtain ⟨n, rfl⟩ := Int.eq_ofNat_of_zero_le ha
  obtain ⟨m, rfl⟩ := Int.eq_ofNat_of_zero_le (Int.le_of_lt hb)
  unfold iRem
  rw [i32_nat (by omega), i32_nat (by omega), pk_rem (by omega) (by omega) (by omega), nI_toInt (Nat.lt_of_le_of_lt (Nat.mod_le n m) (by omega))]
  rfl
theorem sh_31 : ∀ n : Nat, n < 31 → ((nI n &&& 31).toBitVec.smod 32).toNat = n := by decide +kernel
theorem iShr_nat {s i : Nat} (hs : s < 2147483648) (hi : i < 31) : iShr (s : Int) (i : Int) = ((s / 2 ^ i : Nat) : Int) := by
  unfold iShr
  rw [i32_nat hs, i32_nat (by omega), pk_shrN (by omega) _ i (sh_31 i hi), nI_toInt (Nat.lt_of_le_of_lt (Nat.div_le_self _ _) (by omega))]
theorem iBit {s i : Nat} (hs : s < 2147483648) (hi : i < 31) : iAnd (iShr (s : Int) (i : Int)) 1 = if s.testBit i then 1 else 0 := by
  rw [iShr_nat hs hi]
  have := iAnd_nat (a := s / 2 ^ i) (b := 1) (Nat.lt_of_le_of_lt (Nat.div_le_self _ _) hs) (by omega)
  rw [show ((1 : Nat) : Int) = 1 from rfl] at this
  rw [this, Nat.and_one_is_mod, Nat.testBit_eq_decide_div_mod_eq]
  have h2 := Nat.mod_two_eq_zero_or_one (s / 2 ^ i)
  rcases h2 with e | e <;> rw [e] <;> rfl
/-- how many bits -/
def pop : Nat → Nat → Nat
  | 0, _ => 0
  | k + 1, s => s % 2 + pop k (s / 2)
def bcF (a : Int) : Int :=
  let x := a - iAnd (iUshr a 1) 1431655765
  let y := iAnd x 858993459 + iAnd (iUshr x 2) 858993459
  let z := iAnd (y + iUshr y 4) 252645135
  let u := z + iUshr z 8
  let v := u + iUshr u 16
  iAnd v 63
theorem bcF_pop : ∀ a : Nat, a < 64 → ∀ b : Nat, b < 64 → bcF ((64 * a + b : Nat) : Int) = (pop 12 (64 * a + b) : Int) := by decide +kernel
theorem T_J6_bitCount_0f7a4 {s : Nat} {h : Nat → Int → Int} (hs : s < 4096 := by omega) : MT mJ6_bitCount_0f7a4 0 [pI s] h (some (pI (pop 12 s))) h := by
  refine MT.of (fun Q hQ => (?_ : RR mJ6_bitCount_0f7a4 _ _ _ _ [pI s] _ _ _))
  have e := bcF_pop (s / 64) (by omega) (s % 64) (by omega)
  rw [show 64 * (s / 64) + s % 64 = s by omega] at e
  rw [← e] at hQ
  refine R_iload_n dJ6_bitCount_0f7a4_0 rfl (?_ : RR _ _ _ _ 1 _ _ _ _)
  refine R_iload_n dJ6_bitCount_0f7a4_1 rfl (?_ : RR _ _ _ _ 2 _ _ _ _)
  refine R_iconst dJ6_bitCount_0f7a4_2 (?_ : RR _ _ _ _ 3 _ _ _ _)
  refine R_iushr dJ6_bitCount_0f7a4_3 (?_ : RR _ _ _ _ 4 _ _ _ _)
  refine R_ldcw (z := 1431655765) dJ6_bitCount_0f7a4_4 kwJ6_265 (?_ : RR _ _ _ _ 7 _ _ _ _)
  refine R_iand dJ6_bitCount_0f7a4_7 (?_ : RR _ _ _ _ 8 _ _ _ _)
  refine R_isub dJ6_bitCount_0f7a4_8 (?_ : RR _ _ _ _ 9 _ _ _ _)
  refine R_istore_n dJ6_bitCount_0f7a4_9 (Nat.le_of_ble_eq_true rfl) (?_ : RR _ _ _ _ 10 [_] _ _ _)
  refine R_iload_n dJ6_bitCount_0f7a4_10 rfl (?_ : RR _ _ _ _ 11 _ _ _ _)
  refine R_ldcw (z := 858993459) dJ6_bitCount_0f7a4_11 kwJ6_266 (?_ : RR _ _ _ _ 14 _ _ _ _)
  refine R_iand dJ6_bitCount_0f7a4_14 (?_ : RR _ _ _ _ 15 _ _ _ _)
  refine R_iload_n dJ6_bitCount_0f7a4_15 rfl (?_ : RR _ _ _ _ 16 _ _ _ _)
  refine R_iconst dJ6_bitCount_0f7a4_16 (?_ : RR _ _ _ _ 17 _ _ _ _)
  refine R_iushr dJ6_bitCount_0f7a4_17 (?_ : RR _ _ _ _ 18 _ _ _ _)
  refine R_ldcw (z := 858993459) dJ6_bitCount_0f7a4_18 kwJ6_266 (?_ : RR _ _ _ _ 21 _ _ _ _)
  refine R_iand dJ6_bitCount_0f7a4_21 (?_ : RR _ _ _ _ 22 _ _ _ _)
  refine R_iadd dJ6_bitCount_0f7a4_22 (?_ : RR _ _ _ _ 23 _ _ _ _)
  refine R_istore_n dJ6_bitCount_0f7a4_23 (Nat.le_of_ble_eq_true rfl) (?_ : RR _ _ _ _ 24 [_] _ _ _)
  refine R_iload_n dJ6_bitCount_0f7a4_24 rfl (?_ : RR _ _ _ _ 25 _ _ _ _)
  refine R_iload_n dJ6_bitCount_0f7a4_25 rfl (?_ : RR _ _ _ _ 26 _ _ _ _)
  refine R_iconst dJ6_bitCount_0f7a4_26 (?_ : RR _ _ _ _ 27 _ _ _ _)
  refine R_iushr dJ6_bitCount_0f7a4_27 (?_ : RR _ _ _ _ 28 _ _ _ _)
  refine R_iadd dJ6_bitCount_0f7a4_28 (?_ : RR _ _ _ _ 29 _ _ _ _)
  refine R_ldcw (z := 252645135) dJ6_bitCount_0f7a4_29 kwJ6_267 (?_ : RR _ _ _ _ 32 _ _ _ _)
  refine R_iand dJ6_bitCount_0f7a4_32 (?_ : RR _ _ _ _ 33 _ _ _ _)
  refine R_istore_n dJ6_bitCount_0f7a4_33 (Nat.le_of_ble_eq_true rfl) (?_ : RR _ _ _ _ 34 [_] _ _ _)
  refine R_iload_n dJ6_bitCount_0f7a4_34 rfl (?_ : RR _ _ _ _ 35 _ _ _ _)
  refine R_iload_n dJ6_bitCount_0f7a4_35 rfl (?_ : RR _ _ _ _ 36 _ _ _ _)
  refine R_bipush dJ6_bitCount_0f7a4_36 rfl (?_ : RR _ _ _ _ 38 _ _ _ _)
  refine R_iushr dJ6_bitCount_0f7a4_38 (?_ : RR _ _ _ _ 39 _ _ _ _)
  refine R_iadd dJ6_bitCount_0f7a4_39 (?_ : RR _ _ _ _ 40 _ _ _ _)
  refine R_istore_n dJ6_bitCount_0f7a4_40 (Nat.le_of_ble_eq_true rfl) (?_ : RR _ _ _ _ 41 [_] _ _ _)
  refine R_iload_n dJ6_bitCount_0f7a4_41 rfl (?_ : RR _ _ _ _ 42 _ _ _ _)
  refine R_iload_n dJ6_bitCount_0f7a4_42 rfl (?_ : RR _ _ _ _ 43 _ _ _ _)
  refine R_bipush dJ6_bitCount_0f7a4_43 rfl (?_ : RR _ _ _ _ 45 _ _ _ _)
  refine R_iushr dJ6_bitCount_0f7a4_45 (?_ : RR _ _ _ _ 46 _ _ _ _)
  refine R_iadd dJ6_bitCount_0f7a4_46 (?_ : RR _ _ _ _ 47 _ _ _ _)
  refine R_istore_n dJ6_bitCount_0f7a4_47 (Nat.le_of_ble_eq_true rfl) (?_ : RR _ _ _ _ 48 [_] _ _ _)
  refine R_iload_n dJ6_bitCount_0f7a4_48 rfl (?_ : RR _ _ _ _ 49 _ _ _ _)
  refine R_bipush dJ6_bitCount_0f7a4_49 rfl (?_ : RR _ _ _ _ 51 _ _ _ _)
  refine R_iand dJ6_bitCount_0f7a4_51 (?_ : RR _ _ _ _ 52 _ _ _ _)
  exact R_ireturn dJ6_bitCount_0f7a4_52 trivial hQ
theorem rup_self {h : Nat → Int → Int} {a : Nat} : rup h a (h a) = h := by
  funext b
  unfold rup
  split
  · rename_i e; rw [e]
  · rfl
theorem fup_self {f : Int → Int} {i : Int} : fup f i (f i) = f := by
  funext j
  unfold fup
  split
  · rename_i e; rw [e]
  · rfl
theorem fup_fup {f : Int → Int} {i z z' : Int} : fup (fup f i z) i z' = fup f i z' := by
  funext j
  unfold fup
  split <;> rfl
theorem rup_comm {h : Nat → Int → Int} {a b : Nat} {f f' : Int → Int} (hab : a ≠ b) : rup (rup h a f) b f' = rup (rup h b f') a f := by
  funext c
  unfold rup
  by_cases h1 : c = b
  · subst h1; simp [Ne.symm hab]
  · simp [h1]
def rupS (h : Nat → Int → Int) (b : Nat) (f' : Int → Int) (a : Nat) (f : Int → Int) : Nat → Int → Int := rup (rup h b f') a f
theorem rupS_def {h : Nat → Int → Int} {a b : Nat} {f f' : Int → Int} : rupS h b f' a f = rup (rup h b f') a f := rfl
theorem rup_sort {h : Nat → Int → Int} {a b : Nat} {f f' : Int → Int} (hab : b < a) : rup (rup h a f) b f' = rupS h b f' a f := rup_comm (by omega)
