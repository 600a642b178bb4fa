/-! bits counted -/
theorem pop_0 : ∀ k, pop k 0 = 0
  | 0 => rfl
  | k + 1 => by
    show 0 % 2 + pop k (0 / 2) = 0
    rw [Nat.zero_div, pop_0 k]
theorem pop_add : ∀ (n k s : Nat), s < 2 ^ n → n < k → pop k (s + 2 ^ n) = pop k s + 1
  | 0, k + 1, s, hs, _ => by
    have : s = 0 := by simpa using hs
    subst this
    show (0 + 2 ^ 0) % 2 + pop k ((0 + 2 ^ 0) / 2) = 0 % 2 + pop k (0 / 2) + 1
    simp [pop_0]
  | n + 1, k + 1, s, hs, hk => by
    show (s + 2 ^ (n + 1)) % 2 + pop k ((s + 2 ^ (n + 1)) / 2) = s % 2 + pop k (s / 2) + 1
    have e1 : (s + 2 ^ (n + 1)) % 2 = s % 2 := by rw [Nat.pow_succ]; omega
    have e2 : (s + 2 ^ (n + 1)) / 2 = s / 2 + 2 ^ n := by rw [Nat.pow_succ]; omega
    rw [e1, e2, pop_add n k (s / 2) (by rw [Nat.pow_succ] at hs; omega) (by omega)]
    omega
theorem pop_bset {P : Nat → Bool} : ∀ {n : Nat}, n ≤ 12 → (pop 12 (bset P n) : Int) = sm (fun p => if P p then 1 else 0) n
  | 0, _ => by
    rw [bset, pop_0]
    rfl
  | n + 1, h => by
    have ih := pop_bset (P := P) (n := n) (by omega)
    show _ = sm _ n + (if P n then 1 else 0)
    rw [← ih]
    by_cases hp : P n
    · have hl := bset_lt P n
      have e : bset P (n + 1) = bset P n + 2 ^ n := by
        rw [bset, if_pos hp, Nat.or_comm]
        have := Nat.two_pow_add_eq_or_of_lt hl 1
        rw [Nat.mul_one] at this
        rw [← this, Nat.add_comm]
      rw [e, pop_add n 12 _ hl (by omega), if_pos hp]
      rfl
    · rw [bset_no (by simpa using hp), if_neg hp]
      omega
theorem cn_sm {se : Int → Int} {c : Int} : ∀ {n : Nat}, cn se c n = sm (fun p => if decide (se p = c) then 1 else 0) n
  | 0 => rfl
  | n + 1 => by
    show cn se c n + _ = sm _ n + _
    rw [cn_sm]
    simp
/-! the other's distances -/
def nds (f : Int → Int) (i : Int) : Int := if 1000000 ≤ f i then 100000 else f i
def farB (f : Int → Int) : Prop := ∀ i : Int, 0 ≤ i → i < 81 → (0 ≤ f i ∧ f i < 1000) ∨ f i = 1000000
theorem T_X12_farOf {a b : Int} {h : Nat → Int → Int} (ha : 0 ≤ a ∧ a < 9 := by omega) (hb : 0 ≤ b ∧ b < 9 := by omega) : MT mX12_farOf 0 [pR 147, pI a, pI b] h (some (pI (h 151 (a * 9 + b)))) h := by
  refine MT.of (fun Q hQ => (?_ : RR mX12_farOf _ _ _ _ [pR 147, pI a, pI b] _ _ _))
  rw [show a * 9 + b = 9 * a + b by omega] at hQ
  refine R_aload_n dX12_farOf_0 rfl (?_ : RR _ _ _ _ 1 _ _ _ _)
  refine R_getr dX12_farOf_1 flX12_24 cok_12 rfl (by decide) (?_ : RR _ _ _ _ 4 _ _ _ _)
  refine R_bipush dX12_farOf_4 rfl (?_ : RR _ _ _ _ 6 _ _ _ _)
  refine R_iload_n dX12_farOf_6 rfl (?_ : RR _ _ _ _ 7 _ _ _ _)
  refine R_imul dX12_farOf_7 (?_ : RR _ _ _ _ 8 _ _ _ _)
  refine R_iload_n dX12_farOf_8 rfl (?_ : RR _ _ _ _ 9 _ _ _ _)
  refine R_iadd dX12_farOf_9 (?_ : RR _ _ _ _ 10 _ _ _ _)
  refine R_iald dX12_farOf_10 (fun q10 => (?_ : RR _ _ _ _ 11 _ _ _ _))
  exact R_ireturn dX12_farOf_11 trivial hQ
theorem T_X12_beginsWay {a w x : Int} {h : Nat → Int → Int} (hE : exB (h 149)) (hM : miB (h 150)) (hF : farB (h 151)) (ha : 0 ≤ a ∧ a < 9 := by omega) (hw : 0 ≤ w ∧ w < 9 := by omega) (hx : 0 ≤ x ∧ x < 2 := by omega) (hlt : h 151 (a * 9 + w) < 1000000) : MT mX12_beginsWay 1 [pR 147, pI a, pI w, pI x] h (some (pI (if begW (h 149) (h 150) (nds (h 151)) (2 * a + x) w then 1 else 0))) h := by
  have e1 := hE (2 * a + x) (by omega) (by omega)
  have e2 := hM (2 * a + x) (by omega) (by omega)
  have e4 := hF (a * 9 + w) (by omega) (by omega)
  refine MT.of (fun Q hQ => (?_ : RR mX12_beginsWay _ _ _ _ [pR 147, pI a, pI w, pI x, pU] _ _ _))
  have ee : (2 * a + x) / 2 = a := by omega
  have hn : nds (h 151) (a * 9 + w) = h 151 (a * 9 + w) := by unfold nds; rw [if_neg (by omega)]
  unfold begW at hQ
  rw [ee, hn] at hQ
  by_cases c1 : h 149 (2 * a + x) = -1
  · rw [if_neg (by simp [c1])] at hQ
    refine R_iconst dX12_beginsWay_0 (?_ : RR _ _ _ _ 1 _ _ _ _)
    refine R_iload_n dX12_beginsWay_1 rfl (?_ : RR _ _ _ _ 2 _ _ _ _)
    refine R_imul dX12_beginsWay_2 (?_ : RR _ _ _ _ 3 _ _ _ _)
    refine R_iload_n dX12_beginsWay_3 rfl (?_ : RR _ _ _ _ 4 _ _ _ _)
    refine R_iadd dX12_beginsWay_4 (?_ : RR _ _ _ _ 5 _ _ _ _)
    refine R_istore dX12_beginsWay_5 (Nat.le_of_ble_eq_true rfl) (?_ : RR _ _ _ _ 7 [_, _, _, _, _] _ _ _)
    refine R_aload_n dX12_beginsWay_7 rfl (?_ : RR _ _ _ _ 8 _ _ _ _)
    refine R_getr dX12_beginsWay_8 flX12_17 cok_12 rfl (by decide) (?_ : RR _ _ _ _ 11 _ _ _ _)
    refine R_iload dX12_beginsWay_11 rfl (?_ : RR _ _ _ _ 13 _ _ _ _)
    refine R_iald dX12_beginsWay_13 (fun q13 => (?_ : RR _ _ _ _ 14 _ _ _ _))
    refine R_if_lt (t := 50) dX12_beginsWay_14 rfl (fun c14 => ?_) (fun c14 => ?_)
    rotate_left
    · exfalso; omega
    refine R_iconst dX12_beginsWay_50 (?_ : RR _ _ _ _ 51 _ _ _ _)
    exact R_ireturn dX12_beginsWay_51 (by first | exact Or.inl rfl | exact Or.inr rfl | exact ok_ite | omega) hQ
  · have e3 := hF (h 149 (2 * a + x) * 9 + w) (by omega) (by omega)
    have hn2 : nds (h 151) (h 149 (2 * a + x) * 9 + w) = if 1000000 ≤ h 151 (h 149 (2 * a + x) * 9 + w) then 100000 else h 151 (h 149 (2 * a + x) * 9 + w) := rfl
    rw [hn2] at hQ
    refine R_iconst dX12_beginsWay_0 (?_ : RR _ _ _ _ 1 _ _ _ _)
    refine R_iload_n dX12_beginsWay_1 rfl (?_ : RR _ _ _ _ 2 _ _ _ _)
    refine R_imul dX12_beginsWay_2 (?_ : RR _ _ _ _ 3 _ _ _ _)
    refine R_iload_n dX12_beginsWay_3 rfl (?_ : RR _ _ _ _ 4 _ _ _ _)
    refine R_iadd dX12_beginsWay_4 (?_ : RR _ _ _ _ 5 _ _ _ _)
    refine R_istore dX12_beginsWay_5 (Nat.le_of_ble_eq_true rfl) (?_ : RR _ _ _ _ 7 [_, _, _, _, _] _ _ _)
    refine R_aload_n dX12_beginsWay_7 rfl (?_ : RR _ _ _ _ 8 _ _ _ _)
    refine R_getr dX12_beginsWay_8 flX12_17 cok_12 rfl (by decide) (?_ : RR _ _ _ _ 11 _ _ _ _)
    refine R_iload dX12_beginsWay_11 rfl (?_ : RR _ _ _ _ 13 _ _ _ _)
    refine R_iald dX12_beginsWay_13 (fun q13 => (?_ : RR _ _ _ _ 14 _ _ _ _))
    refine R_if_lt (t := 50) dX12_beginsWay_14 rfl (fun c14 => ?_) (fun c14 => ?_)
    · exfalso; omega
    refine R_aload_n dX12_beginsWay_17 rfl (?_ : RR _ _ _ _ 18 _ _ _ _)
    refine R_getr dX12_beginsWay_18 flX12_21 cok_12 rfl (by decide) (?_ : RR _ _ _ _ 21 _ _ _ _)
    refine R_iload dX12_beginsWay_21 rfl (?_ : RR _ _ _ _ 23 _ _ _ _)
    refine R_iald dX12_beginsWay_23 (fun q23 => (?_ : RR _ _ _ _ 24 _ _ _ _))
    refine R_aload_n dX12_beginsWay_24 rfl (?_ : RR _ _ _ _ 25 _ _ _ _)
    refine R_aload_n dX12_beginsWay_25 rfl (?_ : RR _ _ _ _ 26 _ _ _ _)
    refine R_getr dX12_beginsWay_26 flX12_17 cok_12 rfl (by decide) (?_ : RR _ _ _ _ 29 _ _ _ _)
    refine R_iload dX12_beginsWay_29 rfl (?_ : RR _ _ _ _ 31 _ _ _ _)
    refine R_iald dX12_beginsWay_31 (fun q31 => (?_ : RR _ _ _ _ 32 _ _ _ _))
    refine R_iload_n dX12_beginsWay_32 rfl (?_ : RR _ _ _ _ 33 _ _ _ _)
    refine R_cVi2 dX12_beginsWay_33 mvX12_farOf mlX12_145 (by decide) (by decide) (Nat.le_of_ble_eq_true rfl) (Nat.le_of_ble_eq_true rfl) (T_X12_farOf) (?_ : RR _ _ _ _ 36 _ _ _ _)
    refine R_iadd dX12_beginsWay_36 (?_ : RR _ _ _ _ 37 _ _ _ _)
    refine R_aload_n dX12_beginsWay_37 rfl (?_ : RR _ _ _ _ 38 _ _ _ _)
    refine R_iload_n dX12_beginsWay_38 rfl (?_ : RR _ _ _ _ 39 _ _ _ _)
    refine R_iload_n dX12_beginsWay_39 rfl (?_ : RR _ _ _ _ 40 _ _ _ _)
    refine R_cVi2 dX12_beginsWay_40 mvX12_farOf mlX12_145 (by decide) (by decide) (Nat.le_of_ble_eq_true rfl) (Nat.le_of_ble_eq_true rfl) (T_X12_farOf) (?_ : RR _ _ _ _ 43 _ _ _ _)
    refine R_icmp_ne (t := 50) dX12_beginsWay_43 rfl (fun c43 => ?_) (fun c43 => ?_)
    · rw [if_neg (by simp only [decide_eq_true_eq]; split <;> omega)] at hQ
      refine R_iconst dX12_beginsWay_50 (?_ : RR _ _ _ _ 51 _ _ _ _)
      exact R_ireturn dX12_beginsWay_51 (by first | exact Or.inl rfl | exact Or.inr rfl | exact ok_ite | omega) hQ
    · rw [if_pos (by simp only [decide_eq_true_eq]; split <;> omega)] at hQ
      refine R_iconst dX12_beginsWay_46 (?_ : RR _ _ _ _ 47 _ _ _ _)
      refine R_goto (t := 51) dX12_beginsWay_47 rfl (?_ : RR _ _ _ _ 51 _ _ _ _)
      exact R_ireturn dX12_beginsWay_51 (by first | exact Or.inl rfl | exact Or.inr rfl | exact ok_ite | omega) hQ
/-! its rule -/
def wkS (k a b : Int) : Int := if k = 0 then (if a < b then 1 else 0) else if k = 1 then (if b < a then 1 else 0) else if k = 2 then (if a = b then 1 else 0) else if k = 3 then a + b else if k = 4 then a - b else if k = 5 then a * b else (if b = 0 then 0 else iDiv a b)
theorem T_X12_worked {k a b : Int} {h : Nat → Int → Int} (hk : 0 ≤ k ∧ k ≤ 6 := by omega) (ha : r32 a := by omega) (hb : r32 b := by omega) : MT mX12_worked 1 [pI k, pI a, pI b] h (some (pI (wkS k a b))) h := by
  refine MT.of (fun Q hQ => (?_ : RR mX12_worked _ _ _ _ [pI k, pI a, pI b] _ _ _))
  unfold wkS at hQ
  refine R_iload_n dX12_worked_0 rfl (?_ : RR _ _ _ _ 1 _ _ _ _)
  by_cases s0 : k = 0
  · subst s0
    rw [if_pos rfl] at hQ
    refine R_tabIn (t := 40) (off := 39) dX12_worked_1 (by omega) (by omega) rfl rfl (?_ : RR _ _ _ _ 40 _ _ _ _)
    refine R_iload_n dX12_worked_40 rfl (?_ : RR _ _ _ _ 41 _ _ _ _)
    refine R_iload_n dX12_worked_41 rfl (?_ : RR _ _ _ _ 42 _ _ _ _)
    refine R_icmp_ge (t := 49) dX12_worked_42 rfl (fun c42 => ?_) (fun c42 => ?_)
    · refine R_iconst dX12_worked_49 (?_ : RR _ _ _ _ 50 _ _ _ _)
      refine R_cSi1 dX12_worked_50 msX12_flag mlX12_134 (by decide) (Nat.le_of_ble_eq_true rfl) (Nat.le_of_ble_eq_true rfl) (T_X12_flag) (?_ : RR _ _ _ _ 53 _ _ _ _)
      exact R_ireturn dX12_worked_53 trivial (by first | rwa [if_pos (by omega)] at hQ | rwa [if_neg (by omega)] at hQ)
    · refine R_iconst dX12_worked_45 (?_ : RR _ _ _ _ 46 _ _ _ _)
      refine R_goto (t := 50) dX12_worked_46 rfl (?_ : RR _ _ _ _ 50 _ _ _ _)
      refine R_cSi1 dX12_worked_50 msX12_flag mlX12_134 (by decide) (Nat.le_of_ble_eq_true rfl) (Nat.le_of_ble_eq_true rfl) (T_X12_flag) (?_ : RR _ _ _ _ 53 _ _ _ _)
      exact R_ireturn dX12_worked_53 trivial (by first | rwa [if_pos (by omega)] at hQ | rwa [if_neg (by omega)] at hQ)
  by_cases s1 : k = 1
  · subst s1
    rw [if_neg (by omega), if_pos rfl] at hQ
    refine R_tabIn (t := 54) (off := 53) dX12_worked_1 (by omega) (by omega) rfl rfl (?_ : RR _ _ _ _ 54 _ _ _ _)
    refine R_iload_n dX12_worked_54 rfl (?_ : RR _ _ _ _ 55 _ _ _ _)
    refine R_iload_n dX12_worked_55 rfl (?_ : RR _ _ _ _ 56 _ _ _ _)
    refine R_icmp_le (t := 63) dX12_worked_56 rfl (fun c56 => ?_) (fun c56 => ?_)
    · refine R_iconst dX12_worked_63 (?_ : RR _ _ _ _ 64 _ _ _ _)
      refine R_cSi1 dX12_worked_64 msX12_flag mlX12_134 (by decide) (Nat.le_of_ble_eq_true rfl) (Nat.le_of_ble_eq_true rfl) (T_X12_flag) (?_ : RR _ _ _ _ 67 _ _ _ _)
      exact R_ireturn dX12_worked_67 trivial (by first | rwa [if_pos (by omega)] at hQ | rwa [if_neg (by omega)] at hQ)
    · refine R_iconst dX12_worked_59 (?_ : RR _ _ _ _ 60 _ _ _ _)
      refine R_goto (t := 64) dX12_worked_60 rfl (?_ : RR _ _ _ _ 64 _ _ _ _)
      refine R_cSi1 dX12_worked_64 msX12_flag mlX12_134 (by decide) (Nat.le_of_ble_eq_true rfl) (Nat.le_of_ble_eq_true rfl) (T_X12_flag) (?_ : RR _ _ _ _ 67 _ _ _ _)
      exact R_ireturn dX12_worked_67 trivial (by first | rwa [if_pos (by omega)] at hQ | rwa [if_neg (by omega)] at hQ)
  by_cases s2 : k = 2
  · subst s2
    rw [if_neg (by omega), if_neg (by omega), if_pos rfl] at hQ
    refine R_tabIn (t := 68) (off := 67) dX12_worked_1 (by omega) (by omega) rfl rfl (?_ : RR _ _ _ _ 68 _ _ _ _)
    refine R_iload_n dX12_worked_68 rfl (?_ : RR _ _ _ _ 69 _ _ _ _)
    refine R_iload_n dX12_worked_69 rfl (?_ : RR _ _ _ _ 70 _ _ _ _)
    refine R_icmp_ne (t := 77) dX12_worked_70 rfl (fun c70 => ?_) (fun c70 => ?_)
    · refine R_iconst dX12_worked_77 (?_ : RR _ _ _ _ 78 _ _ _ _)
      refine R_cSi1 dX12_worked_78 msX12_flag mlX12_134 (by decide) (Nat.le_of_ble_eq_true rfl) (Nat.le_of_ble_eq_true rfl) (T_X12_flag) (?_ : RR _ _ _ _ 81 _ _ _ _)
      exact R_ireturn dX12_worked_81 trivial (by first | rwa [if_pos (by omega)] at hQ | rwa [if_neg (by omega)] at hQ)
    · refine R_iconst dX12_worked_73 (?_ : RR _ _ _ _ 74 _ _ _ _)
      refine R_goto (t := 78) dX12_worked_74 rfl (?_ : RR _ _ _ _ 78 _ _ _ _)
      refine R_cSi1 dX12_worked_78 msX12_flag mlX12_134 (by decide) (Nat.le_of_ble_eq_true rfl) (Nat.le_of_ble_eq_true rfl) (T_X12_flag) (?_ : RR _ _ _ _ 81 _ _ _ _)
      exact R_ireturn dX12_worked_81 trivial (by first | rwa [if_pos (by omega)] at hQ | rwa [if_neg (by omega)] at hQ)
  by_cases s3 : k = 3
  · subst s3
    rw [if_neg (by omega), if_neg (by omega), if_neg (by omega), if_pos rfl] at hQ
    refine R_tabIn (t := 82) (off := 81) dX12_worked_1 (by omega) (by omega) rfl rfl (?_ : RR _ _ _ _ 82 _ _ _ _)
    refine R_iload_n dX12_worked_82 rfl (?_ : RR _ _ _ _ 83 _ _ _ _)
    refine R_iload_n dX12_worked_83 rfl (?_ : RR _ _ _ _ 84 _ _ _ _)
    refine R_iadd dX12_worked_84 (?_ : RR _ _ _ _ 85 _ _ _ _)
    exact R_ireturn dX12_worked_85 trivial hQ
  by_cases s4 : k = 4
  · subst s4
    rw [if_neg (by omega), if_neg (by omega), if_neg (by omega), if_neg (by omega), if_pos rfl] at hQ
    refine R_tabIn (t := 86) (off := 85) dX12_worked_1 (by omega) (by omega) rfl rfl (?_ : RR _ _ _ _ 86 _ _ _ _)
    refine R_iload_n dX12_worked_86 rfl (?_ : RR _ _ _ _ 87 _ _ _ _)
    refine R_iload_n dX12_worked_87 rfl (?_ : RR _ _ _ _ 88 _ _ _ _)
    refine R_isub dX12_worked_88 (?_ : RR _ _ _ _ 89 _ _ _ _)
    exact R_ireturn dX12_worked_89 trivial hQ
  by_cases s5 : k = 5
  · subst s5
    rw [if_neg (by omega), if_neg (by omega), if_neg (by omega), if_neg (by omega), if_neg (by omega), if_pos rfl] at hQ
    refine R_tabIn (t := 90) (off := 89) dX12_worked_1 (by omega) (by omega) rfl rfl (?_ : RR _ _ _ _ 90 _ _ _ _)
    refine R_iload_n dX12_worked_90 rfl (?_ : RR _ _ _ _ 91 _ _ _ _)
    refine R_iload_n dX12_worked_91 rfl (?_ : RR _ _ _ _ 92 _ _ _ _)
    refine R_imul dX12_worked_92 (?_ : RR _ _ _ _ 93 _ _ _ _)
    exact R_ireturn dX12_worked_93 trivial hQ
  rw [if_neg s0, if_neg s1, if_neg s2, if_neg s3, if_neg s4, if_neg s5] at hQ
  refine R_tabOut (t := 94) dX12_worked_1 rfl (by omega) (?_ : RR _ _ _ _ 94 _ _ _ _)
  refine R_iload_n dX12_worked_94 rfl (?_ : RR _ _ _ _ 95 _ _ _ _)
  refine R_if_ne (t := 102) dX12_worked_95 rfl (fun c95 => ?_) (fun c95 => ?_)
  · refine R_iload_n dX12_worked_102 rfl (?_ : RR _ _ _ _ 103 _ _ _ _)
    refine R_iload_n dX12_worked_103 rfl (?_ : RR _ _ _ _ 104 _ _ _ _)
    refine R_idiv dX12_worked_104 (by omega) (by omega) (?_ : RR _ _ _ _ 105 _ _ _ _)
    exact R_ireturn dX12_worked_105 trivial (by first | rwa [if_pos c95] at hQ | rwa [if_neg c95] at hQ)
  · refine R_iconst dX12_worked_98 (?_ : RR _ _ _ _ 99 _ _ _ _)
    refine R_goto (t := 105) dX12_worked_99 rfl (?_ : RR _ _ _ _ 105 _ _ _ _)
    exact R_ireturn dX12_worked_105 trivial (by first | rwa [if_pos c95] at hQ | rwa [if_neg c95] at hQ)
def mrR (cod th : Int → Int) (i : Nat) (s : (Int → Int) × Int) : (Int → Int) × Int :=
  if cod i = 3000 then (fup s.1 (s.2 - 1) (w32 (-(s.1 (s.2 - 1)))), s.2)
  else if 2000 ≤ cod i then (fup s.1 (s.2 + -1 - 1) (w32 (wkS (cod i - 2000) (s.1 (s.2 + -1 - 1)) (s.1 (s.2 + -1)))), s.2 + -1)
  else (fup s.1 s.2 (if cod i < 1000 then cod i else th (cod i - 1000)), s.2 + 1)
/-- the other's codes and what they mean -/
def mrOK (h : Nat → Int → Int) (sem : Sem) : Prop := ∃ n : Nat, h 147 23 = n ∧ n ≤ 80 ∧ (∀ i : Nat, i < n → 0 ≤ h 158 i ∧ (h 158 i < 1006 ∨ (2000 ≤ h 158 i ∧ h 158 i ≤ 2006) ∨ h 158 i = 3000)) ∧
  (∀ (th sk : Int → Int) (i : Nat), i < n → 0 ≤ (it (mrR (h 158) th) (sk, 0) i).2 ∧ (it (mrR (h 158) th) (sk, 0) i).2 < 80 ∧ (h 158 i = 3000 → 1 ≤ (it (mrR (h 158) th) (sk, 0) i).2) ∧ (2000 ≤ h 158 i → h 158 i < 3000 → 2 ≤ (it (mrR (h 158) th) (sk, 0) i).2)) ∧
  ∀ th sk : Int → Int, (∀ j : Int, r32 (th j)) → (if n = 0 then th 0 else (it (mrR (h 158) th) (sk, 0) n).1 0) = sem (th 0) (th 1) (th 2) (th 3) (th 4) (th 5)
theorem T_X12_ruled {sem : Sem} {h : Nat → Int → Int} (hm : mrOK h sem) : RR mX12_ruled 2 0 0 0 (pm_ent [pR 147] 4) [] (shp0, rf0, h) (fun r' g' => r' = some (pI (sem (h 161 0) (h 161 1) (h 161 2) (h 161 3) (h 161 4) (h 161 5))) ∧ r32 (sem (h 161 0) (h 161 1) (h 161 2) (h 161 3) (h 161 4) (h 161 5)) ∧ ∃ sk, g' = (shp0, rf0, rup h 160 sk)) := by
  obtain ⟨n, hn, hn80, hco, hto, hse⟩ := hm
  suffices hS : ∀ Q : Option PV → PH → Prop, (∀ sk, r32 (sem (h 161 0) (h 161 1) (h 161 2) (h 161 3) (h 161 4) (h 161 5)) → Q (some (pI (sem (h 161 0) (h 161 1) (h 161 2) (h 161 3) (h 161 4) (h 161 5)))) (shp0, rf0, rup h 160 sk)) → RR mX12_ruled 2 0 0 0 [pR 147, pU, pU, pU] [] (shp0, rf0, h) Q from hS _ (fun sk hv => ⟨rfl, hv, sk, rfl⟩)
  intro Q hQ
  refine R_nzf (fun hz9 => ?_)
  have hse2 := hse (h 161) (h 160) (fun j => nz_i hz9 (a := 161) rfl (by decide) j)
  clear hz9
  rw [← hse2] at hQ
  have hto2 := hto (h 161) (h 160)
  have L : ∀ (k i : Nat) (w : PV), i + k = n → RR mX12_ruled 2 0 0 4 [pR 147, pI (it (mrR (h 158) (h 161)) (h 160, 0) i).2, pI i, w] [] (shp0, rf0, rup h 160 (it (mrR (h 158) (h 161)) (h 160, 0) i).1) Q := by
    intro k
    induction k with
    | zero =>
      intro i w hi
      obtain rfl : i = n := by omega
      have hq := hQ (it (mrR (h 158) (h 161)) (h 160, 0) i).1
      by_cases h0 : i = 0
      · rw [if_pos h0] at hq
        refine R_iload_n dX12_ruled_4 rfl (?_ : RR _ _ _ _ 5 _ _ _ _)
        refine R_aload_n dX12_ruled_5 rfl (?_ : RR _ _ _ _ 6 _ _ _ _)
        refine R_geti (z := 23) dX12_ruled_6 flX12_257 cok_12 rfl (by decide) rfl (fun q6 => (?_ : RR _ _ _ _ 9 _ _ _ _))
        try simp (disch := omega) only [rup_rup, rup_sort, rupS_def, rup_s, rup_n, fup_fup, fup_s, fup_n] at q6 ⊢
        rw [hn] at q6 ⊢
        refine R_icmp_ge (t := 125) dX12_ruled_9 rfl (fun c9 => ?_) (fun c9 => ?_)
        rotate_left
        · exfalso; omega
        refine R_aload_n dX12_ruled_125 rfl (?_ : RR _ _ _ _ 126 _ _ _ _)
        refine R_geti (z := 23) dX12_ruled_126 flX12_257 cok_12 rfl (by decide) rfl (fun q126 => (?_ : RR _ _ _ _ 129 _ _ _ _))
        try simp (disch := omega) only [rup_rup, rup_sort, rupS_def, rup_s, rup_n, fup_fup, fup_s, fup_n] at q126 ⊢
        rw [hn] at q126 ⊢
        refine R_if_ne (t := 141) dX12_ruled_129 rfl (fun c129 => ?_) (fun c129 => ?_)
        · exfalso; omega
        refine R_aload_n dX12_ruled_132 rfl (?_ : RR _ _ _ _ 133 _ _ _ _)
        refine R_getr dX12_ruled_133 flX12_54 cok_12 rfl (by decide) (?_ : RR _ _ _ _ 136 _ _ _ _)
        refine R_iconst dX12_ruled_136 (?_ : RR _ _ _ _ 137 _ _ _ _)
        refine R_iald dX12_ruled_137 (fun q137 => (?_ : RR _ _ _ _ 138 _ _ _ _))
        try simp (disch := omega) only [rup_rup, rup_sort, rupS_def, rup_s, rup_n, fup_fup, fup_s, fup_n] at q137 ⊢
        refine R_goto (t := 147) dX12_ruled_138 rfl (?_ : RR _ _ _ _ 147 _ _ _ _)
        exact R_ireturn dX12_ruled_147 trivial (hq (by assumption))
      · rw [if_neg h0] at hq
        refine R_iload_n dX12_ruled_4 rfl (?_ : RR _ _ _ _ 5 _ _ _ _)
        refine R_aload_n dX12_ruled_5 rfl (?_ : RR _ _ _ _ 6 _ _ _ _)
        refine R_geti (z := 23) dX12_ruled_6 flX12_257 cok_12 rfl (by decide) rfl (fun q6 => (?_ : RR _ _ _ _ 9 _ _ _ _))
        try simp (disch := omega) only [rup_rup, rup_sort, rupS_def, rup_s, rup_n, fup_fup, fup_s, fup_n] at q6 ⊢
        rw [hn] at q6 ⊢
        refine R_icmp_ge (t := 125) dX12_ruled_9 rfl (fun c9 => ?_) (fun c9 => ?_)
        rotate_left
        · exfalso; omega
        refine R_aload_n dX12_ruled_125 rfl (?_ : RR _ _ _ _ 126 _ _ _ _)
        refine R_geti (z := 23) dX12_ruled_126 flX12_257 cok_12 rfl (by decide) rfl (fun q126 => (?_ : RR _ _ _ _ 129 _ _ _ _))
        try simp (disch := omega) only [rup_rup, rup_sort, rupS_def, rup_s, rup_n, fup_fup, fup_s, fup_n] at q126 ⊢
        rw [hn] at q126 ⊢
        refine R_if_ne (t := 141) dX12_ruled_129 rfl (fun c129 => ?_) (fun c129 => ?_)
        rotate_left
        · exfalso; omega
        refine R_aload_n dX12_ruled_141 rfl (?_ : RR _ _ _ _ 142 _ _ _ _)
        refine R_getr dX12_ruled_142 flX12_51 cok_12 rfl (by decide) (?_ : RR _ _ _ _ 145 _ _ _ _)
        refine R_iconst dX12_ruled_145 (?_ : RR _ _ _ _ 146 _ _ _ _)
        refine R_iald dX12_ruled_146 (fun q146 => (?_ : RR _ _ _ _ 147 _ _ _ _))
        try simp (disch := omega) only [rup_rup, rup_sort, rupS_def, rup_s, rup_n, fup_fup, fup_s, fup_n] at q146 ⊢
        exact R_ireturn dX12_ruled_147 trivial (hq (by assumption))
    | succ k ih =>
      intro i w hi
      have hc := hco i (by omega)
      have ht := hto2 i (by omega)
      have e9 : it (mrR (h 158) (h 161)) (h 160, 0) (i + 1) = mrR (h 158) (h 161) i (it (mrR (h 158) (h 161)) (h 160, 0) i) := rfl
      have IH := fun w => ih (i + 1) w (by omega)
      rw [e9] at IH
      generalize it (mrR (h 158) (h 161)) (h 160, 0) i = s at ht IH ⊢
      obtain ⟨sk, top⟩ := s
      simp only [mrR] at IH
      simp only at ht
      refine R_iload_n dX12_ruled_4 rfl (?_ : RR _ _ _ _ 5 _ _ _ _)
      refine R_aload_n dX12_ruled_5 rfl (?_ : RR _ _ _ _ 6 _ _ _ _)
      refine R_geti (z := 23) dX12_ruled_6 flX12_257 cok_12 rfl (by decide) rfl (fun q6 => (?_ : RR _ _ _ _ 9 _ _ _ _))
      try simp (disch := omega) only [rup_rup, rup_sort, rupS_def, rup_s, rup_n, fup_fup, fup_s, fup_n] at q6 ⊢
      rw [hn] at q6 ⊢
      refine R_icmp_ge (t := 125) dX12_ruled_9 rfl (fun c9 => ?_) (fun c9 => ?_)
      · exfalso; omega
      refine R_aload_n dX12_ruled_12 rfl (?_ : RR _ _ _ _ 13 _ _ _ _)
      refine R_getr dX12_ruled_13 flX12_45 cok_12 rfl (by decide) (?_ : RR _ _ _ _ 16 _ _ _ _)
      refine R_iload_n dX12_ruled_16 rfl (?_ : RR _ _ _ _ 17 _ _ _ _)
      refine R_iald dX12_ruled_17 (fun q17 => (?_ : RR _ _ _ _ 18 _ _ _ _))
      try simp (disch := omega) only [rup_rup, rup_sort, rupS_def, rup_s, rup_n, fup_fup, fup_s, fup_n] at q17 ⊢
      refine R_istore_n dX12_ruled_18 (Nat.le_of_ble_eq_true rfl) (?_ : RR _ _ _ _ 19 [_, _, _, _] _ _ _)
      refine R_iload_n dX12_ruled_19 rfl (?_ : RR _ _ _ _ 20 _ _ _ _)
      refine R_sipush dX12_ruled_20 rfl (?_ : RR _ _ _ _ 23 _ _ _ _)
      refine R_icmp_ne (t := 46) dX12_ruled_23 rfl (fun c23 => ?_) (fun c23 => ?_)
      · rw [if_neg c23] at IH
        refine R_iload_n dX12_ruled_46 rfl (?_ : RR _ _ _ _ 47 _ _ _ _)
        refine R_sipush dX12_ruled_47 rfl (?_ : RR _ _ _ _ 50 _ _ _ _)
        refine R_icmp_lt (t := 89) dX12_ruled_50 rfl (fun c50 => ?_) (fun c50 => ?_)
        · rw [if_neg (by omega)] at IH
          refine R_aload_n dX12_ruled_89 rfl (?_ : RR _ _ _ _ 90 _ _ _ _)
          refine R_getr dX12_ruled_90 flX12_51 cok_12 rfl (by decide) (?_ : RR _ _ _ _ 93 _ _ _ _)
          refine R_iload_n dX12_ruled_93 rfl (?_ : RR _ _ _ _ 94 _ _ _ _)
          refine R_iload_n dX12_ruled_94 rfl (?_ : RR _ _ _ _ 95 _ _ _ _)
          refine R_sipush dX12_ruled_95 rfl (?_ : RR _ _ _ _ 98 _ _ _ _)
          refine R_icmp_lt (t := 114) dX12_ruled_98 rfl (fun c98 => ?_) (fun c98 => ?_)
          · rw [if_pos (by omega)] at IH
            refine R_iload_n dX12_ruled_114 rfl (?_ : RR _ _ _ _ 115 _ _ _ _)
            refine R_iast dX12_ruled_115 (?_ : RR _ _ _ _ 116 _ _ _ _)
            try simp (disch := omega) only [rup_rup, rup_sort, rupS_def, rup_s, rup_n, fup_fup, fup_s, fup_n]
            refine R_iinc dX12_ruled_116 rfl (Nat.le_of_ble_eq_true rfl) (?_ : RR _ _ _ _ 119 [_, _, _, _] _ _ _)
            refine R_iinc dX12_ruled_119 rfl (Nat.le_of_ble_eq_true rfl) (?_ : RR _ _ _ _ 122 [_, _, _, _] _ _ _)
            refine R_goto (t := 4) dX12_ruled_122 rfl (?_ : RR _ _ _ _ 4 _ _ _ _)
            exact IH _
          · rw [if_neg (by omega)] at IH
            refine R_aload_n dX12_ruled_101 rfl (?_ : RR _ _ _ _ 102 _ _ _ _)
            refine R_getr dX12_ruled_102 flX12_54 cok_12 rfl (by decide) (?_ : RR _ _ _ _ 105 _ _ _ _)
            refine R_iload_n dX12_ruled_105 rfl (?_ : RR _ _ _ _ 106 _ _ _ _)
            refine R_sipush dX12_ruled_106 rfl (?_ : RR _ _ _ _ 109 _ _ _ _)
            refine R_isub dX12_ruled_109 (?_ : RR _ _ _ _ 110 _ _ _ _)
            refine R_iald dX12_ruled_110 (fun q110 => (?_ : RR _ _ _ _ 111 _ _ _ _))
            try simp (disch := omega) only [rup_rup, rup_sort, rupS_def, rup_s, rup_n, fup_fup, fup_s, fup_n] at q110 ⊢
            refine R_goto (t := 115) dX12_ruled_111 rfl (?_ : RR _ _ _ _ 115 _ _ _ _)
            refine R_iast dX12_ruled_115 (?_ : RR _ _ _ _ 116 _ _ _ _)
            try simp (disch := omega) only [rup_rup, rup_sort, rupS_def, rup_s, rup_n, fup_fup, fup_s, fup_n]
            refine R_iinc dX12_ruled_116 rfl (Nat.le_of_ble_eq_true rfl) (?_ : RR _ _ _ _ 119 [_, _, _, _] _ _ _)
            refine R_iinc dX12_ruled_119 rfl (Nat.le_of_ble_eq_true rfl) (?_ : RR _ _ _ _ 122 [_, _, _, _] _ _ _)
            refine R_goto (t := 4) dX12_ruled_122 rfl (?_ : RR _ _ _ _ 4 _ _ _ _)
            exact IH _
        · rw [if_pos (by omega)] at IH
          have ht2 := ht.2.2.2 (by omega) (by omega)
          refine R_iinc dX12_ruled_53 rfl (Nat.le_of_ble_eq_true rfl) (?_ : RR _ _ _ _ 56 [_, _, _, _] _ _ _)
          refine R_aload_n dX12_ruled_56 rfl (?_ : RR _ _ _ _ 57 _ _ _ _)
          refine R_getr dX12_ruled_57 flX12_51 cok_12 rfl (by decide) (?_ : RR _ _ _ _ 60 _ _ _ _)
          refine R_iload_n dX12_ruled_60 rfl (?_ : RR _ _ _ _ 61 _ _ _ _)
          refine R_iconst dX12_ruled_61 (?_ : RR _ _ _ _ 62 _ _ _ _)
          refine R_isub dX12_ruled_62 (?_ : RR _ _ _ _ 63 _ _ _ _)
          refine R_iload_n dX12_ruled_63 rfl (?_ : RR _ _ _ _ 64 _ _ _ _)
          refine R_sipush dX12_ruled_64 rfl (?_ : RR _ _ _ _ 67 _ _ _ _)
          refine R_isub dX12_ruled_67 (?_ : RR _ _ _ _ 68 _ _ _ _)
          refine R_aload_n dX12_ruled_68 rfl (?_ : RR _ _ _ _ 69 _ _ _ _)
          refine R_getr dX12_ruled_69 flX12_51 cok_12 rfl (by decide) (?_ : RR _ _ _ _ 72 _ _ _ _)
          refine R_iload_n dX12_ruled_72 rfl (?_ : RR _ _ _ _ 73 _ _ _ _)
          refine R_iconst dX12_ruled_73 (?_ : RR _ _ _ _ 74 _ _ _ _)
          refine R_isub dX12_ruled_74 (?_ : RR _ _ _ _ 75 _ _ _ _)
          refine R_iald dX12_ruled_75 (fun q75 => (?_ : RR _ _ _ _ 76 _ _ _ _))
          try simp (disch := omega) only [rup_rup, rup_sort, rupS_def, rup_s, rup_n, fup_fup, fup_s, fup_n] at q75 ⊢
          refine R_aload_n dX12_ruled_76 rfl (?_ : RR _ _ _ _ 77 _ _ _ _)
          refine R_getr dX12_ruled_77 flX12_51 cok_12 rfl (by decide) (?_ : RR _ _ _ _ 80 _ _ _ _)
          refine R_iload_n dX12_ruled_80 rfl (?_ : RR _ _ _ _ 81 _ _ _ _)
          refine R_iald dX12_ruled_81 (fun q81 => (?_ : RR _ _ _ _ 82 _ _ _ _))
          try simp (disch := omega) only [rup_rup, rup_sort, rupS_def, rup_s, rup_n, fup_fup, fup_s, fup_n] at q81 ⊢
          refine R_cSi3 dX12_ruled_82 msX12_worked mlX12_267 (by decide) (Nat.le_of_ble_eq_true rfl) (Nat.le_of_ble_eq_true rfl) (T_X12_worked) (?_ : RR _ _ _ _ 85 _ _ _ _)
          try simp (disch := omega) only [rup_rup, rup_sort, rupS_def, rup_s, rup_n, fup_fup, fup_s, fup_n]
          refine R_wrap ?_
          refine R_iast (hz := w32_r _) dX12_ruled_85 (?_ : RR _ _ _ _ 86 _ _ _ _)
          try simp (disch := omega) only [rup_rup, rup_sort, rupS_def, rup_s, rup_n, fup_fup, fup_s, fup_n]
          refine R_goto (t := 119) dX12_ruled_86 rfl (?_ : RR _ _ _ _ 119 _ _ _ _)
          refine R_iinc dX12_ruled_119 rfl (Nat.le_of_ble_eq_true rfl) (?_ : RR _ _ _ _ 122 [_, _, _, _] _ _ _)
          refine R_goto (t := 4) dX12_ruled_122 rfl (?_ : RR _ _ _ _ 4 _ _ _ _)
          exact IH _
      · rw [if_pos c23] at IH
        have ht2 := ht.2.2.1 c23
        refine R_aload_n dX12_ruled_26 rfl (?_ : RR _ _ _ _ 27 _ _ _ _)
        refine R_getr dX12_ruled_27 flX12_51 cok_12 rfl (by decide) (?_ : RR _ _ _ _ 30 _ _ _ _)
        refine R_iload_n dX12_ruled_30 rfl (?_ : RR _ _ _ _ 31 _ _ _ _)
        refine R_iconst dX12_ruled_31 (?_ : RR _ _ _ _ 32 _ _ _ _)
        refine R_isub dX12_ruled_32 (?_ : RR _ _ _ _ 33 _ _ _ _)
        refine R_aload_n dX12_ruled_33 rfl (?_ : RR _ _ _ _ 34 _ _ _ _)
        refine R_getr dX12_ruled_34 flX12_51 cok_12 rfl (by decide) (?_ : RR _ _ _ _ 37 _ _ _ _)
        refine R_iload_n dX12_ruled_37 rfl (?_ : RR _ _ _ _ 38 _ _ _ _)
        refine R_iconst dX12_ruled_38 (?_ : RR _ _ _ _ 39 _ _ _ _)
        refine R_isub dX12_ruled_39 (?_ : RR _ _ _ _ 40 _ _ _ _)
        refine R_iald dX12_ruled_40 (fun q40 => (?_ : RR _ _ _ _ 41 _ _ _ _))
        try simp (disch := omega) only [rup_rup, rup_sort, rupS_def, rup_s, rup_n, fup_fup, fup_s, fup_n] at q40 ⊢
        refine R_ineg dX12_ruled_41 (?_ : RR _ _ _ _ 42 _ _ _ _)
        refine R_wrap ?_
        refine R_iast (hz := w32_r _) dX12_ruled_42 (?_ : RR _ _ _ _ 43 _ _ _ _)
        try simp (disch := omega) only [rup_rup, rup_sort, rupS_def, rup_s, rup_n, fup_fup, fup_s, fup_n]
        refine R_goto (t := 119) dX12_ruled_43 rfl (?_ : RR _ _ _ _ 119 _ _ _ _)
        refine R_iinc dX12_ruled_119 rfl (Nat.le_of_ble_eq_true rfl) (?_ : RR _ _ _ _ 122 [_, _, _, _] _ _ _)
        refine R_goto (t := 4) dX12_ruled_122 rfl (?_ : RR _ _ _ _ 4 _ _ _ _)
        exact IH _
  refine R_iconst dX12_ruled_0 (?_ : RR _ _ _ _ 1 _ _ _ _)
  refine R_istore_n dX12_ruled_1 (Nat.le_of_ble_eq_true rfl) (?_ : RR _ _ _ _ 2 [_, _, _, _] _ _ _)
  refine R_iconst dX12_ruled_2 (?_ : RR _ _ _ _ 3 _ _ _ _)
  refine R_istore_n dX12_ruled_3 (Nat.le_of_ble_eq_true rfl) (?_ : RR _ _ _ _ 4 [_, _, _, _] _ _ _)
  have L0 := L n 0 pU (by omega)
  simp only [it, rup_self] at L0
  exact L0
