/-! fractions -/
theorem lDiv_of {a b : Int} (ha : 0 ≤ a) (ha2 : r64 a) (hb : 0 < b) (hb2 : r64 b) : Int64.ofInt a / Int64.ofInt b = Int64.ofInt (a / b) := by
  have hle : a / b ≤ a := Int.ediv_le_self b ha
  have hnn : 0 ≤ a / b := Int.ediv_nonneg ha (by omega)
  apply Int64.toInt_inj.mp
  rw [Int64.toInt_div_of_ne_right _ _ (fun e => by
    have : Int64.ofInt b = Int64.ofInt (-1) := e
    have := (l_eq hb2 (by omega)).mp this
    omega), r64_i ha2, r64_i hb2, r64_i (by omega), Int.tdiv_eq_ediv_of_nonneg ha]
theorem lDiv_pos {a b : Int} (ha : 0 ≤ a) (ha2 : r64 a) (hb : 0 < b) (hb2 : r64 b) : lDiv a b = a / b := by
  have hle : a / b ≤ a := Int.ediv_le_self b ha
  have hnn : 0 ≤ a / b := Int.ediv_nonneg ha (by omega)
  unfold lDiv
  rw [lDiv_of ha ha2 hb hb2, r64_i (by omega)]
theorem lRem_pos {a b : Int} (ha : 0 ≤ a) (ha2 : r64 a) (hb : 0 < b) (hb2 : r64 b) : lRem a b = a % b := by
  have h1 : a - a / b * b = a % b := by
    have := Int.emod_def a b
    rw [Int.mul_comm] at this
    exact this.symm
  have h2 := Int.emod_nonneg a (show b ≠ 0 by omega)
  have h3 := Int.emod_lt_of_pos a hb
  unfold lRem
  rw [lDiv_of ha ha2 hb hb2, ← Int64.ofInt_mul, ← Int64.ofInt_sub, h1, r64_i (by omega)]
theorem lRemN {a b : Nat} (ha : a ≤ 10000000000000) (hb : 0 < b) (hb2 : b ≤ 10000000000000) : lRem (a : Int) (b : Int) = ((a % b : Nat) : Int) := by
  rw [lRem_pos (by omega) (by omega) (by omega) (by omega)]
  rfl
theorem lDivN {a b : Nat} (ha : a ≤ 10000000000000) (hb : 0 < b) (hb2 : b ≤ 10000000000000) : lDiv (a : Int) (b : Int) = ((a / b : Nat) : Int) := by
  rw [lDiv_pos (by omega) (by omega) (by omega) (by omega)]
  rfl
theorem gcd_st {a b : Nat} : Nat.gcd b (a % b) = Nat.gcd a b := by
  rw [Nat.gcd_comm b, ← Nat.gcd_rec, Nat.gcd_comm]
theorem mod_half {b c : Nat} (h0 : c ≠ 0) (h1 : c < b) : 2 * (b % c) < b := by
  have h2 := Nat.mod_lt b (show 0 < c by omega)
  have h3 := Nat.div_add_mod b c
  have h4 : 1 ≤ b / c := (Nat.le_div_iff_mul_le (by omega)).mpr (by omega)
  have h5 : c * 1 ≤ c * (b / c) := Nat.mul_le_mul_left c h4
  omega
section FR
variable {h : Nat → Int → Int}
theorem T_X12_common : ∀ (n a b : Nat), b < 2 ^ n → a ≤ 10000000000000 → b ≤ 10000000000000 → MT mX12_common (2 * n) [pL a, pL b] h (some (pL (Nat.gcd a b))) h := by
  have Z : ∀ a : Nat, a ≤ 10000000000000 → MT mX12_common 0 [pL a, pL ((0 : Nat) : Int)] h (some (pL (Nat.gcd a 0))) h := fun a ha => by
    refine MT.of (fun Q hQ => (?_ : RR mX12_common _ _ _ _ [pL a, pU, pL 0, pU] _ _ _))
    rw [Nat.gcd_zero_right] at hQ
    refine R_lload_n dX12_common_0 rfl (?_ : RR _ _ _ _ 1 _ _ _ _)
    refine R_lconst (z := 0) dX12_common_1 rfl (?_ : RR _ _ _ _ 2 _ _ _ _)
    refine R_lcmp dX12_common_2 (by first | assumption | omega) (by first | assumption | omega) (?_ : RR _ _ _ _ 3 _ _ _ _)
    refine R_if_ne (t := 10) dX12_common_3 rfl (fun c3 => ?_) (fun c3 => ?_)
    · exfalso; omega
    refine R_lload_n dX12_common_6 rfl (?_ : RR _ _ _ _ 7 _ _ _ _)
    refine R_goto (t := 17) dX12_common_7 rfl (?_ : RR _ _ _ _ 17 _ _ _ _)
    exact R_lreturn dX12_common_17 trivial hQ
  intro n
  induction n with
  | zero =>
    intro a b hb ha hb2
    obtain rfl : b = 0 := by simpa using hb
    exact Z a ha
  | succ n ih =>
    intro a b hb ha hb2
    by_cases q : b = 0
    · subst q
      exact MT.up (Z a ha) (by omega)
    · have hc := Nat.mod_lt a (show 0 < b by omega)
      have hrem := lRemN (a := a) (b := b) ha (by omega) hb2
      have hT : MT mX12_common (2 * n + 1) [pL b, pL ((a % b : Nat) : Int)] h (some (pL (Nat.gcd a b))) h := by
        rw [← gcd_st]
        by_cases y : a % b = 0
        · rw [y]
          exact MT.up (Z b hb2) (by omega)
        · have hh := mod_half y hc
          have hrem2 := lRemN (a := b) (b := a % b) hb2 (by omega) (by omega)
          have hT2 := ih (a % b) (b % (a % b)) (by rw [Nat.pow_succ] at hb; omega) (by omega) (by have := Nat.mod_lt b (show 0 < a % b by omega); omega)
          rw [gcd_st] at hT2
          generalize a % b = c at y hc hh hrem hrem2 hT2
          refine MT.of (fun Q hQ => (?_ : RR mX12_common _ _ _ _ [pL b, pU, pL c, pU] _ _ _))
          refine R_lload_n dX12_common_0 rfl (?_ : RR _ _ _ _ 1 _ _ _ _)
          refine R_lconst (z := 0) dX12_common_1 rfl (?_ : RR _ _ _ _ 2 _ _ _ _)
          refine R_lcmp dX12_common_2 (by first | assumption | omega) (by first | assumption | omega) (?_ : RR _ _ _ _ 3 _ _ _ _)
          rw [if_neg (by omega), if_neg (by omega)]
          refine R_if_ne (t := 10) dX12_common_3 rfl (fun c3 => ?_) (fun c3 => ?_)
          rotate_left
          · exfalso; omega
          refine R_lload_n dX12_common_10 rfl (?_ : RR _ _ _ _ 11 _ _ _ _)
          refine R_lload_n dX12_common_11 rfl (?_ : RR _ _ _ _ 12 _ _ _ _)
          refine R_lload_n dX12_common_12 rfl (?_ : RR _ _ _ _ 13 _ _ _ _)
          refine R_lrem dX12_common_13 (by omega) (by omega) (?_ : RR _ _ _ _ 14 _ _ _ _)
          rw [hrem2]
          refine R_cSl2 dX12_common_14 msX12_common mlX12_109 (by omega) (Nat.le_of_ble_eq_true rfl) (Nat.le_of_ble_eq_true rfl) (hT2) (?_ : RR _ _ _ _ 17 _ _ _ _)
          exact R_lreturn dX12_common_17 trivial hQ
      refine MT.of (fun Q hQ => (?_ : RR mX12_common _ _ _ _ [pL a, pU, pL b, pU] _ _ _))
      refine R_lload_n dX12_common_0 rfl (?_ : RR _ _ _ _ 1 _ _ _ _)
      refine R_lconst (z := 0) dX12_common_1 rfl (?_ : RR _ _ _ _ 2 _ _ _ _)
      refine R_lcmp dX12_common_2 (by first | assumption | omega) (by first | assumption | omega) (?_ : RR _ _ _ _ 3 _ _ _ _)
      rw [if_neg (by omega), if_neg (by omega)]
      refine R_if_ne (t := 10) dX12_common_3 rfl (fun c3 => ?_) (fun c3 => ?_)
      rotate_left
      · exfalso; omega
      refine R_lload_n dX12_common_10 rfl (?_ : RR _ _ _ _ 11 _ _ _ _)
      refine R_lload_n dX12_common_11 rfl (?_ : RR _ _ _ _ 12 _ _ _ _)
      refine R_lload_n dX12_common_12 rfl (?_ : RR _ _ _ _ 13 _ _ _ _)
      refine R_lrem dX12_common_13 (by omega) (by omega) (?_ : RR _ _ _ _ 14 _ _ _ _)
      rw [hrem]
      refine R_cSl2 dX12_common_14 msX12_common mlX12_109 (by omega) (Nat.le_of_ble_eq_true rfl) (Nat.le_of_ble_eq_true rfl) (hT) (?_ : RR _ _ _ _ 17 _ _ _ _)
      exact R_lreturn dX12_common_17 trivial hQ
/-- both numbers in lowest terms, the lower first -/
def frL (u l : Nat) : List Int := [((l / Nat.gcd u l : Nat) : Int), ((u / Nat.gcd u l : Nat) : Int)]
theorem T_X11_tellFraction {u l : Nat} (hu : u ≤ 1000000000000) (hl : 1 ≤ l ∧ l ≤ 1000000000) : MT mX11_tellFraction 1 [pR 0, pL u, pL l] h none (tlR h (frL u l)) := by
  refine MT.of (fun Q hQ => (?_ : RR mX11_tellFraction _ _ _ _ [pR 0, pL u, pU, pL l, pU, pU, pU, pU, pU, pU, pU, pU] _ _ _))
  obtain ⟨g, hg⟩ : ∃ g, g = Nat.gcd u l := ⟨_, rfl⟩
  have hg1 : 0 < g := by rw [hg]; exact Nat.gcd_pos_of_pos_right u (by omega)
  have hg2 : g ≤ l := by rw [hg]; exact Nat.gcd_le_right u (by omega)
  have d1 := lDivN (a := u) (b := g) (by omega) hg1 (by omega)
  have d2 := lDivN (a := l) (b := g) (by omega) hg1 (by omega)
  have l1 : u / g ≤ u := Nat.div_le_self _ _
  have l2 : l / g ≤ l := Nat.div_le_self _ _
  unfold frL at hQ
  rw [← hg] at hQ
  obtain ⟨U, hU⟩ : ∃ U, U = u / g := ⟨_, rfl⟩
  obtain ⟨W, hW⟩ : ∃ W, W = l / g := ⟨_, rfl⟩
  rw [← hU] at hQ d1 l1
  rw [← hW] at hQ d2 l2
  have E : ∀ (z : Int) (w9 w10 w11 : PV), RR mX11_tellFraction 1 0 0 44 [pR 0, pL u, pU, pL l, pU, pL g, pU, pL z, pU, w9, w10, w11] [] (shp0, rf0, h) Q := by
    intro z w9 w10 w11
    by_cases q : g = 1
    · refine R_lload dX11_tellFraction_44 rfl (?_ : RR _ _ _ _ 46 _ _ _ _)
      refine R_lconst (z := 1) dX11_tellFraction_46 rfl (?_ : RR _ _ _ _ 47 _ _ _ _)
      refine R_lcmp dX11_tellFraction_47 (by first | assumption | omega) (by first | assumption | omega) (?_ : RR _ _ _ _ 48 _ _ _ _)
      rw [if_neg (by omega), if_pos (by omega)]
      refine R_if_ge (t := 55) dX11_tellFraction_48 rfl (fun c48 => ?_) (fun c48 => ?_)
      rotate_left
      · exfalso; omega
      refine R_lload dX11_tellFraction_55 rfl (?_ : RR _ _ _ _ 57 _ _ _ _)
      refine R_lstore dX11_tellFraction_57 (Nat.le_of_ble_eq_true rfl) (?_ : RR _ _ _ _ 59 [_, _, _, _, _, _, _, _, _, _, _, _] _ _ _)
      refine R_aload_n dX11_tellFraction_59 rfl (?_ : RR _ _ _ _ 60 _ _ _ _)
      refine R_getr dX11_tellFraction_60 flX11_87 cok_11 rfl (by decide) (?_ : RR _ _ _ _ 63 _ _ _ _)
      refine R_cVv0 dX11_tellFraction_63 mvX3_clear mlX11_239 (by decide) (by decide) (Nat.le_of_ble_eq_true rfl) (Nat.le_of_ble_eq_true rfl) (T_tlc) (?_ : RR _ _ _ _ 66 _ _ _ _)
      refine R_aload_n dX11_tellFraction_66 rfl (?_ : RR _ _ _ _ 67 _ _ _ _)
      refine R_getr dX11_tellFraction_67 flX11_87 cok_11 rfl (by decide) (?_ : RR _ _ _ _ 70 _ _ _ _)
      refine R_lload_n dX11_tellFraction_70 rfl (?_ : RR _ _ _ _ 71 _ _ _ _)
      refine R_lload dX11_tellFraction_71 rfl (?_ : RR _ _ _ _ 73 _ _ _ _)
      refine R_ldiv dX11_tellFraction_73 (by omega) (by omega) (?_ : RR _ _ _ _ 74 _ _ _ _)
      rw [d1]
      refine R_cVv1 dX11_tellFraction_74 mvX3_add mlX11_243 (by decide) (by decide) (Nat.le_of_ble_eq_true rfl) (Nat.le_of_ble_eq_true rfl) (T_tla (by simp) (by omega)) (?_ : RR _ _ _ _ 77 _ _ _ _)
      refine R_aload_n dX11_tellFraction_77 rfl (?_ : RR _ _ _ _ 78 _ _ _ _)
      refine R_getr dX11_tellFraction_78 flX11_87 cok_11 rfl (by decide) (?_ : RR _ _ _ _ 81 _ _ _ _)
      refine R_lload_n dX11_tellFraction_81 rfl (?_ : RR _ _ _ _ 82 _ _ _ _)
      refine R_lload dX11_tellFraction_82 rfl (?_ : RR _ _ _ _ 84 _ _ _ _)
      refine R_ldiv dX11_tellFraction_84 (by omega) (by omega) (?_ : RR _ _ _ _ 85 _ _ _ _)
      rw [d2]
      refine R_cVv1 dX11_tellFraction_85 mvX3_add mlX11_243 (by decide) (by decide) (Nat.le_of_ble_eq_true rfl) (Nat.le_of_ble_eq_true rfl) (T_tla (by simp) (by omega)) (?_ : RR _ _ _ _ 88 _ _ _ _)
      exact R_return dX11_tellFraction_88 trivial hQ
    · refine R_lload dX11_tellFraction_44 rfl (?_ : RR _ _ _ _ 46 _ _ _ _)
      refine R_lconst (z := 1) dX11_tellFraction_46 rfl (?_ : RR _ _ _ _ 47 _ _ _ _)
      refine R_lcmp dX11_tellFraction_47 (by first | assumption | omega) (by first | assumption | omega) (?_ : RR _ _ _ _ 48 _ _ _ _)
      rw [if_neg (by omega), if_neg (by omega)]
      refine R_if_ge (t := 55) dX11_tellFraction_48 rfl (fun c48 => ?_) (fun c48 => ?_)
      rotate_left
      · exfalso; omega
      refine R_lload dX11_tellFraction_55 rfl (?_ : RR _ _ _ _ 57 _ _ _ _)
      refine R_lstore dX11_tellFraction_57 (Nat.le_of_ble_eq_true rfl) (?_ : RR _ _ _ _ 59 [_, _, _, _, _, _, _, _, _, _, _, _] _ _ _)
      refine R_aload_n dX11_tellFraction_59 rfl (?_ : RR _ _ _ _ 60 _ _ _ _)
      refine R_getr dX11_tellFraction_60 flX11_87 cok_11 rfl (by decide) (?_ : RR _ _ _ _ 63 _ _ _ _)
      refine R_cVv0 dX11_tellFraction_63 mvX3_clear mlX11_239 (by decide) (by decide) (Nat.le_of_ble_eq_true rfl) (Nat.le_of_ble_eq_true rfl) (T_tlc) (?_ : RR _ _ _ _ 66 _ _ _ _)
      refine R_aload_n dX11_tellFraction_66 rfl (?_ : RR _ _ _ _ 67 _ _ _ _)
      refine R_getr dX11_tellFraction_67 flX11_87 cok_11 rfl (by decide) (?_ : RR _ _ _ _ 70 _ _ _ _)
      refine R_lload_n dX11_tellFraction_70 rfl (?_ : RR _ _ _ _ 71 _ _ _ _)
      refine R_lload dX11_tellFraction_71 rfl (?_ : RR _ _ _ _ 73 _ _ _ _)
      refine R_ldiv dX11_tellFraction_73 (by omega) (by omega) (?_ : RR _ _ _ _ 74 _ _ _ _)
      rw [d1]
      refine R_cVv1 dX11_tellFraction_74 mvX3_add mlX11_243 (by decide) (by decide) (Nat.le_of_ble_eq_true rfl) (Nat.le_of_ble_eq_true rfl) (T_tla (by simp) (by omega)) (?_ : RR _ _ _ _ 77 _ _ _ _)
      refine R_aload_n dX11_tellFraction_77 rfl (?_ : RR _ _ _ _ 78 _ _ _ _)
      refine R_getr dX11_tellFraction_78 flX11_87 cok_11 rfl (by decide) (?_ : RR _ _ _ _ 81 _ _ _ _)
      refine R_lload_n dX11_tellFraction_81 rfl (?_ : RR _ _ _ _ 82 _ _ _ _)
      refine R_lload dX11_tellFraction_82 rfl (?_ : RR _ _ _ _ 84 _ _ _ _)
      refine R_ldiv dX11_tellFraction_84 (by omega) (by omega) (?_ : RR _ _ _ _ 85 _ _ _ _)
      rw [d2]
      refine R_cVv1 dX11_tellFraction_85 mvX3_add mlX11_243 (by decide) (by decide) (Nat.le_of_ble_eq_true rfl) (Nat.le_of_ble_eq_true rfl) (T_tla (by simp) (by omega)) (?_ : RR _ _ _ _ 88 _ _ _ _)
      exact R_return dX11_tellFraction_88 trivial hQ
  have Z : ∀ (i a : Nat) (w10 w11 : PV), i ≤ 100 → a = g → RR mX11_tellFraction 1 0 0 9 [pR 0, pL u, pU, pL l, pU, pL a, pU, pL ((0 : Nat) : Int), pU, pI i, w10, w11] [] (shp0, rf0, h) Q := by
    intro i a w10 w11 hi ha
    subst ha
    by_cases q : i = 100
    · refine R_iload dX11_tellFraction_9 rfl (?_ : RR _ _ _ _ 11 _ _ _ _)
      refine R_bipush dX11_tellFraction_11 rfl (?_ : RR _ _ _ _ 13 _ _ _ _)
      refine R_icmp_ge (t := 44) dX11_tellFraction_13 rfl (fun c13 => ?_) (fun c13 => ?_)
      rotate_left
      · exfalso; omega
      exact E _ _ _ _
    · refine R_iload dX11_tellFraction_9 rfl (?_ : RR _ _ _ _ 11 _ _ _ _)
      refine R_bipush dX11_tellFraction_11 rfl (?_ : RR _ _ _ _ 13 _ _ _ _)
      refine R_icmp_ge (t := 44) dX11_tellFraction_13 rfl (fun c13 => ?_) (fun c13 => ?_)
      · exfalso; omega
      refine R_lload dX11_tellFraction_16 rfl (?_ : RR _ _ _ _ 18 _ _ _ _)
      refine R_lconst (z := 0) dX11_tellFraction_18 rfl (?_ : RR _ _ _ _ 19 _ _ _ _)
      refine R_lcmp dX11_tellFraction_19 (by first | assumption | omega) (by first | assumption | omega) (?_ : RR _ _ _ _ 20 _ _ _ _)
      rw [if_neg (by omega), if_pos (by omega)]
      refine R_if_eq (t := 44) dX11_tellFraction_20 rfl (fun c20 => ?_) (fun c20 => ?_)
      rotate_left
      · exfalso; omega
      exact E _ _ _ _
  have S : ∀ (i a b : Nat) (w10 w11 : PV), i < 100 → b ≠ 0 → a ≤ 10000000000000 → b ≤ 10000000000000 → (∀ w10 w11 : PV, RR mX11_tellFraction 1 0 0 9 [pR 0, pL u, pU, pL l, pU, pL b, pU, pL ((a % b : Nat) : Int), pU, pI (i + 1 : Nat), w10, w11] [] (shp0, rf0, h) Q) → RR mX11_tellFraction 1 0 0 9 [pR 0, pL u, pU, pL l, pU, pL a, pU, pL b, pU, pI i, w10, w11] [] (shp0, rf0, h) Q := by
    intro i a b w10 w11 hi hb ha hb2 K
    have hrem := lRemN (a := a) (b := b) ha (by omega) hb2
    refine R_iload dX11_tellFraction_9 rfl (?_ : RR _ _ _ _ 11 _ _ _ _)
    refine R_bipush dX11_tellFraction_11 rfl (?_ : RR _ _ _ _ 13 _ _ _ _)
    refine R_icmp_ge (t := 44) dX11_tellFraction_13 rfl (fun c13 => ?_) (fun c13 => ?_)
    · exfalso; omega
    refine R_lload dX11_tellFraction_16 rfl (?_ : RR _ _ _ _ 18 _ _ _ _)
    refine R_lconst (z := 0) dX11_tellFraction_18 rfl (?_ : RR _ _ _ _ 19 _ _ _ _)
    refine R_lcmp dX11_tellFraction_19 (by first | assumption | omega) (by first | assumption | omega) (?_ : RR _ _ _ _ 20 _ _ _ _)
    rw [if_neg (by omega), if_neg (by omega)]
    refine R_if_eq (t := 44) dX11_tellFraction_20 rfl (fun c20 => ?_) (fun c20 => ?_)
    · exfalso; omega
    refine R_lload dX11_tellFraction_23 rfl (?_ : RR _ _ _ _ 25 _ _ _ _)
    refine R_lload dX11_tellFraction_25 rfl (?_ : RR _ _ _ _ 27 _ _ _ _)
    refine R_lrem dX11_tellFraction_27 (by omega) (by omega) (?_ : RR _ _ _ _ 28 _ _ _ _)
    rw [hrem]
    refine R_lstore dX11_tellFraction_28 (Nat.le_of_ble_eq_true rfl) (?_ : RR _ _ _ _ 30 [_, _, _, _, _, _, _, _, _, _, _, _] _ _ _)
    refine R_lload dX11_tellFraction_30 rfl (?_ : RR _ _ _ _ 32 _ _ _ _)
    refine R_lstore dX11_tellFraction_32 (Nat.le_of_ble_eq_true rfl) (?_ : RR _ _ _ _ 34 [_, _, _, _, _, _, _, _, _, _, _, _] _ _ _)
    refine R_lload dX11_tellFraction_34 rfl (?_ : RR _ _ _ _ 36 _ _ _ _)
    refine R_lstore dX11_tellFraction_36 (Nat.le_of_ble_eq_true rfl) (?_ : RR _ _ _ _ 38 [_, _, _, _, _, _, _, _, _, _, _, _] _ _ _)
    refine R_iinc dX11_tellFraction_38 rfl (Nat.le_of_ble_eq_true rfl) (?_ : RR _ _ _ _ 41 [_, _, _, _, _, _, _, _, _, _, _, _] _ _ _)
    refine R_goto (t := 9) dX11_tellFraction_41 rfl (?_ : RR _ _ _ _ 9 _ _ _ _)
    exact K _ _
  have L : ∀ (n i a b : Nat) (w10 w11 : PV), 2 * n + i ≤ 100 → b < 2 ^ n → a ≤ 10000000000000 → b ≤ 10000000000000 → Nat.gcd a b = g → RR mX11_tellFraction 1 0 0 9 [pR 0, pL u, pU, pL l, pU, pL a, pU, pL b, pU, pI i, w10, w11] [] (shp0, rf0, h) Q := by
    intro n
    induction n with
    | zero =>
      intro i a b w10 w11 hi hb ha hb2 hgg
      obtain rfl : b = 0 := by simpa using hb
      rw [Nat.gcd_zero_right] at hgg
      exact Z i a w10 w11 (by omega) hgg
    | succ n ih =>
      intro i a b w10 w11 hi hb ha hb2 hgg
      by_cases q : b = 0
      · subst q
        rw [Nat.gcd_zero_right] at hgg
        exact Z i a w10 w11 (by omega) hgg
      · have hc := Nat.mod_lt a (show 0 < b by omega)
        refine S i a b w10 w11 (by omega) q ha hb2 (fun w10 w11 => ?_)
        rw [← gcd_st] at hgg
        by_cases y : a % b = 0
        · rw [y] at hgg ⊢
          rw [Nat.gcd_zero_right] at hgg
          exact Z (i + 1) b w10 w11 (by omega) hgg
        · have hh := mod_half y hc
          rw [← gcd_st] at hgg
          refine S (i + 1) b (a % b) w10 w11 (by omega) y hb2 (by omega) (fun w10 w11 => ?_)
          exact ih (i + 1 + 1) (a % b) (b % (a % b)) w10 w11 (by omega) (by rw [Nat.pow_succ] at hb; omega) (by omega) (by have := Nat.mod_lt b (show 0 < a % b by omega); omega) hgg
  have L0 := fun w10 w11 => L 40 0 u l w10 w11 (by omega) (Nat.lt_of_le_of_lt hl.2 (by decide)) (by omega) (by omega) hg.symm
  refine R_lload_n dX11_tellFraction_0 rfl (?_ : RR _ _ _ _ 1 _ _ _ _)
  refine R_lstore dX11_tellFraction_1 (Nat.le_of_ble_eq_true rfl) (?_ : RR _ _ _ _ 3 [_, _, _, _, _, _, _, _, _, _, _, _] _ _ _)
  refine R_lload_n dX11_tellFraction_3 rfl (?_ : RR _ _ _ _ 4 _ _ _ _)
  refine R_lstore dX11_tellFraction_4 (Nat.le_of_ble_eq_true rfl) (?_ : RR _ _ _ _ 6 [_, _, _, _, _, _, _, _, _, _, _, _] _ _ _)
  refine R_iconst dX11_tellFraction_6 (?_ : RR _ _ _ _ 7 _ _ _ _)
  refine R_istore dX11_tellFraction_7 (Nat.le_of_ble_eq_true rfl) (?_ : RR _ _ _ _ 9 [_, _, _, _, _, _, _, _, _, _, _, _] _ _ _)
  exact L0 _ _
theorem T_X12_tellsFraction {u l : Nat} (hu : u ≤ 1000000000000) (hl : 1 ≤ l ∧ l ≤ 1000000000) : MT mX12_tellsFraction 81 [pR 147, pL u, pL l] h none (tmR h (frL u l)) := by
  refine MT.of (fun Q hQ => (?_ : RR mX12_tellsFraction _ _ _ _ [pR 147, pL u, pU, pL l, pU, pU, pU] _ _ _))
  have hT := T_X12_common (h := h) 40 u l (Nat.lt_of_le_of_lt hl.2 (by decide)) (by omega) (by omega)
  unfold frL at hQ
  obtain ⟨g, hg⟩ : ∃ g, g = Nat.gcd u l := ⟨_, rfl⟩
  have hg1 : 0 < g := by rw [hg]; exact Nat.gcd_pos_of_pos_right u (by omega)
  have hg2 : g ≤ l := by rw [hg]; exact Nat.gcd_le_right u (by omega)
  rw [← hg] at hQ hT
  have d1 := lDivN (a := u) (b := g) (by omega) hg1 (by omega)
  have d2 := lDivN (a := l) (b := g) (by omega) hg1 (by omega)
  have l1 : u / g ≤ u := Nat.div_le_self _ _
  have l2 : l / g ≤ l := Nat.div_le_self _ _
  obtain ⟨U, hU⟩ : ∃ U, U = u / g := ⟨_, rfl⟩
  obtain ⟨W, hW⟩ : ∃ W, W = l / g := ⟨_, rfl⟩
  rw [← hU] at hQ d1 l1
  rw [← hW] at hQ d2 l2
  refine R_lload_n dX12_tellsFraction_0 rfl (?_ : RR _ _ _ _ 1 _ _ _ _)
  refine R_lload_n dX12_tellsFraction_1 rfl (?_ : RR _ _ _ _ 2 _ _ _ _)
  refine R_cSl2 dX12_tellsFraction_2 msX12_common mlX12_109 (by decide) (Nat.le_of_ble_eq_true rfl) (Nat.le_of_ble_eq_true rfl) (hT) (?_ : RR _ _ _ _ 5 _ _ _ _)
  refine R_lstore dX12_tellsFraction_5 (Nat.le_of_ble_eq_true rfl) (?_ : RR _ _ _ _ 7 [_, _, _, _, _, _, _] _ _ _)
  refine R_aload_n dX12_tellsFraction_7 rfl (?_ : RR _ _ _ _ 8 _ _ _ _)
  refine R_iconst dX12_tellsFraction_8 (?_ : RR _ _ _ _ 9 _ _ _ _)
  refine R_puti (zk := 1) dX12_tellsFraction_9 flX12_113 cok_12 (by decide) (fun q hq => by cases hq; rfl) rfl (?_ : RR _ _ _ _ 12 _ _ _ _)
  show RR _ _ _ _ _ _ _ (shp0, rf0, tmR h []) _
  refine R_aload_n dX12_tellsFraction_12 rfl (?_ : RR _ _ _ _ 13 _ _ _ _)
  refine R_lload_n dX12_tellsFraction_13 rfl (?_ : RR _ _ _ _ 14 _ _ _ _)
  refine R_lload dX12_tellsFraction_14 rfl (?_ : RR _ _ _ _ 16 _ _ _ _)
  refine R_ldiv dX12_tellsFraction_16 (by omega) (by omega) (?_ : RR _ _ _ _ 17 _ _ _ _)
  rw [d1]
  refine R_cVv1 dX12_tellsFraction_17 mvX12_enters mlX12_116 (by decide) (by decide) (Nat.le_of_ble_eq_true rfl) (Nat.le_of_ble_eq_true rfl) (T_tma (by simp) (by omega)) (?_ : RR _ _ _ _ 20 _ _ _ _)
  refine R_aload_n dX12_tellsFraction_20 rfl (?_ : RR _ _ _ _ 21 _ _ _ _)
  refine R_lload_n dX12_tellsFraction_21 rfl (?_ : RR _ _ _ _ 22 _ _ _ _)
  refine R_lload dX12_tellsFraction_22 rfl (?_ : RR _ _ _ _ 24 _ _ _ _)
  refine R_ldiv dX12_tellsFraction_24 (by omega) (by omega) (?_ : RR _ _ _ _ 25 _ _ _ _)
  rw [d2]
  refine R_cVv1 dX12_tellsFraction_25 mvX12_enters mlX12_116 (by decide) (by decide) (Nat.le_of_ble_eq_true rfl) (Nat.le_of_ble_eq_true rfl) (T_tma (by simp) (by omega)) (?_ : RR _ _ _ _ 28 _ _ _ _)
  exact R_return dX12_tellsFraction_28 trivial hQ
theorem frL_l {u l : Nat} : (frL u l).reverse.length ≤ 12 := by
  show 2 ≤ 12
  omega
end FR
