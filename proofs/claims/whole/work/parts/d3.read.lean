section RDS
variable {k : Nat} {h h1 h2 h3 h4 : Nat → Int → Int} {n b i : Nat} {σ : Int → Int}
theorem mlJ_164 : Cond.methodLink RX12 164 yJ0_length_8abf5 ∈ tblG := gw_t (tb_6 173 rfl) rfl
theorem mlJ_170 : Cond.methodLink RX12 170 yJ0_charAt_5068e ∈ tblG := gw_t (tb_6 183 rfl) rfl
/-- the place of a sign in a String constant -/
def amgG (i : Nat) (c : Int) : Nat → Nat → Int
  | 0, _ => -1
  | j + 1, k => if stC i k = c then k else amgG i c j (k + 1)
def amI (i : Nat) (c : Int) : Int := amgG i c (stN i) 0
theorem amgG_b {c : Int} : ∀ (j k : Nat), -1 ≤ amgG i c j k ∧ amgG i c j k < (k + j : Nat)
  | 0, k => by unfold amgG; omega
  | j + 1, k => by
    unfold amgG
    split
    · omega
    · have := amgG_b (c := c) j (k + 1)
      omega
theorem T_X12_among {p : Nat} (hi : i < 6) (hp : h 147 16 = p) (hb : h 147 17 = b) (hpb : p ≤ b) (hb80 : b ≤ 80) (hσ : ∀ p : Nat, p < b → h 156 p = σ p ∧ 0 ≤ σ p ∧ σ p ≤ 255) (hσn : ∀ p : Nat, b ≤ p → σ p = -1) : MT mX12_among 4 [pR 147, pR (1000 + i)] h (some (pI (amI i (σ p)))) h := by
  refine MT.of (fun Q hQ => (?_ : RR mX12_among _ _ _ _ [pR 147, pR (1000 + i), pU] _ _ _))
  have hN := (stN_e i hi).2
  have hL := T_length (h := h) hi
  have key : ∀ (j k : Nat), k + j = stN i → Q (some (pI (amgG i (σ p) j k))) (shp0, rf0, h) → RR mX12_among 4 0 0 2 [pR 147, pR (1000 + i), pI k] [] (shp0, rf0, h) Q := by
    intro j
    induction j with
    | zero =>
      intro k hk hq
      have K : RR mX12_among 4 0 0 7 [pR 147, pR (1000 + i), pI k] [pI (stN i), pI k] (shp0, rf0, h) Q := by
        refine R_icmp_ge (t := 46) dX12_among_7 rfl (fun c7 => ?_) (fun c7 => ?_)
        rotate_left
        · exfalso; omega
        refine R_iconst dX12_among_46 (?_ : RR _ _ _ _ 47 _ _ _ _)
        exact R_ireturn dX12_among_47 trivial hq
      refine R_iload_n (n := 2) dX12_among_2 rfl (R_aload_n (n := 1) dX12_among_3 rfl (R_cVS0 (M2 := mJ_length) (idx := 164) (d2 := 1) hi dX12_among_4 mvJ_length mlJ_164 (Nat.le_of_ble_eq_true rfl) (Nat.le_of_ble_eq_true rfl) (Nat.le_of_ble_eq_true rfl) hL K))
    | succ j ih =>
      intro k hk hq
      unfold amgG at hq
      have hC := T_charAt (h := h) hi (show k < stN i by omega)
      have hcb := stC_e i hi k (by omega)
      have IH := ih (k + 1) (by omega)
      clear ih
      have K : RR mX12_among 4 0 0 7 [pR 147, pR (1000 + i), pI k] [pI (stN i), pI k] (shp0, rf0, h) Q := by
        by_cases q : p < b
        · have hs := hσ p q
          rw [← hs.1] at hq IH
          have K26 : RR mX12_among 4 0 0 26 [pR 147, pR (1000 + i), pI k] [pI (stC i k)] (shp0, rf0, h) Q := by
            by_cases y : stC i k = h 156 p
            · rw [if_pos y] at hq
              clear IH
              generalize stC i k = c at *
              refine R_aload_n dX12_among_26 rfl (?_ : RR _ _ _ _ 27 _ _ _ _)
              refine R_getr dX12_among_27 flX12_39 cok_12 rfl (by decide) (?_ : RR _ _ _ _ 30 _ _ _ _)
              refine R_aload_n dX12_among_30 rfl (?_ : RR _ _ _ _ 31 _ _ _ _)
              refine R_geti (z := 16) dX12_among_31 flX12_151 cok_12 rfl (by decide) rfl (fun q31 => (?_ : RR _ _ _ _ 34 _ _ _ _))
              rw [hp] at q31 ⊢
              refine R_iald dX12_among_34 (fun q34 => (?_ : RR _ _ _ _ 35 _ _ _ _))
              refine R_icmp_ne (t := 40) dX12_among_35 rfl (fun c35 => ?_) (fun c35 => ?_)
              · exfalso; omega
              refine R_iload_n dX12_among_38 rfl (?_ : RR _ _ _ _ 39 _ _ _ _)
              exact R_ireturn dX12_among_39 trivial hq
            · rw [if_neg y] at hq
              have K2 := IH hq
              rw [show ((k + 1 : Nat) : Int) = (k : Int) + 1 by omega] at K2
              clear IH
              generalize stC i k = c at *
              refine R_aload_n dX12_among_26 rfl (?_ : RR _ _ _ _ 27 _ _ _ _)
              refine R_getr dX12_among_27 flX12_39 cok_12 rfl (by decide) (?_ : RR _ _ _ _ 30 _ _ _ _)
              refine R_aload_n dX12_among_30 rfl (?_ : RR _ _ _ _ 31 _ _ _ _)
              refine R_geti (z := 16) dX12_among_31 flX12_151 cok_12 rfl (by decide) rfl (fun q31 => (?_ : RR _ _ _ _ 34 _ _ _ _))
              rw [hp] at q31 ⊢
              refine R_iald dX12_among_34 (fun q34 => (?_ : RR _ _ _ _ 35 _ _ _ _))
              refine R_icmp_ne (t := 40) dX12_among_35 rfl (fun c35 => ?_) (fun c35 => ?_)
              rotate_left
              · exfalso; omega
              refine R_iinc dX12_among_40 rfl (Nat.le_of_ble_eq_true rfl) (?_ : RR _ _ _ _ 43 [_, _, _] _ _ _)
              refine R_goto (t := 2) dX12_among_43 rfl (?_ : RR _ _ _ _ 2 _ _ _ _)
              exact K2
          have K21 : RR mX12_among 4 0 0 21 [pR 147, pR (1000 + i), pI k] [] (shp0, rf0, h) Q := R_aload_n (n := 1) dX12_among_21 rfl (R_iload_n (n := 2) dX12_among_22 rfl (R_cVS1 (M2 := mJ_charAt) (idx := 170) (d2 := 3) hi dX12_among_23 mvJ_charAt mlJ_170 (Nat.le_of_ble_eq_true rfl) (Nat.le_of_ble_eq_true rfl) (Nat.le_of_ble_eq_true rfl) hC K26))
          clear IH hC hq
          refine R_icmp_ge (t := 46) dX12_among_7 rfl (fun c7 => ?_) (fun c7 => ?_)
          · exfalso; omega
          refine R_aload_n dX12_among_10 rfl (?_ : RR _ _ _ _ 11 _ _ _ _)
          refine R_geti (z := 16) dX12_among_11 flX12_151 cok_12 rfl (by decide) rfl (fun q11 => (?_ : RR _ _ _ _ 14 _ _ _ _))
          rw [hp] at q11 ⊢
          refine R_aload_n dX12_among_14 rfl (?_ : RR _ _ _ _ 15 _ _ _ _)
          refine R_geti (z := 17) dX12_among_15 flX12_157 cok_12 rfl (by decide) rfl (fun q15 => (?_ : RR _ _ _ _ 18 _ _ _ _))
          rw [hb] at q15 ⊢
          refine R_icmp_ge (t := 46) dX12_among_18 rfl (fun c18 => ?_) (fun c18 => ?_)
          · exfalso; omega
          exact K21
        · rw [hσn p (by omega)] at hq
          have e : ∀ (j k : Nat), k + j ≤ stN i → amgG i (-1) j k = -1 := by
            intro j
            induction j with
            | zero => intro k _; rfl
            | succ j ih =>
              intro k hk
              unfold amgG
              have := stC_e i hi k (by omega)
              rw [if_neg (by omega)]
              exact ih (k + 1) (by omega)
          rw [if_neg (by omega), e j (k + 1) (by omega)] at hq
          clear IH hC
          refine R_icmp_ge (t := 46) dX12_among_7 rfl (fun c7 => ?_) (fun c7 => ?_)
          · exfalso; omega
          refine R_aload_n dX12_among_10 rfl (?_ : RR _ _ _ _ 11 _ _ _ _)
          refine R_geti (z := 16) dX12_among_11 flX12_151 cok_12 rfl (by decide) rfl (fun q11 => (?_ : RR _ _ _ _ 14 _ _ _ _))
          rw [hp] at q11 ⊢
          refine R_aload_n dX12_among_14 rfl (?_ : RR _ _ _ _ 15 _ _ _ _)
          refine R_geti (z := 17) dX12_among_15 flX12_157 cok_12 rfl (by decide) rfl (fun q15 => (?_ : RR _ _ _ _ 18 _ _ _ _))
          rw [hb] at q15 ⊢
          refine R_icmp_ge (t := 46) dX12_among_18 rfl (fun c18 => ?_) (fun c18 => ?_)
          rotate_left
          · exfalso; omega
          refine R_iconst dX12_among_46 (?_ : RR _ _ _ _ 47 _ _ _ _)
          exact R_ireturn dX12_among_47 trivial hq
      refine R_iload_n (n := 2) dX12_among_2 rfl (R_aload_n (n := 1) dX12_among_3 rfl (R_cVS0 (M2 := mJ_length) (idx := 164) (d2 := 1) hi dX12_among_4 mvJ_length mlJ_164 (Nat.le_of_ble_eq_true rfl) (Nat.le_of_ble_eq_true rfl) (Nat.le_of_ble_eq_true rfl) hL K))
  have K := key (stN i) 0 (by omega) hQ
  have K : RR mX12_among 4 0 0 2 [pR 147, pR (1000 + i), pI 0] [] (shp0, rf0, h) Q := K
  refine R_iconst dX12_among_0 (?_ : RR _ _ _ _ 1 _ _ _ _)
  refine R_istore_n dX12_among_1 (Nat.le_of_ble_eq_true rfl) (?_ : RR _ _ _ _ 2 [_, _, _] _ _ _)
  exact K
theorem T_X12_takesOf {p : Nat} (hi : i < 6) (hp : h 147 16 = p) (hb : h 147 17 = b) (hpb : p ≤ b) (hb80 : b ≤ 80) (hσ : ∀ p : Nat, p < b → h 156 p = σ p ∧ 0 ≤ σ p ∧ σ p ≤ 255) (hσn : ∀ p : Nat, b ≤ p → σ p = -1) : MT mX12_takesOf 5 [pR 147, pR (1000 + i)] h (some (pI (amI i (σ p)))) (rup h 147 (fup (h 147) 16 (if 0 ≤ amI i (σ p) then (p : Int) + 1 else p))) := by
  have hT := T_X12_among hi hp hb hpb hb80 hσ hσn
  have hN := (stN_e i hi).2
  have hA : -1 ≤ amI i (σ p) ∧ amI i (σ p) < 13 := by
    have := amgG_b (i := i) (c := σ p) (stN i) 0
    unfold amI
    omega
  refine MT.of (fun Q hQ => (?_ : RR mX12_takesOf _ _ _ _ [pR 147, pR (1000 + i), pU] _ _ _))
  generalize amI i (σ p) = z at *
  by_cases q : 0 ≤ z
  · rw [if_pos q] at hQ
    refine R_aload_n dX12_takesOf_0 rfl (?_ : RR _ _ _ _ 1 _ _ _ _)
    refine R_aload_n dX12_takesOf_1 rfl (?_ : RR _ _ _ _ 2 _ _ _ _)
    refine R_cVi1 dX12_takesOf_2 mvX12_among mlX12_174 (by decide) (by decide) (Nat.le_of_ble_eq_true rfl) (Nat.le_of_ble_eq_true rfl) (hT) (?_ : RR _ _ _ _ 5 _ _ _ _)
    refine R_istore_n dX12_takesOf_5 (Nat.le_of_ble_eq_true rfl) (?_ : RR _ _ _ _ 6 [_, _, _] _ _ _)
    refine R_aload_n dX12_takesOf_6 rfl (?_ : RR _ _ _ _ 7 _ _ _ _)
    refine R_dup dX12_takesOf_7 (fun _ => rfl) (?_ : RR _ _ _ _ 8 _ _ _ _)
    refine R_geti (z := 16) dX12_takesOf_8 flX12_151 cok_12 rfl (by decide) rfl (fun q8 => (?_ : RR _ _ _ _ 11 _ _ _ _))
    rw [hp] at q8 ⊢
    refine R_iload_n dX12_takesOf_11 rfl (?_ : RR _ _ _ _ 12 _ _ _ _)
    refine R_if_lt (t := 19) dX12_takesOf_12 rfl (fun c12 => ?_) (fun c12 => ?_)
    · exfalso; omega
    refine R_iconst dX12_takesOf_15 (?_ : RR _ _ _ _ 16 _ _ _ _)
    refine R_goto (t := 20) dX12_takesOf_16 rfl (?_ : RR _ _ _ _ 20 _ _ _ _)
    refine R_cSi1 dX12_takesOf_20 msX12_flag mlX12_134 (by decide) (Nat.le_of_ble_eq_true rfl) (Nat.le_of_ble_eq_true rfl) (T_X12_flag (Or.inr rfl)) (?_ : RR _ _ _ _ 23 _ _ _ _)
    refine R_iadd dX12_takesOf_23 (?_ : RR _ _ _ _ 24 _ _ _ _)
    refine R_puti (zk := 16) dX12_takesOf_24 flX12_151 cok_12 (by decide) (fun q hq => by cases hq; rfl) rfl (?_ : RR _ _ _ _ 27 _ _ _ _)
    refine R_iload_n dX12_takesOf_27 rfl (?_ : RR _ _ _ _ 28 _ _ _ _)
    exact R_ireturn dX12_takesOf_28 trivial hQ
  · rw [if_neg q] at hQ
    have e : rup h 147 (fup (h 147) 16 ((p : Int) + 0)) = rup h 147 (fup (h 147) 16 (p : Int)) := by rw [Int.add_zero]
    rw [← e] at hQ
    refine R_aload_n dX12_takesOf_0 rfl (?_ : RR _ _ _ _ 1 _ _ _ _)
    refine R_aload_n dX12_takesOf_1 rfl (?_ : RR _ _ _ _ 2 _ _ _ _)
    refine R_cVi1 dX12_takesOf_2 mvX12_among mlX12_174 (by decide) (by decide) (Nat.le_of_ble_eq_true rfl) (Nat.le_of_ble_eq_true rfl) (hT) (?_ : RR _ _ _ _ 5 _ _ _ _)
    refine R_istore_n dX12_takesOf_5 (Nat.le_of_ble_eq_true rfl) (?_ : RR _ _ _ _ 6 [_, _, _] _ _ _)
    refine R_aload_n dX12_takesOf_6 rfl (?_ : RR _ _ _ _ 7 _ _ _ _)
    refine R_dup dX12_takesOf_7 (fun _ => rfl) (?_ : RR _ _ _ _ 8 _ _ _ _)
    refine R_geti (z := 16) dX12_takesOf_8 flX12_151 cok_12 rfl (by decide) rfl (fun q8 => (?_ : RR _ _ _ _ 11 _ _ _ _))
    rw [hp] at q8 ⊢
    refine R_iload_n dX12_takesOf_11 rfl (?_ : RR _ _ _ _ 12 _ _ _ _)
    refine R_if_lt (t := 19) dX12_takesOf_12 rfl (fun c12 => ?_) (fun c12 => ?_)
    rotate_left
    · exfalso; omega
    refine R_iconst dX12_takesOf_19 (?_ : RR _ _ _ _ 20 _ _ _ _)
    refine R_cSi1 dX12_takesOf_20 msX12_flag mlX12_134 (by decide) (Nat.le_of_ble_eq_true rfl) (Nat.le_of_ble_eq_true rfl) (T_X12_flag (Or.inl rfl)) (?_ : RR _ _ _ _ 23 _ _ _ _)
    refine R_iadd dX12_takesOf_23 (?_ : RR _ _ _ _ 24 _ _ _ _)
    refine R_puti (zk := 16) dX12_takesOf_24 flX12_151 cok_12 (by decide) (fun q hq => by cases hq; rfl) rfl (?_ : RR _ _ _ _ 27 _ _ _ _)
    refine R_iload_n dX12_takesOf_27 rfl (?_ : RR _ _ _ _ 28 _ _ _ _)
    exact R_ireturn dX12_takesOf_28 trivial hQ
theorem T_X12_isDigit {p : Nat} (hp : h 147 16 = p) (hb : h 147 17 = b) (hpb : p ≤ b) (hb80 : b ≤ 80) (hσ : ∀ p : Nat, p < b → h 156 p = σ p ∧ 0 ≤ σ p ∧ σ p ≤ 255) (hσn : ∀ p : Nat, b ≤ p → σ p = -1) : MT mX12_isDigit 1 [pR 147] h (some (pI (if 48 ≤ σ p ∧ σ p ≤ 57 then 1 else 0))) h := by
  refine MT.of (fun Q hQ => (?_ : RR mX12_isDigit _ _ _ _ [pR 147] _ _ _))
  by_cases q : p < b
  · have hs := hσ p q
    rw [← hs.1] at hQ hs
    have hT := T_X12_in (v := h 156 p) (a := 48) (b := 57) (h := h)
    by_cases y : 48 ≤ h 156 p ∧ h 156 p ≤ 57
    · rw [if_pos y] at hQ hT
      refine R_aload_n dX12_isDigit_0 rfl (?_ : RR _ _ _ _ 1 _ _ _ _)
      refine R_geti (z := 16) dX12_isDigit_1 flX12_151 cok_12 rfl (by decide) rfl (fun q1 => (?_ : RR _ _ _ _ 4 _ _ _ _))
      rw [hp] at q1 ⊢
      refine R_aload_n dX12_isDigit_4 rfl (?_ : RR _ _ _ _ 5 _ _ _ _)
      refine R_geti (z := 17) dX12_isDigit_5 flX12_157 cok_12 rfl (by decide) rfl (fun q5 => (?_ : RR _ _ _ _ 8 _ _ _ _))
      rw [hb] at q5 ⊢
      refine R_icmp_ge (t := 37) dX12_isDigit_8 rfl (fun c8 => ?_) (fun c8 => ?_)
      · exfalso; omega
      refine R_aload_n dX12_isDigit_11 rfl (?_ : RR _ _ _ _ 12 _ _ _ _)
      refine R_getr dX12_isDigit_12 flX12_39 cok_12 rfl (by decide) (?_ : RR _ _ _ _ 15 _ _ _ _)
      refine R_aload_n dX12_isDigit_15 rfl (?_ : RR _ _ _ _ 16 _ _ _ _)
      refine R_geti (z := 16) dX12_isDigit_16 flX12_151 cok_12 rfl (by decide) rfl (fun q16 => (?_ : RR _ _ _ _ 19 _ _ _ _))
      rw [hp] at q16 ⊢
      refine R_iald dX12_isDigit_19 (fun q19 => (?_ : RR _ _ _ _ 20 _ _ _ _))
      refine R_i2l dX12_isDigit_20 (by first | assumption | omega) (?_ : RR _ _ _ _ 21 _ _ _ _)
      refine R_ldc2 (z := 48) dX12_isDigit_21 klX12_160 (?_ : RR _ _ _ _ 24 _ _ _ _)
      refine R_ldc2 (z := 57) dX12_isDigit_24 klX12_162 (?_ : RR _ _ _ _ 27 _ _ _ _)
      refine R_cSi3 dX12_isDigit_27 msX12_in mlX12_120 (by decide) (Nat.le_of_ble_eq_true rfl) (Nat.le_of_ble_eq_true rfl) (hT) (?_ : RR _ _ _ _ 30 _ _ _ _)
      refine R_if_eq (t := 37) dX12_isDigit_30 rfl (fun c30 => ?_) (fun c30 => ?_)
      · exfalso; omega
      refine R_iconst dX12_isDigit_33 (?_ : RR _ _ _ _ 34 _ _ _ _)
      refine R_goto (t := 38) dX12_isDigit_34 rfl (?_ : RR _ _ _ _ 38 _ _ _ _)
      exact R_ireturn dX12_isDigit_38 (by first | exact Or.inl rfl | exact Or.inr rfl | exact ok_ite | omega | assumption) hQ
    · rw [if_neg y] at hQ hT
      refine R_aload_n dX12_isDigit_0 rfl (?_ : RR _ _ _ _ 1 _ _ _ _)
      refine R_geti (z := 16) dX12_isDigit_1 flX12_151 cok_12 rfl (by decide) rfl (fun q1 => (?_ : RR _ _ _ _ 4 _ _ _ _))
      rw [hp] at q1 ⊢
      refine R_aload_n dX12_isDigit_4 rfl (?_ : RR _ _ _ _ 5 _ _ _ _)
      refine R_geti (z := 17) dX12_isDigit_5 flX12_157 cok_12 rfl (by decide) rfl (fun q5 => (?_ : RR _ _ _ _ 8 _ _ _ _))
      rw [hb] at q5 ⊢
      refine R_icmp_ge (t := 37) dX12_isDigit_8 rfl (fun c8 => ?_) (fun c8 => ?_)
      · exfalso; omega
      refine R_aload_n dX12_isDigit_11 rfl (?_ : RR _ _ _ _ 12 _ _ _ _)
      refine R_getr dX12_isDigit_12 flX12_39 cok_12 rfl (by decide) (?_ : RR _ _ _ _ 15 _ _ _ _)
      refine R_aload_n dX12_isDigit_15 rfl (?_ : RR _ _ _ _ 16 _ _ _ _)
      refine R_geti (z := 16) dX12_isDigit_16 flX12_151 cok_12 rfl (by decide) rfl (fun q16 => (?_ : RR _ _ _ _ 19 _ _ _ _))
      rw [hp] at q16 ⊢
      refine R_iald dX12_isDigit_19 (fun q19 => (?_ : RR _ _ _ _ 20 _ _ _ _))
      refine R_i2l dX12_isDigit_20 (by first | assumption | omega) (?_ : RR _ _ _ _ 21 _ _ _ _)
      refine R_ldc2 (z := 48) dX12_isDigit_21 klX12_160 (?_ : RR _ _ _ _ 24 _ _ _ _)
      refine R_ldc2 (z := 57) dX12_isDigit_24 klX12_162 (?_ : RR _ _ _ _ 27 _ _ _ _)
      refine R_cSi3 dX12_isDigit_27 msX12_in mlX12_120 (by decide) (Nat.le_of_ble_eq_true rfl) (Nat.le_of_ble_eq_true rfl) (hT) (?_ : RR _ _ _ _ 30 _ _ _ _)
      refine R_if_eq (t := 37) dX12_isDigit_30 rfl (fun c30 => ?_) (fun c30 => ?_)
      rotate_left
      · exfalso; omega
      refine R_iconst dX12_isDigit_37 (?_ : RR _ _ _ _ 38 _ _ _ _)
      exact R_ireturn dX12_isDigit_38 (by first | exact Or.inl rfl | exact Or.inr rfl | exact ok_ite | omega | assumption) hQ
  · rw [if_neg (by rw [hσn p (by omega)]; omega)] at hQ
    refine R_aload_n dX12_isDigit_0 rfl (?_ : RR _ _ _ _ 1 _ _ _ _)
    refine R_geti (z := 16) dX12_isDigit_1 flX12_151 cok_12 rfl (by decide) rfl (fun q1 => (?_ : RR _ _ _ _ 4 _ _ _ _))
    rw [hp] at q1 ⊢
    refine R_aload_n dX12_isDigit_4 rfl (?_ : RR _ _ _ _ 5 _ _ _ _)
    refine R_geti (z := 17) dX12_isDigit_5 flX12_157 cok_12 rfl (by decide) rfl (fun q5 => (?_ : RR _ _ _ _ 8 _ _ _ _))
    rw [hb] at q5 ⊢
    refine R_icmp_ge (t := 37) dX12_isDigit_8 rfl (fun c8 => ?_) (fun c8 => ?_)
    rotate_left
    · exfalso; omega
    refine R_iconst dX12_isDigit_37 (?_ : RR _ _ _ _ 38 _ _ _ _)
    exact R_ireturn dX12_isDigit_38 (by first | exact Or.inl rfl | exact Or.inr rfl | exact ok_ite | omega | assumption) hQ
theorem T_number1 {p : Nat} (hp : h 147 16 = p) (hb : h 147 17 = b) (hpb : p ≤ b) (hb80 : b ≤ 80) (hσ : ∀ p : Nat, p < b → h 156 p = σ p ∧ 0 ≤ σ p ∧ σ p ≤ 255) (hσn : ∀ p : Nat, b ≤ p → σ p = -1) : MT mX12_number 2 [pR 147, pI 1] h (some (pI (if 48 ≤ σ p ∧ σ p ≤ 57 then σ p - 48 else -1))) (rup h 147 (fup (h 147) 16 (if 48 ≤ σ p ∧ σ p ≤ 57 then (p : Int) + 1 else p))) := by
  refine MT.of (fun Q hQ => (?_ : RR mX12_number _ _ _ _ [pR 147, pI 1, pU, pU] _ _ _))
  have hT := T_X12_isDigit hp hb hpb hb80 hσ hσn
  by_cases y : 48 ≤ σ p ∧ σ p ≤ 57
  · rw [if_pos y] at hT
    rw [if_pos y, if_pos y] at hQ
    have hpb2 : p < b := by
      by_cases q : p < b
      · exact q
      · have := hσn p (by omega); omega
    have hs := hσ p hpb2
    rw [← hs.1] at hQ y
    rw [show h 156 p - 48 = 10 * 0 + h 156 p - 48 by omega] at hQ
    have K : RR mX12_number 2 0 0 13 [pR 147, pI 1, pI (10 * 0 + h 156 p - 48), pI (0 + 1)] [] (shp0, rf0, rup h 147 (fup (h 147) 16 ((p : Int) + 1))) Q := by
      refine R_iload_n dX12_number_13 rfl (?_ : RR _ _ _ _ 14 _ _ _ _)
      refine R_iload_n dX12_number_14 rfl (?_ : RR _ _ _ _ 15 _ _ _ _)
      refine R_icmp_ge (t := 59) dX12_number_15 rfl (fun c15 => ?_) (fun c15 => ?_)
      rotate_left
      · exfalso; omega
      refine R_iload_n dX12_number_59 rfl (?_ : RR _ _ _ _ 60 _ _ _ _)
      exact R_ireturn dX12_number_60 trivial hQ
    refine R_aload_n dX12_number_0 rfl (?_ : RR _ _ _ _ 1 _ _ _ _)
    refine R_cVi0 dX12_number_1 mvX12_isDigit mlX12_178 (by decide) (by decide) (Nat.le_of_ble_eq_true rfl) (Nat.le_of_ble_eq_true rfl) (hT) (?_ : RR _ _ _ _ 4 _ _ _ _)
    refine R_if_ne (t := 9) dX12_number_4 rfl (fun c4 => ?_) (fun c4 => ?_)
    rotate_left
    · exfalso; omega
    refine R_iconst dX12_number_9 (?_ : RR _ _ _ _ 10 _ _ _ _)
    refine R_istore_n dX12_number_10 (Nat.le_of_ble_eq_true rfl) (?_ : RR _ _ _ _ 11 [_, _, _, _] _ _ _)
    refine R_iconst dX12_number_11 (?_ : RR _ _ _ _ 12 _ _ _ _)
    refine R_istore_n dX12_number_12 (Nat.le_of_ble_eq_true rfl) (?_ : RR _ _ _ _ 13 [_, _, _, _] _ _ _)
    skip
    · refine R_iload_n dX12_number_13 rfl (?_ : RR _ _ _ _ 14 _ _ _ _)
      refine R_iload_n dX12_number_14 rfl (?_ : RR _ _ _ _ 15 _ _ _ _)
      refine R_icmp_ge (t := 59) dX12_number_15 rfl (fun c15 => ?_) (fun c15 => ?_)
      · exfalso; omega
      refine R_aload_n dX12_number_18 rfl (?_ : RR _ _ _ _ 19 _ _ _ _)
      refine R_cVi0 dX12_number_19 mvX12_isDigit mlX12_178 (by decide) (by decide) (Nat.le_of_ble_eq_true rfl) (Nat.le_of_ble_eq_true rfl) (hT) (?_ : RR _ _ _ _ 22 _ _ _ _)
      refine R_if_eq (t := 59) dX12_number_22 rfl (fun c22 => ?_) (fun c22 => ?_)
      · exfalso; omega
      refine R_bipush dX12_number_25 rfl (?_ : RR _ _ _ _ 27 _ _ _ _)
      refine R_iload_n dX12_number_27 rfl (?_ : RR _ _ _ _ 28 _ _ _ _)
      refine R_imul dX12_number_28 (?_ : RR _ _ _ _ 29 _ _ _ _)
      refine R_aload_n dX12_number_29 rfl (?_ : RR _ _ _ _ 30 _ _ _ _)
      refine R_getr dX12_number_30 flX12_39 cok_12 rfl (by decide) (?_ : RR _ _ _ _ 33 _ _ _ _)
      refine R_aload_n dX12_number_33 rfl (?_ : RR _ _ _ _ 34 _ _ _ _)
      refine R_geti (z := 16) dX12_number_34 flX12_151 cok_12 rfl (by decide) rfl (fun q34 => (?_ : RR _ _ _ _ 37 _ _ _ _))
      rw [hp] at q34 ⊢
      refine R_iald dX12_number_37 (fun q37 => (?_ : RR _ _ _ _ 38 _ _ _ _))
      refine R_iadd dX12_number_38 (?_ : RR _ _ _ _ 39 _ _ _ _)
      refine R_bipush dX12_number_39 rfl (?_ : RR _ _ _ _ 41 _ _ _ _)
      refine R_isub dX12_number_41 (?_ : RR _ _ _ _ 42 _ _ _ _)
      refine R_istore_n dX12_number_42 (Nat.le_of_ble_eq_true rfl) (?_ : RR _ _ _ _ 43 [_, _, _, _] _ _ _)
      refine R_aload_n dX12_number_43 rfl (?_ : RR _ _ _ _ 44 _ _ _ _)
      refine R_dup dX12_number_44 (fun _ => rfl) (?_ : RR _ _ _ _ 45 _ _ _ _)
      refine R_geti (z := 16) dX12_number_45 flX12_151 cok_12 rfl (by decide) rfl (fun q45 => (?_ : RR _ _ _ _ 48 _ _ _ _))
      rw [hp] at q45 ⊢
      refine R_iconst dX12_number_48 (?_ : RR _ _ _ _ 49 _ _ _ _)
      refine R_iadd dX12_number_49 (?_ : RR _ _ _ _ 50 _ _ _ _)
      refine R_puti (zk := 16) dX12_number_50 flX12_151 cok_12 (by decide) (fun q hq => by cases hq; rfl) rfl (?_ : RR _ _ _ _ 53 _ _ _ _)
      refine R_iinc dX12_number_53 rfl (Nat.le_of_ble_eq_true rfl) (?_ : RR _ _ _ _ 56 [_, _, _, _] _ _ _)
      refine R_goto (t := 13) dX12_number_56 rfl (?_ : RR _ _ _ _ 13 _ _ _ _)
      exact K
  · rw [if_neg y] at hT
    rw [if_neg y, if_neg y, ← hp, fup_self, rup_self] at hQ
    refine R_aload_n dX12_number_0 rfl (?_ : RR _ _ _ _ 1 _ _ _ _)
    refine R_cVi0 dX12_number_1 mvX12_isDigit mlX12_178 (by decide) (by decide) (Nat.le_of_ble_eq_true rfl) (Nat.le_of_ble_eq_true rfl) (hT) (?_ : RR _ _ _ _ 4 _ _ _ _)
    refine R_if_ne (t := 9) dX12_number_4 rfl (fun c4 => ?_) (fun c4 => ?_)
    · exfalso; omega
    refine R_iconst dX12_number_7 (?_ : RR _ _ _ _ 8 _ _ _ _)
    exact R_ireturn dX12_number_8 trivial hQ
end RDS
