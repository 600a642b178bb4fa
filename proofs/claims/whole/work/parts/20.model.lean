/-! the other: small things -/
theorem ok_ite {p : Prop} [Decidable p] : pm_ok (some .boolean) (some (pI (if p then 1 else 0))) := by
  show (if p then (1 : Int) else 0) = 0 ∨ (if p then (1 : Int) else 0) = 1
  split <;> omega
theorem T_X12_in {v a b : Int} {h : Nat → Int → Int} (hv : r64 v := by omega) (ha : r64 a := by omega) (hb : r64 b := by omega) : MT mX12_in 0 [pL v, pL a, pL b] h (some (pI (if a ≤ v ∧ v ≤ b then 1 else 0))) h := by
  refine MT.of (fun Q hQ => (?_ : RR mX12_in _ _ _ _ [pL v, pU, pL a, pU, pL b, pU] _ _ _))
  refine R_lload_n dX12_in_0 rfl (?_ : RR _ _ _ _ 1 _ _ _ _)
  refine R_lload_n dX12_in_1 rfl (?_ : RR _ _ _ _ 2 _ _ _ _)
  refine R_lcmp dX12_in_2 (by first | assumption | omega) (by first | assumption | omega) (?_ : RR _ _ _ _ 3 _ _ _ _)
  refine R_if_lt (ha := by split <;> (try split) <;> omega) (t := 17) dX12_in_3 rfl (fun c3 => ?_) (fun c3 => ?_)
  · refine R_iconst dX12_in_17 (?_ : RR _ _ _ _ 18 _ _ _ _)
    exact R_ireturn dX12_in_18 (by first | exact Or.inl rfl | exact Or.inr rfl | exact ok_ite | omega) (by (repeat' split at c3) <;> (try (repeat' split at c10)) <;> (first | (rwa [if_pos (by omega)] at hQ) | (rwa [if_neg (by omega)] at hQ) | (exfalso; omega)))
  · refine R_lload_n dX12_in_6 rfl (?_ : RR _ _ _ _ 7 _ _ _ _)
    refine R_lload dX12_in_7 rfl (?_ : RR _ _ _ _ 9 _ _ _ _)
    refine R_lcmp dX12_in_9 (by first | assumption | omega) (by first | assumption | omega) (?_ : RR _ _ _ _ 10 _ _ _ _)
    refine R_if_gt (ha := by split <;> (try split) <;> omega) (t := 17) dX12_in_10 rfl (fun c10 => ?_) (fun c10 => ?_)
    · refine R_iconst dX12_in_17 (?_ : RR _ _ _ _ 18 _ _ _ _)
      exact R_ireturn dX12_in_18 (by first | exact Or.inl rfl | exact Or.inr rfl | exact ok_ite | omega) (by (repeat' split at c3) <;> (try (repeat' split at c10)) <;> (first | (rwa [if_pos (by omega)] at hQ) | (rwa [if_neg (by omega)] at hQ) | (exfalso; omega)))
    · refine R_iconst dX12_in_13 (?_ : RR _ _ _ _ 14 _ _ _ _)
      refine R_goto (t := 18) dX12_in_14 rfl (?_ : RR _ _ _ _ 18 _ _ _ _)
      exact R_ireturn dX12_in_18 (by first | exact Or.inl rfl | exact Or.inr rfl | exact ok_ite | omega) (by (repeat' split at c3) <;> (try (repeat' split at c10)) <;> (first | (rwa [if_pos (by omega)] at hQ) | (rwa [if_neg (by omega)] at hQ) | (exfalso; omega)))
theorem T_X12_flag {z : Int} {h : Nat → Int → Int} (hz : z = 0 ∨ z = 1 := by omega) : MT mX12_flag 0 [pI z] h (some (pI z)) h := by
  refine MT.of (fun Q hQ => (?_ : RR mX12_flag _ _ _ _ [pI z] _ _ _))
  rcases hz with rfl | rfl
  · refine R_iload_n dX12_flag_0 rfl (?_ : RR _ _ _ _ 1 _ _ _ _)
    refine R_if_eq (t := 8) dX12_flag_1 rfl (fun c1 => ?_) (fun c1 => ?_)
    rotate_left
    · exfalso; omega
    refine R_iconst dX12_flag_8 (?_ : RR _ _ _ _ 9 _ _ _ _)
    exact R_ireturn dX12_flag_9 trivial hQ
  · refine R_iload_n dX12_flag_0 rfl (?_ : RR _ _ _ _ 1 _ _ _ _)
    refine R_if_eq (t := 8) dX12_flag_1 rfl (fun c1 => ?_) (fun c1 => ?_)
    · exfalso; omega
    refine R_iconst dX12_flag_4 (?_ : RR _ _ _ _ 5 _ _ _ _)
    refine R_goto (t := 9) dX12_flag_5 rfl (?_ : RR _ _ _ _ 9 _ _ _ _)
    exact R_ireturn dX12_flag_9 trivial hQ
theorem T_X12_has {s i : Nat} {h : Nat → Int → Int} (hs : s < 2147483648) (hi : i < 31 := by omega) : MT mX12_has 0 [pI s, pI i] h (some (pI (if s.testBit i then 1 else 0))) h := by
  refine MT.of (fun Q hQ => (?_ : RR mX12_has _ _ _ _ [pI s, pI i] _ _ _))
  have e := iBit hs hi
  by_cases hb : s.testBit i
  · rw [if_pos hb] at e hQ
    refine R_iload_n dX12_has_0 rfl (?_ : RR _ _ _ _ 1 _ _ _ _)
    refine R_iload_n dX12_has_1 rfl (?_ : RR _ _ _ _ 2 _ _ _ _)
    refine R_ishr dX12_has_2 (?_ : RR _ _ _ _ 3 _ _ _ _)
    refine R_iconst dX12_has_3 (?_ : RR _ _ _ _ 4 _ _ _ _)
    refine R_iand dX12_has_4 (?_ : RR _ _ _ _ 5 _ _ _ _)
    rw [e]
    refine R_iconst dX12_has_5 (?_ : RR _ _ _ _ 6 _ _ _ _)
    refine R_icmp_ne (t := 13) dX12_has_6 rfl (fun c6 => ?_) (fun c6 => ?_)
    · exfalso; omega
    refine R_iconst dX12_has_9 (?_ : RR _ _ _ _ 10 _ _ _ _)
    refine R_goto (t := 14) dX12_has_10 rfl (?_ : RR _ _ _ _ 14 _ _ _ _)
    exact R_ireturn dX12_has_14 (by first | exact Or.inl rfl | exact Or.inr rfl | exact ok_ite | omega) hQ
  · rw [if_neg hb] at e hQ
    refine R_iload_n dX12_has_0 rfl (?_ : RR _ _ _ _ 1 _ _ _ _)
    refine R_iload_n dX12_has_1 rfl (?_ : RR _ _ _ _ 2 _ _ _ _)
    refine R_ishr dX12_has_2 (?_ : RR _ _ _ _ 3 _ _ _ _)
    refine R_iconst dX12_has_3 (?_ : RR _ _ _ _ 4 _ _ _ _)
    refine R_iand dX12_has_4 (?_ : RR _ _ _ _ 5 _ _ _ _)
    rw [e]
    refine R_iconst dX12_has_5 (?_ : RR _ _ _ _ 6 _ _ _ _)
    refine R_icmp_ne (t := 13) dX12_has_6 rfl (fun c6 => ?_) (fun c6 => ?_)
    rotate_left
    · exfalso; omega
    refine R_iconst dX12_has_13 (?_ : RR _ _ _ _ 14 _ _ _ _)
    exact R_ireturn dX12_has_14 (by first | exact Or.inl rfl | exact Or.inr rfl | exact ok_ite | omega) hQ
theorem T_X12_isHalt {c : Int} {h : Nat → Int → Int} (hh : 1 ≤ h 147 3 ∧ h 147 3 ≤ 9) (hc : r32 c := by omega) : MT mX12_isHalt 1 [pR 147, pI c] h (some (pI (if 0 ≤ c ∧ c ≤ h 147 3 - 1 then 1 else 0))) h := by
  refine MT.of (fun Q hQ => (?_ : RR mX12_isHalt _ _ _ _ [pR 147, pI c] _ _ _))
  refine R_iload_n dX12_isHalt_0 rfl (?_ : RR _ _ _ _ 1 _ _ _ _)
  refine R_i2l dX12_isHalt_1 (by first | assumption | omega) (?_ : RR _ _ _ _ 2 _ _ _ _)
  refine R_lconst (z := 0) dX12_isHalt_2 rfl (?_ : RR _ _ _ _ 3 _ _ _ _)
  refine R_aload_n dX12_isHalt_3 rfl (?_ : RR _ _ _ _ 4 _ _ _ _)
  refine R_geti (z := 3) dX12_isHalt_4 flX12_13 cok_12 rfl (by decide) rfl (fun q4 => (?_ : RR _ _ _ _ 7 _ _ _ _))
  refine R_iconst dX12_isHalt_7 (?_ : RR _ _ _ _ 8 _ _ _ _)
  refine R_isub dX12_isHalt_8 (?_ : RR _ _ _ _ 9 _ _ _ _)
  refine R_i2l dX12_isHalt_9 (by first | assumption | omega) (?_ : RR _ _ _ _ 10 _ _ _ _)
  refine R_cSi3 dX12_isHalt_10 msX12_in mlX12_120 (by decide) (Nat.le_of_ble_eq_true rfl) (Nat.le_of_ble_eq_true rfl) (T_X12_in) (?_ : RR _ _ _ _ 13 _ _ _ _)
  exact R_ireturn dX12_isHalt_13 (by first | exact Or.inl rfl | exact Or.inr rfl | exact ok_ite | omega) hQ
theorem T_X12_isCoach {c : Int} {h : Nat → Int → Int} (hh : 0 ≤ h 147 4 ∧ h 147 4 ≤ 6) (hc : r32 c := by omega) : MT mX12_isCoach 1 [pR 147, pI c] h (some (pI (if 0 ≤ c ∧ c ≤ h 147 4 - 1 then 1 else 0))) h := by
  refine MT.of (fun Q hQ => (?_ : RR mX12_isCoach _ _ _ _ [pR 147, pI c] _ _ _))
  refine R_iload_n dX12_isCoach_0 rfl (?_ : RR _ _ _ _ 1 _ _ _ _)
  refine R_i2l dX12_isCoach_1 (by first | assumption | omega) (?_ : RR _ _ _ _ 2 _ _ _ _)
  refine R_lconst (z := 0) dX12_isCoach_2 rfl (?_ : RR _ _ _ _ 3 _ _ _ _)
  refine R_aload_n dX12_isCoach_3 rfl (?_ : RR _ _ _ _ 4 _ _ _ _)
  refine R_geti (z := 4) dX12_isCoach_4 flX12_124 cok_12 rfl (by decide) rfl (fun q4 => (?_ : RR _ _ _ _ 7 _ _ _ _))
  refine R_iconst dX12_isCoach_7 (?_ : RR _ _ _ _ 8 _ _ _ _)
  refine R_isub dX12_isCoach_8 (?_ : RR _ _ _ _ 9 _ _ _ _)
  refine R_i2l dX12_isCoach_9 (by first | assumption | omega) (?_ : RR _ _ _ _ 10 _ _ _ _)
  refine R_cSi3 dX12_isCoach_10 msX12_in mlX12_120 (by decide) (Nat.le_of_ble_eq_true rfl) (Nat.le_of_ble_eq_true rfl) (T_X12_in) (?_ : RR _ _ _ _ 13 _ _ _ _)
  exact R_ireturn dX12_isCoach_13 (by first | exact Or.inl rfl | exact Or.inr rfl | exact ok_ite | omega) hQ
theorem T_X12_isPassenger {c : Int} {h : Nat → Int → Int} (hh : 0 ≤ h 147 5 ∧ h 147 5 ≤ 12) (hc : r32 c := by omega) : MT mX12_isPassenger 1 [pR 147, pI c] h (some (pI (if 0 ≤ c ∧ c ≤ h 147 5 - 1 then 1 else 0))) h := by
  refine MT.of (fun Q hQ => (?_ : RR mX12_isPassenger _ _ _ _ [pR 147, pI c] _ _ _))
  refine R_iload_n dX12_isPassenger_0 rfl (?_ : RR _ _ _ _ 1 _ _ _ _)
  refine R_i2l dX12_isPassenger_1 (by first | assumption | omega) (?_ : RR _ _ _ _ 2 _ _ _ _)
  refine R_lconst (z := 0) dX12_isPassenger_2 rfl (?_ : RR _ _ _ _ 3 _ _ _ _)
  refine R_aload_n dX12_isPassenger_3 rfl (?_ : RR _ _ _ _ 4 _ _ _ _)
  refine R_geti (z := 5) dX12_isPassenger_4 flX12_127 cok_12 rfl (by decide) rfl (fun q4 => (?_ : RR _ _ _ _ 7 _ _ _ _))
  refine R_iconst dX12_isPassenger_7 (?_ : RR _ _ _ _ 8 _ _ _ _)
  refine R_isub dX12_isPassenger_8 (?_ : RR _ _ _ _ 9 _ _ _ _)
  refine R_i2l dX12_isPassenger_9 (by first | assumption | omega) (?_ : RR _ _ _ _ 10 _ _ _ _)
  refine R_cSi3 dX12_isPassenger_10 msX12_in mlX12_120 (by decide) (Nat.le_of_ble_eq_true rfl) (Nat.le_of_ble_eq_true rfl) (T_X12_in) (?_ : RR _ _ _ _ 13 _ _ _ _)
  exact R_ireturn dX12_isPassenger_13 (by first | exact Or.inl rfl | exact Or.inr rfl | exact ok_ite | omega) hQ
/-! its rows of the train: r is 154 or 155 -/
abbrev isRw (r : Nat) : Prop := shp0[r]? = some (100, 26)
def mP (f : Int → Int) (c : Int) : Int := f (2 + 2 * c + 1)
def mA (f : Int → Int) (c : Int) : Int := f (2 + 2 * c + 0)
def mS (f : Int → Int) (p : Int) : Int := f (14 + p)
theorem T_X12_placeOf {r : Nat} {c : Int} {h : Nat → Int → Int} (hr : isRw r := by assumption) (hc : 0 ≤ c ∧ c < 6 := by omega) : MT mX12_placeOf 0 [pR r, pI c] h (some (pI (mP (h r) c))) h := by
  refine MT.of (fun Q hQ => (?_ : RR mX12_placeOf _ _ _ _ [pR r, pI c] _ _ _))
  refine R_aload_n dX12_placeOf_0 rfl (?_ : RR _ _ _ _ 1 _ _ _ _)
  refine R_iconst dX12_placeOf_1 (?_ : RR _ _ _ _ 2 _ _ _ _)
  refine R_iconst dX12_placeOf_2 (?_ : RR _ _ _ _ 3 _ _ _ _)
  refine R_iload_n dX12_placeOf_3 rfl (?_ : RR _ _ _ _ 4 _ _ _ _)
  refine R_imul dX12_placeOf_4 (?_ : RR _ _ _ _ 5 _ _ _ _)
  refine R_iadd dX12_placeOf_5 (?_ : RR _ _ _ _ 6 _ _ _ _)
  refine R_iconst dX12_placeOf_6 (?_ : RR _ _ _ _ 7 _ _ _ _)
  refine R_iadd dX12_placeOf_7 (?_ : RR _ _ _ _ 8 _ _ _ _)
  refine R_iald dX12_placeOf_8 (fun q8 => (?_ : RR _ _ _ _ 9 _ _ _ _))
  exact R_ireturn dX12_placeOf_9 trivial hQ
theorem T_X12_haltOf {r : Nat} {c : Int} {h : Nat → Int → Int} (hr : isRw r := by assumption) (hc : 0 ≤ c ∧ c < 6 := by omega) : MT mX12_haltOf 1 [pR r, pI c] h (some (pI (if 0 ≤ mP (h r) c then h r 0 else mA (h r) c))) h := by
  refine MT.of (fun Q hQ => (?_ : RR mX12_haltOf _ _ _ _ [pR r, pI c] _ _ _))
  refine R_nzf (fun hz => ?_)
  have hq := nz_i hz hr (by decide) (2 + 2 * c + 1)
  have hq2 : r32 (mP (h r) c) := hq
  refine R_aload_n dX12_haltOf_0 rfl (?_ : RR _ _ _ _ 1 _ _ _ _)
  refine R_iload_n dX12_haltOf_1 rfl (?_ : RR _ _ _ _ 2 _ _ _ _)
  refine R_cSi2 dX12_haltOf_2 msX12_placeOf mlX12_130 (by decide) (Nat.le_of_ble_eq_true rfl) (Nat.le_of_ble_eq_true rfl) (T_X12_placeOf) (?_ : RR _ _ _ _ 5 _ _ _ _)
  refine R_if_ge (t := 20) dX12_haltOf_5 rfl (fun c5 => ?_) (fun c5 => ?_)
  · refine R_aload_n dX12_haltOf_20 rfl (?_ : RR _ _ _ _ 21 _ _ _ _)
    refine R_iconst dX12_haltOf_21 (?_ : RR _ _ _ _ 22 _ _ _ _)
    refine R_iald dX12_haltOf_22 (fun q22 => (?_ : RR _ _ _ _ 23 _ _ _ _))
    exact R_ireturn dX12_haltOf_23 trivial (by first | rwa [if_pos (by omega)] at hQ | rwa [if_neg (by omega)] at hQ)
  · refine R_aload_n dX12_haltOf_8 rfl (?_ : RR _ _ _ _ 9 _ _ _ _)
    refine R_iconst dX12_haltOf_9 (?_ : RR _ _ _ _ 10 _ _ _ _)
    refine R_iconst dX12_haltOf_10 (?_ : RR _ _ _ _ 11 _ _ _ _)
    refine R_iload_n dX12_haltOf_11 rfl (?_ : RR _ _ _ _ 12 _ _ _ _)
    refine R_imul dX12_haltOf_12 (?_ : RR _ _ _ _ 13 _ _ _ _)
    refine R_iadd dX12_haltOf_13 (?_ : RR _ _ _ _ 14 _ _ _ _)
    refine R_iconst dX12_haltOf_14 (?_ : RR _ _ _ _ 15 _ _ _ _)
    refine R_iadd dX12_haltOf_15 (?_ : RR _ _ _ _ 16 _ _ _ _)
    refine R_iald dX12_haltOf_16 (fun q16 => (?_ : RR _ _ _ _ 17 _ _ _ _))
    refine R_goto (t := 23) dX12_haltOf_17 rfl (?_ : RR _ _ _ _ 23 _ _ _ _)
    exact R_ireturn dX12_haltOf_23 trivial (by first | rwa [if_pos (by omega)] at hQ | rwa [if_neg (by omega)] at hQ)
theorem T_X12_trainLong {r nc : Nat} {h : Nat → Int → Int} (hnc : h 147 4 = nc) (hr : isRw r := by assumption) (h6 : nc ≤ 6 := by omega) : MT mX12_trainLong 1 [pR 147, pR r] h (some (pI (sm (fun c => if 0 ≤ mP (h r) c then 1 else 0) nc))) h := by
  refine MT.of (fun Q hQ => (?_ : RR mX12_trainLong _ _ _ _ [pR 147, pR r, pU, pU] _ _ _))
  refine R_nzf (fun hz => ?_)
  obtain ⟨G, hG⟩ : ∃ G : Nat → Int, G = fun c : Nat => if 0 ≤ mP (h r) (c : Int) then (1 : Int) else 0 := ⟨_, rfl⟩
  rw [← hG] at hQ
  have L : ∀ k i : Nat, i + k = nc → RR mX12_trainLong 1 0 0 4 [pR 147, pR r, pI (sm G i), pI i] [] (shp0, rf0, h) Q := by
    intro k
    induction k with
    | zero =>
      intro i hi 
      obtain rfl : i = nc := by omega
      refine R_iload_n dX12_trainLong_4 rfl (?_ : RR _ _ _ _ 5 _ _ _ _)
      refine R_aload_n dX12_trainLong_5 rfl (?_ : RR _ _ _ _ 6 _ _ _ _)
      refine R_geti (z := 4) dX12_trainLong_6 flX12_124 cok_12 rfl (by decide) rfl (fun q6 => (?_ : RR _ _ _ _ 9 _ _ _ _))
      rw [hnc] at q6 ⊢
      refine R_icmp_ge (t := 37) dX12_trainLong_9 rfl (fun c9 => ?_) (fun c9 => ?_)
      rotate_left
      · exfalso; omega
      refine R_iload_n dX12_trainLong_37 rfl (?_ : RR _ _ _ _ 38 _ _ _ _)
      exact R_ireturn dX12_trainLong_38 trivial hQ
    | succ k ih =>
      intro i hi 
      have hqi : r32 (mP (h r) i) := nz_i hz hr (by decide) (2 + 2 * i + 1)
      have hgi := congrFun hG i
      refine R_iload_n dX12_trainLong_4 rfl (?_ : RR _ _ _ _ 5 _ _ _ _)
      refine R_aload_n dX12_trainLong_5 rfl (?_ : RR _ _ _ _ 6 _ _ _ _)
      refine R_geti (z := 4) dX12_trainLong_6 flX12_124 cok_12 rfl (by decide) rfl (fun q6 => (?_ : RR _ _ _ _ 9 _ _ _ _))
      rw [hnc] at q6 ⊢
      refine R_icmp_ge (t := 37) dX12_trainLong_9 rfl (fun c9 => ?_) (fun c9 => ?_)
      · exfalso; omega
      refine R_iload_n dX12_trainLong_12 rfl (?_ : RR _ _ _ _ 13 _ _ _ _)
      refine R_aload_n dX12_trainLong_13 rfl (?_ : RR _ _ _ _ 14 _ _ _ _)
      refine R_iload_n dX12_trainLong_14 rfl (?_ : RR _ _ _ _ 15 _ _ _ _)
      refine R_cSi2 dX12_trainLong_15 msX12_placeOf mlX12_130 (by decide) (Nat.le_of_ble_eq_true rfl) (Nat.le_of_ble_eq_true rfl) (T_X12_placeOf) (?_ : RR _ _ _ _ 18 _ _ _ _)
      refine R_if_lt (t := 25) dX12_trainLong_18 rfl (fun c18 => ?_) (fun c18 => ?_)
      · rw [if_neg (by omega)] at hgi
        refine R_iconst dX12_trainLong_25 (?_ : RR _ _ _ _ 26 _ _ _ _)
        refine R_cSi1 dX12_trainLong_26 msX12_flag mlX12_134 (by decide) (Nat.le_of_ble_eq_true rfl) (Nat.le_of_ble_eq_true rfl) (T_X12_flag) (?_ : RR _ _ _ _ 29 _ _ _ _)
        refine R_iadd dX12_trainLong_29 (?_ : RR _ _ _ _ 30 _ _ _ _)
        rw [← hgi]
        refine R_istore_n dX12_trainLong_30 (Nat.le_of_ble_eq_true rfl) (?_ : RR _ _ _ _ 31 [_, _, _, _] _ _ _)
        refine R_iinc dX12_trainLong_31 rfl (Nat.le_of_ble_eq_true rfl) (?_ : RR _ _ _ _ 34 [_, _, _, _] _ _ _)
        refine R_goto (t := 4) dX12_trainLong_34 rfl (?_ : RR _ _ _ _ 4 _ _ _ _)
        exact ih (i + 1) (by omega)
      · rw [if_pos (by omega)] at hgi
        refine R_iconst dX12_trainLong_21 (?_ : RR _ _ _ _ 22 _ _ _ _)
        refine R_goto (t := 26) dX12_trainLong_22 rfl (?_ : RR _ _ _ _ 26 _ _ _ _)
        refine R_cSi1 dX12_trainLong_26 msX12_flag mlX12_134 (by decide) (Nat.le_of_ble_eq_true rfl) (Nat.le_of_ble_eq_true rfl) (T_X12_flag) (?_ : RR _ _ _ _ 29 _ _ _ _)
        refine R_iadd dX12_trainLong_29 (?_ : RR _ _ _ _ 30 _ _ _ _)
        rw [← hgi]
        refine R_istore_n dX12_trainLong_30 (Nat.le_of_ble_eq_true rfl) (?_ : RR _ _ _ _ 31 [_, _, _, _] _ _ _)
        refine R_iinc dX12_trainLong_31 rfl (Nat.le_of_ble_eq_true rfl) (?_ : RR _ _ _ _ 34 [_, _, _, _] _ _ _)
        refine R_goto (t := 4) dX12_trainLong_34 rfl (?_ : RR _ _ _ _ 4 _ _ _ _)
        exact ih (i + 1) (by omega)
  refine R_iconst dX12_trainLong_0 (?_ : RR _ _ _ _ 1 _ _ _ _)
  refine R_istore_n dX12_trainLong_1 (Nat.le_of_ble_eq_true rfl) (?_ : RR _ _ _ _ 2 [_, _, _, _] _ _ _)
  refine R_iconst dX12_trainLong_2 (?_ : RR _ _ _ _ 3 _ _ _ _)
  refine R_istore_n dX12_trainLong_3 (Nat.le_of_ble_eq_true rfl) (?_ : RR _ _ _ _ 4 [_, _, _, _] _ _ _)
  exact L nc 0 (by omega)
def caS (f : Int → Int) (p : Int) : Nat → Int
  | 0 => -1
  | n + 1 => if mP f n = p then n else caS f p n
theorem T_X12_coachAt {r nc : Nat} {p : Int} {h : Nat → Int → Int} (hnc : h 147 4 = nc) (hr : isRw r := by assumption) (h6 : nc ≤ 6 := by omega) (hp : r32 p := by omega) : MT mX12_coachAt 1 [pR 147, pR r, pI p] h (some (pI (caS (h r) p nc))) h := by
  refine MT.of (fun Q hQ => (?_ : RR mX12_coachAt _ _ _ _ [pR 147, pR r, pI p, pU, pU] _ _ _))
  refine R_nzf (fun hz => ?_)
  have L : ∀ k i : Nat, i + k = nc → RR mX12_coachAt 1 0 0 5 [pR 147, pR r, pI p, pI (caS (h r) p i), pI i] [] (shp0, rf0, h) Q := by
    intro k
    induction k with
    | zero =>
      intro i hi 
      obtain rfl : i = nc := by omega
      refine R_iload dX12_coachAt_5 rfl (?_ : RR _ _ _ _ 7 _ _ _ _)
      refine R_aload_n dX12_coachAt_7 rfl (?_ : RR _ _ _ _ 8 _ _ _ _)
      refine R_geti (z := 4) dX12_coachAt_8 flX12_124 cok_12 rfl (by decide) rfl (fun q8 => (?_ : RR _ _ _ _ 11 _ _ _ _))
      rw [hnc] at q8 ⊢
      refine R_icmp_ge (t := 37) dX12_coachAt_11 rfl (fun c11 => ?_) (fun c11 => ?_)
      rotate_left
      · exfalso; omega
      refine R_iload_n dX12_coachAt_37 rfl (?_ : RR _ _ _ _ 38 _ _ _ _)
      exact R_ireturn dX12_coachAt_38 trivial hQ
    | succ k ih =>
      intro i hi 
      have hqi : r32 (mP (h r) i) := nz_i hz hr (by decide) (2 + 2 * i + 1)
      have e : caS (h r) p (i + 1) = if mP (h r) i = p then (i : Int) else caS (h r) p i := rfl
      refine R_iload dX12_coachAt_5 rfl (?_ : RR _ _ _ _ 7 _ _ _ _)
      refine R_aload_n dX12_coachAt_7 rfl (?_ : RR _ _ _ _ 8 _ _ _ _)
      refine R_geti (z := 4) dX12_coachAt_8 flX12_124 cok_12 rfl (by decide) rfl (fun q8 => (?_ : RR _ _ _ _ 11 _ _ _ _))
      rw [hnc] at q8 ⊢
      refine R_icmp_ge (t := 37) dX12_coachAt_11 rfl (fun c11 => ?_) (fun c11 => ?_)
      · exfalso; omega
      refine R_aload_n dX12_coachAt_14 rfl (?_ : RR _ _ _ _ 15 _ _ _ _)
      refine R_iload dX12_coachAt_15 rfl (?_ : RR _ _ _ _ 17 _ _ _ _)
      refine R_cSi2 dX12_coachAt_17 msX12_placeOf mlX12_130 (by decide) (Nat.le_of_ble_eq_true rfl) (Nat.le_of_ble_eq_true rfl) (T_X12_placeOf) (?_ : RR _ _ _ _ 20 _ _ _ _)
      refine R_iload_n dX12_coachAt_20 rfl (?_ : RR _ _ _ _ 21 _ _ _ _)
      refine R_icmp_ne (t := 29) dX12_coachAt_21 rfl (fun c21 => ?_) (fun c21 => ?_)
      · rw [if_neg c21] at e
        refine R_iload_n dX12_coachAt_29 rfl (?_ : RR _ _ _ _ 30 _ _ _ _)
        refine R_istore_n dX12_coachAt_30 (Nat.le_of_ble_eq_true rfl) (?_ : RR _ _ _ _ 31 [_, _, _, _, _] _ _ _)
        refine R_iinc dX12_coachAt_31 rfl (Nat.le_of_ble_eq_true rfl) (?_ : RR _ _ _ _ 34 [_, _, _, _, _] _ _ _)
        refine R_goto (t := 5) dX12_coachAt_34 rfl (?_ : RR _ _ _ _ 5 _ _ _ _)
        have IH := ih (i + 1) (by omega)
        rw [e] at IH
        exact IH
      · rw [if_pos c21] at e
        refine R_iload dX12_coachAt_24 rfl (?_ : RR _ _ _ _ 26 _ _ _ _)
        refine R_goto (t := 30) dX12_coachAt_26 rfl (?_ : RR _ _ _ _ 30 _ _ _ _)
        refine R_istore_n dX12_coachAt_30 (Nat.le_of_ble_eq_true rfl) (?_ : RR _ _ _ _ 31 [_, _, _, _, _] _ _ _)
        refine R_iinc dX12_coachAt_31 rfl (Nat.le_of_ble_eq_true rfl) (?_ : RR _ _ _ _ 34 [_, _, _, _, _] _ _ _)
        refine R_goto (t := 5) dX12_coachAt_34 rfl (?_ : RR _ _ _ _ 5 _ _ _ _)
        have IH := ih (i + 1) (by omega)
        rw [e] at IH
        exact IH
  refine R_iconst dX12_coachAt_0 (?_ : RR _ _ _ _ 1 _ _ _ _)
  refine R_istore_n dX12_coachAt_1 (Nat.le_of_ble_eq_true rfl) (?_ : RR _ _ _ _ 2 [_, _, _, _, _] _ _ _)
  refine R_iconst dX12_coachAt_2 (?_ : RR _ _ _ _ 3 _ _ _ _)
  refine R_istore dX12_coachAt_3 (Nat.le_of_ble_eq_true rfl) (?_ : RR _ _ _ _ 5 [_, _, _, _, _] _ _ _)
  exact L nc 0 (by omega)
theorem T_X12_train {r nc : Nat} {h : Nat → Int → Int} (hnc : h 147 4 = nc) (hr : isRw r := by assumption) (h6 : nc ≤ 6 := by omega) : MT mX12_train 1 [pR 147, pR r] h (some (pI (bset (fun c => decide (0 ≤ mP (h r) c)) nc))) h := by
  refine MT.of (fun Q hQ => (?_ : RR mX12_train _ _ _ _ [pR 147, pR r, pU, pU] _ _ _))
  refine R_nzf (fun hz => ?_)
  generalize hP : (fun c : Nat => decide (0 ≤ mP (h r) c)) = P at hQ
  have L : ∀ k i : Nat, i + k = nc → RR mX12_train 1 0 0 4 [pR 147, pR r, pI (bset P i), pI i] [] (shp0, rf0, h) Q := by
    intro k
    induction k with
    | zero =>
      intro i hi 
      obtain rfl : i = nc := by omega
      refine R_iload_n dX12_train_4 rfl (?_ : RR _ _ _ _ 5 _ _ _ _)
      refine R_aload_n dX12_train_5 rfl (?_ : RR _ _ _ _ 6 _ _ _ _)
      refine R_geti (z := 4) dX12_train_6 flX12_124 cok_12 rfl (by decide) rfl (fun q6 => (?_ : RR _ _ _ _ 9 _ _ _ _))
      rw [hnc] at q6 ⊢
      refine R_icmp_ge (t := 36) dX12_train_9 rfl (fun c9 => ?_) (fun c9 => ?_)
      rotate_left
      · exfalso; omega
      refine R_iload_n dX12_train_36 rfl (?_ : RR _ _ _ _ 37 _ _ _ _)
      exact R_ireturn dX12_train_37 trivial hQ
    | succ k ih =>
      intro i hi 
      have hqi : r32 (mP (h r) i) := nz_i hz hr (by decide) (2 + 2 * i + 1)
      refine R_iload_n dX12_train_4 rfl (?_ : RR _ _ _ _ 5 _ _ _ _)
      refine R_aload_n dX12_train_5 rfl (?_ : RR _ _ _ _ 6 _ _ _ _)
      refine R_geti (z := 4) dX12_train_6 flX12_124 cok_12 rfl (by decide) rfl (fun q6 => (?_ : RR _ _ _ _ 9 _ _ _ _))
      rw [hnc] at q6 ⊢
      refine R_icmp_ge (t := 36) dX12_train_9 rfl (fun c9 => ?_) (fun c9 => ?_)
      · exfalso; omega
      refine R_iload_n dX12_train_12 rfl (?_ : RR _ _ _ _ 13 _ _ _ _)
      refine R_aload_n dX12_train_13 rfl (?_ : RR _ _ _ _ 14 _ _ _ _)
      refine R_iload_n dX12_train_14 rfl (?_ : RR _ _ _ _ 15 _ _ _ _)
      refine R_cSi2 dX12_train_15 msX12_placeOf mlX12_130 (by decide) (Nat.le_of_ble_eq_true rfl) (Nat.le_of_ble_eq_true rfl) (T_X12_placeOf) (?_ : RR _ _ _ _ 18 _ _ _ _)
      refine R_if_lt (t := 27) dX12_train_18 rfl (fun c18 => ?_) (fun c18 => ?_)
      · have e := bset_no (P := P) (n := i) (by rw [← hP]; simpa using c18)
        refine R_iconst dX12_train_27 (?_ : RR _ _ _ _ 28 _ _ _ _)
        refine R_ior dX12_train_28 (?_ : RR _ _ _ _ 29 _ _ _ _)
        first | rw [e] | rw [iOr_0 (bset_31 (by omega)), ← e]
        refine R_istore_n dX12_train_29 (Nat.le_of_ble_eq_true rfl) (?_ : RR _ _ _ _ 30 [_, _, _, _] _ _ _)
        refine R_iinc dX12_train_30 rfl (Nat.le_of_ble_eq_true rfl) (?_ : RR _ _ _ _ 33 [_, _, _, _] _ _ _)
        refine R_goto (t := 4) dX12_train_33 rfl (?_ : RR _ _ _ _ 4 _ _ _ _)
        exact ih (i + 1) (by omega)
      · have e := bset_or (P := P) (n := i) (by omega) (by rw [← hP]; simpa using c18)
        refine R_iconst dX12_train_21 (?_ : RR _ _ _ _ 22 _ _ _ _)
        refine R_iload_n dX12_train_22 rfl (?_ : RR _ _ _ _ 23 _ _ _ _)
        refine R_ishl dX12_train_23 (?_ : RR _ _ _ _ 24 _ _ _ _)
        refine R_goto (t := 28) dX12_train_24 rfl (?_ : RR _ _ _ _ 28 _ _ _ _)
        refine R_ior dX12_train_28 (?_ : RR _ _ _ _ 29 _ _ _ _)
        first | rw [e] | rw [iOr_0 (bset_31 (by omega)), ← e]
        refine R_istore_n dX12_train_29 (Nat.le_of_ble_eq_true rfl) (?_ : RR _ _ _ _ 30 [_, _, _, _] _ _ _)
        refine R_iinc dX12_train_30 rfl (Nat.le_of_ble_eq_true rfl) (?_ : RR _ _ _ _ 33 [_, _, _, _] _ _ _)
        refine R_goto (t := 4) dX12_train_33 rfl (?_ : RR _ _ _ _ 4 _ _ _ _)
        exact ih (i + 1) (by omega)
  refine R_iconst dX12_train_0 (?_ : RR _ _ _ _ 1 _ _ _ _)
  refine R_istore_n dX12_train_1 (Nat.le_of_ble_eq_true rfl) (?_ : RR _ _ _ _ 2 [_, _, _, _] _ _ _)
  refine R_iconst dX12_train_2 (?_ : RR _ _ _ _ 3 _ _ _ _)
  refine R_istore_n dX12_train_3 (Nat.le_of_ble_eq_true rfl) (?_ : RR _ _ _ _ 4 [_, _, _, _] _ _ _)
  exact L nc 0 (by omega)
theorem T_X12_standingAt {r nc : Nat} {c : Int} {h : Nat → Int → Int} (hnc : h 147 4 = nc) (hr : isRw r := by assumption) (h6 : nc ≤ 6 := by omega) (hc : r32 c := by omega) : MT mX12_standingAt 1 [pR 147, pR r, pI c] h (some (pI (bset (fun j => decide (mP (h r) j < 0 ∧ mA (h r) j = c)) nc))) h := by
  refine MT.of (fun Q hQ => (?_ : RR mX12_standingAt _ _ _ _ [pR 147, pR r, pI c, pU, pU] _ _ _))
  refine R_nzf (fun hz => ?_)
  generalize hP : (fun j : Nat => decide (mP (h r) j < 0 ∧ mA (h r) j = c)) = P at hQ
  have L : ∀ k i : Nat, i + k = nc → RR mX12_standingAt 1 0 0 5 [pR 147, pR r, pI c, pI (bset P i), pI i] [] (shp0, rf0, h) Q := by
    intro k
    induction k with
    | zero =>
      intro i hi 
      obtain rfl : i = nc := by omega
      refine R_iload dX12_standingAt_5 rfl (?_ : RR _ _ _ _ 7 _ _ _ _)
      refine R_aload_n dX12_standingAt_7 rfl (?_ : RR _ _ _ _ 8 _ _ _ _)
      refine R_geti (z := 4) dX12_standingAt_8 flX12_124 cok_12 rfl (by decide) rfl (fun q8 => (?_ : RR _ _ _ _ 11 _ _ _ _))
      rw [hnc] at q8 ⊢
      refine R_icmp_ge (t := 54) dX12_standingAt_11 rfl (fun c11 => ?_) (fun c11 => ?_)
      rotate_left
      · exfalso; omega
      refine R_iload_n dX12_standingAt_54 rfl (?_ : RR _ _ _ _ 55 _ _ _ _)
      exact R_ireturn dX12_standingAt_55 trivial hQ
    | succ k ih =>
      intro i hi 
      have hqi : r32 (mP (h r) i) := nz_i hz hr (by decide) (2 + 2 * i + 1)
      refine R_iload dX12_standingAt_5 rfl (?_ : RR _ _ _ _ 7 _ _ _ _)
      refine R_aload_n dX12_standingAt_7 rfl (?_ : RR _ _ _ _ 8 _ _ _ _)
      refine R_geti (z := 4) dX12_standingAt_8 flX12_124 cok_12 rfl (by decide) rfl (fun q8 => (?_ : RR _ _ _ _ 11 _ _ _ _))
      rw [hnc] at q8 ⊢
      refine R_icmp_ge (t := 54) dX12_standingAt_11 rfl (fun c11 => ?_) (fun c11 => ?_)
      · exfalso; omega
      refine R_iload_n dX12_standingAt_14 rfl (?_ : RR _ _ _ _ 15 _ _ _ _)
      refine R_aload_n dX12_standingAt_15 rfl (?_ : RR _ _ _ _ 16 _ _ _ _)
      refine R_iload dX12_standingAt_16 rfl (?_ : RR _ _ _ _ 18 _ _ _ _)
      refine R_cSi2 dX12_standingAt_18 msX12_placeOf mlX12_130 (by decide) (Nat.le_of_ble_eq_true rfl) (Nat.le_of_ble_eq_true rfl) (T_X12_placeOf) (?_ : RR _ _ _ _ 21 _ _ _ _)
      refine R_if_ge (t := 45) dX12_standingAt_21 rfl (fun c21 => ?_) (fun c21 => ?_)
      · have e := bset_no (P := P) (n := i) (by rw [← hP]; exact decide_eq_false (by omega))
        refine R_iconst dX12_standingAt_45 (?_ : RR _ _ _ _ 46 _ _ _ _)
        refine R_ior dX12_standingAt_46 (?_ : RR _ _ _ _ 47 _ _ _ _)
        first | rw [e] | rw [iOr_0 (bset_31 (by omega)), ← e]
        refine R_istore_n dX12_standingAt_47 (Nat.le_of_ble_eq_true rfl) (?_ : RR _ _ _ _ 48 [_, _, _, _, _] _ _ _)
        refine R_iinc dX12_standingAt_48 rfl (Nat.le_of_ble_eq_true rfl) (?_ : RR _ _ _ _ 51 [_, _, _, _, _] _ _ _)
        refine R_goto (t := 5) dX12_standingAt_51 rfl (?_ : RR _ _ _ _ 5 _ _ _ _)
        exact ih (i + 1) (by omega)
      · refine R_aload_n dX12_standingAt_24 rfl (?_ : RR _ _ _ _ 25 _ _ _ _)
        refine R_iconst dX12_standingAt_25 (?_ : RR _ _ _ _ 26 _ _ _ _)
        refine R_iconst dX12_standingAt_26 (?_ : RR _ _ _ _ 27 _ _ _ _)
        refine R_iload dX12_standingAt_27 rfl (?_ : RR _ _ _ _ 29 _ _ _ _)
        refine R_imul dX12_standingAt_29 (?_ : RR _ _ _ _ 30 _ _ _ _)
        refine R_iadd dX12_standingAt_30 (?_ : RR _ _ _ _ 31 _ _ _ _)
        refine R_iconst dX12_standingAt_31 (?_ : RR _ _ _ _ 32 _ _ _ _)
        refine R_iadd dX12_standingAt_32 (?_ : RR _ _ _ _ 33 _ _ _ _)
        refine R_iald dX12_standingAt_33 (fun q33 => (?_ : RR _ _ _ _ 34 _ _ _ _))
        have ea : h r (2 + 2 * (i : Int) + 0) = mA (h r) i := rfl
        rw [ea] at q33 ⊢
        refine R_iload_n dX12_standingAt_34 rfl (?_ : RR _ _ _ _ 35 _ _ _ _)
        refine R_icmp_ne (t := 45) dX12_standingAt_35 rfl (fun c35 => ?_) (fun c35 => ?_)
        · have e := bset_no (P := P) (n := i) (by rw [← hP]; exact decide_eq_false (by omega))
          refine R_iconst dX12_standingAt_45 (?_ : RR _ _ _ _ 46 _ _ _ _)
          refine R_ior dX12_standingAt_46 (?_ : RR _ _ _ _ 47 _ _ _ _)
          first | rw [e] | rw [iOr_0 (bset_31 (by omega)), ← e]
          refine R_istore_n dX12_standingAt_47 (Nat.le_of_ble_eq_true rfl) (?_ : RR _ _ _ _ 48 [_, _, _, _, _] _ _ _)
          refine R_iinc dX12_standingAt_48 rfl (Nat.le_of_ble_eq_true rfl) (?_ : RR _ _ _ _ 51 [_, _, _, _, _] _ _ _)
          refine R_goto (t := 5) dX12_standingAt_51 rfl (?_ : RR _ _ _ _ 5 _ _ _ _)
          exact ih (i + 1) (by omega)
        · have e := bset_or (P := P) (n := i) (by omega) (by rw [← hP]; exact decide_eq_true (by omega))
          refine R_iconst dX12_standingAt_38 (?_ : RR _ _ _ _ 39 _ _ _ _)
          refine R_iload dX12_standingAt_39 rfl (?_ : RR _ _ _ _ 41 _ _ _ _)
          refine R_ishl dX12_standingAt_41 (?_ : RR _ _ _ _ 42 _ _ _ _)
          refine R_goto (t := 46) dX12_standingAt_42 rfl (?_ : RR _ _ _ _ 46 _ _ _ _)
          refine R_ior dX12_standingAt_46 (?_ : RR _ _ _ _ 47 _ _ _ _)
          first | rw [e] | rw [iOr_0 (bset_31 (by omega)), ← e]
          refine R_istore_n dX12_standingAt_47 (Nat.le_of_ble_eq_true rfl) (?_ : RR _ _ _ _ 48 [_, _, _, _, _] _ _ _)
          refine R_iinc dX12_standingAt_48 rfl (Nat.le_of_ble_eq_true rfl) (?_ : RR _ _ _ _ 51 [_, _, _, _, _] _ _ _)
          refine R_goto (t := 5) dX12_standingAt_51 rfl (?_ : RR _ _ _ _ 5 _ _ _ _)
          exact ih (i + 1) (by omega)
  refine R_iconst dX12_standingAt_0 (?_ : RR _ _ _ _ 1 _ _ _ _)
  refine R_istore_n dX12_standingAt_1 (Nat.le_of_ble_eq_true rfl) (?_ : RR _ _ _ _ 2 [_, _, _, _, _] _ _ _)
  refine R_iconst dX12_standingAt_2 (?_ : RR _ _ _ _ 3 _ _ _ _)
  refine R_istore dX12_standingAt_3 (Nat.le_of_ble_eq_true rfl) (?_ : RR _ _ _ _ 5 [_, _, _, _, _] _ _ _)
  exact L nc 0 (by omega)
theorem T_X12_outs {r np : Nat} {h : Nat → Int → Int} (hnp : h 147 5 = np) (hr : isRw r := by assumption) (h12 : np ≤ 12 := by omega) : MT mX12_outs 0 [pR 147, pR r] h (some (pI (bset (fun p => decide (mS (h r) p < 0)) np))) h := by
  refine MT.of (fun Q hQ => (?_ : RR mX12_outs _ _ _ _ [pR 147, pR r, pU, pU] _ _ _))
  generalize hP : (fun p : Nat => decide (mS (h r) p < 0)) = P at hQ
  have L : ∀ k i : Nat, i + k = np → RR mX12_outs 0 0 0 4 [pR 147, pR r, pI (bset P i), pI i] [] (shp0, rf0, h) Q := by
    intro k
    induction k with
    | zero =>
      intro i hi 
      obtain rfl : i = np := by omega
      refine R_iload_n dX12_outs_4 rfl (?_ : RR _ _ _ _ 5 _ _ _ _)
      refine R_aload_n dX12_outs_5 rfl (?_ : RR _ _ _ _ 6 _ _ _ _)
      refine R_geti (z := 5) dX12_outs_6 flX12_127 cok_12 rfl (by decide) rfl (fun q6 => (?_ : RR _ _ _ _ 9 _ _ _ _))
      rw [hnp] at q6 ⊢
      refine R_icmp_ge (t := 37) dX12_outs_9 rfl (fun c9 => ?_) (fun c9 => ?_)
      rotate_left
      · exfalso; omega
      refine R_iload_n dX12_outs_37 rfl (?_ : RR _ _ _ _ 38 _ _ _ _)
      exact R_ireturn dX12_outs_38 trivial hQ
    | succ k ih =>
      intro i hi 
      refine R_iload_n dX12_outs_4 rfl (?_ : RR _ _ _ _ 5 _ _ _ _)
      refine R_aload_n dX12_outs_5 rfl (?_ : RR _ _ _ _ 6 _ _ _ _)
      refine R_geti (z := 5) dX12_outs_6 flX12_127 cok_12 rfl (by decide) rfl (fun q6 => (?_ : RR _ _ _ _ 9 _ _ _ _))
      rw [hnp] at q6 ⊢
      refine R_icmp_ge (t := 37) dX12_outs_9 rfl (fun c9 => ?_) (fun c9 => ?_)
      · exfalso; omega
      refine R_iload_n dX12_outs_12 rfl (?_ : RR _ _ _ _ 13 _ _ _ _)
      refine R_aload_n dX12_outs_13 rfl (?_ : RR _ _ _ _ 14 _ _ _ _)
      refine R_bipush dX12_outs_14 rfl (?_ : RR _ _ _ _ 16 _ _ _ _)
      refine R_iload_n dX12_outs_16 rfl (?_ : RR _ _ _ _ 17 _ _ _ _)
      refine R_iadd dX12_outs_17 (?_ : RR _ _ _ _ 18 _ _ _ _)
      refine R_iald dX12_outs_18 (fun q18 => (?_ : RR _ _ _ _ 19 _ _ _ _))
      refine R_if_ge (t := 28) dX12_outs_19 rfl (fun c19 => ?_) (fun c19 => ?_)
      · have e := bset_no (P := P) (n := i) (by rw [← hP]; exact decide_eq_false (by unfold mS; omega))
        refine R_iconst dX12_outs_28 (?_ : RR _ _ _ _ 29 _ _ _ _)
        refine R_ior dX12_outs_29 (?_ : RR _ _ _ _ 30 _ _ _ _)
        first | rw [e] | rw [iOr_0 (bset_31 (by omega)), ← e]
        refine R_istore_n dX12_outs_30 (Nat.le_of_ble_eq_true rfl) (?_ : RR _ _ _ _ 31 [_, _, _, _] _ _ _)
        refine R_iinc dX12_outs_31 rfl (Nat.le_of_ble_eq_true rfl) (?_ : RR _ _ _ _ 34 [_, _, _, _] _ _ _)
        refine R_goto (t := 4) dX12_outs_34 rfl (?_ : RR _ _ _ _ 4 _ _ _ _)
        exact ih (i + 1) (by omega)
      · have e := bset_or (P := P) (n := i) (by omega) (by rw [← hP]; exact decide_eq_true (by unfold mS; omega))
        refine R_iconst dX12_outs_22 (?_ : RR _ _ _ _ 23 _ _ _ _)
        refine R_iload_n dX12_outs_23 rfl (?_ : RR _ _ _ _ 24 _ _ _ _)
        refine R_ishl dX12_outs_24 (?_ : RR _ _ _ _ 25 _ _ _ _)
        refine R_goto (t := 29) dX12_outs_25 rfl (?_ : RR _ _ _ _ 29 _ _ _ _)
        refine R_ior dX12_outs_29 (?_ : RR _ _ _ _ 30 _ _ _ _)
        first | rw [e] | rw [iOr_0 (bset_31 (by omega)), ← e]
        refine R_istore_n dX12_outs_30 (Nat.le_of_ble_eq_true rfl) (?_ : RR _ _ _ _ 31 [_, _, _, _] _ _ _)
        refine R_iinc dX12_outs_31 rfl (Nat.le_of_ble_eq_true rfl) (?_ : RR _ _ _ _ 34 [_, _, _, _] _ _ _)
        refine R_goto (t := 4) dX12_outs_34 rfl (?_ : RR _ _ _ _ 4 _ _ _ _)
        exact ih (i + 1) (by omega)
  refine R_iconst dX12_outs_0 (?_ : RR _ _ _ _ 1 _ _ _ _)
  refine R_istore_n dX12_outs_1 (Nat.le_of_ble_eq_true rfl) (?_ : RR _ _ _ _ 2 [_, _, _, _] _ _ _)
  refine R_iconst dX12_outs_2 (?_ : RR _ _ _ _ 3 _ _ _ _)
  refine R_istore_n dX12_outs_3 (Nat.le_of_ble_eq_true rfl) (?_ : RR _ _ _ _ 4 [_, _, _, _] _ _ _)
  exact L np 0 (by omega)
theorem T_X12_sitting {r np : Nat} {c : Int} {h : Nat → Int → Int} (hnp : h 147 5 = np) (hr : isRw r := by assumption) (h12 : np ≤ 12 := by omega) (hc : r32 c := by omega) : MT mX12_sitting 0 [pR 147, pR r, pI c] h (some (pI (bset (fun p => decide (mS (h r) p = c)) np))) h := by
  refine MT.of (fun Q hQ => (?_ : RR mX12_sitting _ _ _ _ [pR 147, pR r, pI c, pU, pU] _ _ _))
  generalize hP : (fun p : Nat => decide (mS (h r) p = c)) = P at hQ
  have L : ∀ k i : Nat, i + k = np → RR mX12_sitting 0 0 0 5 [pR 147, pR r, pI c, pI (bset P i), pI i] [] (shp0, rf0, h) Q := by
    intro k
    induction k with
    | zero =>
      intro i hi 
      obtain rfl : i = np := by omega
      refine R_iload dX12_sitting_5 rfl (?_ : RR _ _ _ _ 7 _ _ _ _)
      refine R_aload_n dX12_sitting_7 rfl (?_ : RR _ _ _ _ 8 _ _ _ _)
      refine R_geti (z := 5) dX12_sitting_8 flX12_127 cok_12 rfl (by decide) rfl (fun q8 => (?_ : RR _ _ _ _ 11 _ _ _ _))
      rw [hnp] at q8 ⊢
      refine R_icmp_ge (t := 42) dX12_sitting_11 rfl (fun c11 => ?_) (fun c11 => ?_)
      rotate_left
      · exfalso; omega
      refine R_iload_n dX12_sitting_42 rfl (?_ : RR _ _ _ _ 43 _ _ _ _)
      exact R_ireturn dX12_sitting_43 trivial hQ
    | succ k ih =>
      intro i hi 
      refine R_iload dX12_sitting_5 rfl (?_ : RR _ _ _ _ 7 _ _ _ _)
      refine R_aload_n dX12_sitting_7 rfl (?_ : RR _ _ _ _ 8 _ _ _ _)
      refine R_geti (z := 5) dX12_sitting_8 flX12_127 cok_12 rfl (by decide) rfl (fun q8 => (?_ : RR _ _ _ _ 11 _ _ _ _))
      rw [hnp] at q8 ⊢
      refine R_icmp_ge (t := 42) dX12_sitting_11 rfl (fun c11 => ?_) (fun c11 => ?_)
      · exfalso; omega
      refine R_iload_n dX12_sitting_14 rfl (?_ : RR _ _ _ _ 15 _ _ _ _)
      refine R_aload_n dX12_sitting_15 rfl (?_ : RR _ _ _ _ 16 _ _ _ _)
      refine R_bipush dX12_sitting_16 rfl (?_ : RR _ _ _ _ 18 _ _ _ _)
      refine R_iload dX12_sitting_18 rfl (?_ : RR _ _ _ _ 20 _ _ _ _)
      refine R_iadd dX12_sitting_20 (?_ : RR _ _ _ _ 21 _ _ _ _)
      refine R_iald dX12_sitting_21 (fun q21 => (?_ : RR _ _ _ _ 22 _ _ _ _))
      refine R_iload_n dX12_sitting_22 rfl (?_ : RR _ _ _ _ 23 _ _ _ _)
      refine R_icmp_ne (t := 33) dX12_sitting_23 rfl (fun c23 => ?_) (fun c23 => ?_)
      · have e := bset_no (P := P) (n := i) (by rw [← hP]; exact decide_eq_false (by unfold mS; omega))
        refine R_iconst dX12_sitting_33 (?_ : RR _ _ _ _ 34 _ _ _ _)
        refine R_ior dX12_sitting_34 (?_ : RR _ _ _ _ 35 _ _ _ _)
        first | rw [e] | rw [iOr_0 (bset_31 (by omega)), ← e]
        refine R_istore_n dX12_sitting_35 (Nat.le_of_ble_eq_true rfl) (?_ : RR _ _ _ _ 36 [_, _, _, _, _] _ _ _)
        refine R_iinc dX12_sitting_36 rfl (Nat.le_of_ble_eq_true rfl) (?_ : RR _ _ _ _ 39 [_, _, _, _, _] _ _ _)
        refine R_goto (t := 5) dX12_sitting_39 rfl (?_ : RR _ _ _ _ 5 _ _ _ _)
        exact ih (i + 1) (by omega)
      · have e := bset_or (P := P) (n := i) (by omega) (by rw [← hP]; exact decide_eq_true (by unfold mS; omega))
        refine R_iconst dX12_sitting_26 (?_ : RR _ _ _ _ 27 _ _ _ _)
        refine R_iload dX12_sitting_27 rfl (?_ : RR _ _ _ _ 29 _ _ _ _)
        refine R_ishl dX12_sitting_29 (?_ : RR _ _ _ _ 30 _ _ _ _)
        refine R_goto (t := 34) dX12_sitting_30 rfl (?_ : RR _ _ _ _ 34 _ _ _ _)
        refine R_ior dX12_sitting_34 (?_ : RR _ _ _ _ 35 _ _ _ _)
        first | rw [e] | rw [iOr_0 (bset_31 (by omega)), ← e]
        refine R_istore_n dX12_sitting_35 (Nat.le_of_ble_eq_true rfl) (?_ : RR _ _ _ _ 36 [_, _, _, _, _] _ _ _)
        refine R_iinc dX12_sitting_36 rfl (Nat.le_of_ble_eq_true rfl) (?_ : RR _ _ _ _ 39 [_, _, _, _, _] _ _ _)
        refine R_goto (t := 5) dX12_sitting_39 rfl (?_ : RR _ _ _ _ 5 _ _ _ _)
        exact ih (i + 1) (by omega)
  refine R_iconst dX12_sitting_0 (?_ : RR _ _ _ _ 1 _ _ _ _)
  refine R_istore_n dX12_sitting_1 (Nat.le_of_ble_eq_true rfl) (?_ : RR _ _ _ _ 2 [_, _, _, _, _] _ _ _)
  refine R_iconst dX12_sitting_2 (?_ : RR _ _ _ _ 3 _ _ _ _)
  refine R_istore dX12_sitting_3 (Nat.le_of_ble_eq_true rfl) (?_ : RR _ _ _ _ 5 [_, _, _, _, _] _ _ _)
  exact L np 0 (by omega)
