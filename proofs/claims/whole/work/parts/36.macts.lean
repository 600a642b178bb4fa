/-! the other's acts on a row r -/
section MA
variable {r nc np len L : Nat} {h : Nat → Int → Int}
theorem T_X12_goes_no {x k : Int} (hno : ¬ ((0 ≤ x ∧ x ≤ 1) ∧ 0 ≤ k ∧ k ≤ len)) (hnc : h 147 4 = nc) (hlen : sm (fun c => if 0 ≤ mP (h r) c then 1 else 0) nc = len) (hr : isRw r := by assumption) (h6 : nc ≤ 6 := by omega) (hl6 : len ≤ 6 := by omega) (hx : r32 x := by omega) (hk : r32 k := by omega) : MT mX12_goes 4 [pR 147, pR r, pI x, pI k] h (some (pI (-1))) h := by
  refine MT.of (fun Q hQ => (?_ : RR mX12_goes _ _ _ _ [pR 147, pR r, pI x, pI k, pU] _ _ _))
  by_cases hA : 0 ≤ x ∧ x ≤ 1
  · have hB : ¬ (0 ≤ k ∧ k ≤ len) := fun q => hno ⟨hA, q⟩
    refine R_iload_n dX12_goes_0 rfl (?_ : RR _ _ _ _ 1 _ _ _ _)
    refine R_i2l dX12_goes_1 (by first | assumption | omega) (?_ : RR _ _ _ _ 2 _ _ _ _)
    refine R_lconst (z := 0) dX12_goes_2 rfl (?_ : RR _ _ _ _ 3 _ _ _ _)
    refine R_lconst (z := 1) dX12_goes_3 rfl (?_ : RR _ _ _ _ 4 _ _ _ _)
    refine R_cSi3 dX12_goes_4 msX12_in mlX12_120 (by decide) (Nat.le_of_ble_eq_true rfl) (Nat.le_of_ble_eq_true rfl) (T_X12_in) (?_ : RR _ _ _ _ 7 _ _ _ _)
    rw [if_pos hA]
    refine R_if_eq (t := 25) dX12_goes_7 rfl (fun c7 => ?_) (fun c7 => ?_)
    · exfalso; omega
    refine R_iload_n dX12_goes_10 rfl (?_ : RR _ _ _ _ 11 _ _ _ _)
    refine R_i2l dX12_goes_11 (by first | assumption | omega) (?_ : RR _ _ _ _ 12 _ _ _ _)
    refine R_lconst (z := 0) dX12_goes_12 rfl (?_ : RR _ _ _ _ 13 _ _ _ _)
    refine R_aload_n dX12_goes_13 rfl (?_ : RR _ _ _ _ 14 _ _ _ _)
    refine R_aload_n dX12_goes_14 rfl (?_ : RR _ _ _ _ 15 _ _ _ _)
    refine R_cVi1 dX12_goes_15 mvX12_trainLong mlX12_217 (by decide) (by decide) (Nat.le_of_ble_eq_true rfl) (Nat.le_of_ble_eq_true rfl) (T_X12_trainLong hnc) (?_ : RR _ _ _ _ 18 _ _ _ _)
    rw [hlen]
    refine R_i2l dX12_goes_18 (by first | assumption | omega) (?_ : RR _ _ _ _ 19 _ _ _ _)
    refine R_cSi3 dX12_goes_19 msX12_in mlX12_120 (by decide) (Nat.le_of_ble_eq_true rfl) (Nat.le_of_ble_eq_true rfl) (T_X12_in) (?_ : RR _ _ _ _ 22 _ _ _ _)
    rw [if_neg hB]
    refine R_if_ne (t := 27) dX12_goes_22 rfl (fun c22 => ?_) (fun c22 => ?_)
    · exfalso; omega
    refine R_iconst dX12_goes_25 (?_ : RR _ _ _ _ 26 _ _ _ _)
    exact R_ireturn dX12_goes_26 trivial hQ
  · refine R_iload_n dX12_goes_0 rfl (?_ : RR _ _ _ _ 1 _ _ _ _)
    refine R_i2l dX12_goes_1 (by first | assumption | omega) (?_ : RR _ _ _ _ 2 _ _ _ _)
    refine R_lconst (z := 0) dX12_goes_2 rfl (?_ : RR _ _ _ _ 3 _ _ _ _)
    refine R_lconst (z := 1) dX12_goes_3 rfl (?_ : RR _ _ _ _ 4 _ _ _ _)
    refine R_cSi3 dX12_goes_4 msX12_in mlX12_120 (by decide) (Nat.le_of_ble_eq_true rfl) (Nat.le_of_ble_eq_true rfl) (T_X12_in) (?_ : RR _ _ _ _ 7 _ _ _ _)
    rw [if_neg hA]
    refine R_if_eq (t := 25) dX12_goes_7 rfl (fun c7 => ?_) (fun c7 => ?_)
    rotate_left
    · exfalso; omega
    refine R_iconst dX12_goes_25 (?_ : RR _ _ _ _ 26 _ _ _ _)
    exact R_ireturn dX12_goes_26 trivial hQ
theorem T_X12_goes_shut {x k : Int} (hA : 0 ≤ x ∧ x ≤ 1) (hB : 0 ≤ k ∧ k ≤ len) (hex : ¬ 0 ≤ h 149 (2 * h r 0 + x)) (hen : 0 ≤ h r 0 ∧ h r 0 < 9) (hnc : h 147 4 = nc) (hlen : sm (fun c => if 0 ≤ mP (h r) c then 1 else 0) nc = len) (hr : isRw r := by assumption) (h6 : nc ≤ 6 := by omega) (hl6 : len ≤ 6 := by omega) : MT mX12_goes 4 [pR 147, pR r, pI x, pI k] h (some (pI (-2))) h := by
  refine MT.of (fun Q hQ => (?_ : RR mX12_goes _ _ _ _ [pR 147, pR r, pI x, pI k, pU] _ _ _))
  refine R_iload_n dX12_goes_0 rfl (?_ : RR _ _ _ _ 1 _ _ _ _)
  refine R_i2l dX12_goes_1 (by first | assumption | omega) (?_ : RR _ _ _ _ 2 _ _ _ _)
  refine R_lconst (z := 0) dX12_goes_2 rfl (?_ : RR _ _ _ _ 3 _ _ _ _)
  refine R_lconst (z := 1) dX12_goes_3 rfl (?_ : RR _ _ _ _ 4 _ _ _ _)
  refine R_cSi3 dX12_goes_4 msX12_in mlX12_120 (by decide) (Nat.le_of_ble_eq_true rfl) (Nat.le_of_ble_eq_true rfl) (T_X12_in) (?_ : RR _ _ _ _ 7 _ _ _ _)
  rw [if_pos hA]
  refine R_if_eq (t := 25) dX12_goes_7 rfl (fun c7 => ?_) (fun c7 => ?_)
  · exfalso; omega
  refine R_iload_n dX12_goes_10 rfl (?_ : RR _ _ _ _ 11 _ _ _ _)
  refine R_i2l dX12_goes_11 (by first | assumption | omega) (?_ : RR _ _ _ _ 12 _ _ _ _)
  refine R_lconst (z := 0) dX12_goes_12 rfl (?_ : RR _ _ _ _ 13 _ _ _ _)
  refine R_aload_n dX12_goes_13 rfl (?_ : RR _ _ _ _ 14 _ _ _ _)
  refine R_aload_n dX12_goes_14 rfl (?_ : RR _ _ _ _ 15 _ _ _ _)
  refine R_cVi1 dX12_goes_15 mvX12_trainLong mlX12_217 (by decide) (by decide) (Nat.le_of_ble_eq_true rfl) (Nat.le_of_ble_eq_true rfl) (T_X12_trainLong hnc) (?_ : RR _ _ _ _ 18 _ _ _ _)
  rw [hlen]
  refine R_i2l dX12_goes_18 (by first | assumption | omega) (?_ : RR _ _ _ _ 19 _ _ _ _)
  refine R_cSi3 dX12_goes_19 msX12_in mlX12_120 (by decide) (Nat.le_of_ble_eq_true rfl) (Nat.le_of_ble_eq_true rfl) (T_X12_in) (?_ : RR _ _ _ _ 22 _ _ _ _)
  rw [if_pos hB]
  refine R_if_ne (t := 27) dX12_goes_22 rfl (fun c22 => ?_) (fun c22 => ?_)
  rotate_left
  · exfalso; omega
  refine R_iload_n dX12_goes_27 rfl (?_ : RR _ _ _ _ 28 _ _ _ _)
  refine R_aload_n dX12_goes_28 rfl (?_ : RR _ _ _ _ 29 _ _ _ _)
  refine R_getr dX12_goes_29 flX12_17 cok_12 rfl (by decide) (?_ : RR _ _ _ _ 32 _ _ _ _)
  refine R_aload_n dX12_goes_32 rfl (?_ : RR _ _ _ _ 33 _ _ _ _)
  refine R_iconst dX12_goes_33 (?_ : RR _ _ _ _ 34 _ _ _ _)
  refine R_iald dX12_goes_34 (fun q34 => (?_ : RR _ _ _ _ 35 _ _ _ _))
  refine R_cSi3 dX12_goes_35 msX12_isCourse mlX12_345 (by decide) (Nat.le_of_ble_eq_true rfl) (Nat.le_of_ble_eq_true rfl) (T_X12_isCourse) (?_ : RR _ _ _ _ 38 _ _ _ _)
  rw [if_neg (fun q => hex q.2)]
  refine R_if_ne (t := 44) dX12_goes_38 rfl (fun c38 => ?_) (fun c38 => ?_)
  · exfalso; omega
  refine R_bipush dX12_goes_41 rfl (?_ : RR _ _ _ _ 43 _ _ _ _)
  exact R_ireturn dX12_goes_43 trivial hQ
theorem T_X12_goes_yes {x : Int} {k : Nat} (hA : 0 ≤ x ∧ x ≤ 1) (hB : k ≤ len) (hex : 0 ≤ h 149 (2 * h r 0 + x)) (hM : miB (h 150)) (hen : 0 ≤ h r 0 ∧ h r 0 < 9) (hnow : 0 ≤ h r 1 ∧ h r 1 ≤ 2000000000) (hnc : h 147 4 = nc) (hnp : h 147 5 = np) (hL : h 147 30 = L) (hL64 : L < 64) (hs : ∀ j : Nat, j < np → mS (h r) j = -1 ∨ (0 ≤ mS (h r) j ∧ mS (h r) j < 6)) (hlen : sm (fun c => if 0 ≤ mP (h r) c then 1 else 0) nc = len) (hr : isRw r := by assumption) (hrb : r = 154 ∨ r = 155 := by omega) (h6 : nc ≤ 6 := by omega) (h12 : np ≤ 12 := by omega) (hl6 : len ≤ 6 := by omega) : MT mX12_goes 4 [pR 147, pR r, pI x, pI k] h (some (pI (h r 1 + h 150 (2 * h r 0 + x) - h r 1))) (rup (rup h 147 (fup (h 147) 30 ((L ||| bset (lefP (h r) k) nc : Nat) : Int))) r (moF (h 152) (fup (fup (mlF (h r) k nc) 1 (h r 1 + h 150 (2 * h r 0 + x))) 0 (h 149 (2 * h r 0 + x))) np)) := by
  refine MT.of (fun Q hQ => (?_ : RR mX12_goes _ _ _ _ [pR 147, pR r, pI x, pI k, pU] _ _ _))
  have hme := hM (2 * h r 0 + x) (by omega) (by omega)
  have z1 : mlF (h r) k nc 1 = h r 1 := by unfold mlF; rw [if_neg (by omega)]
  have zs : ∀ j : Nat, mS (mlF (h r) k nc) j = mS (h r) j := fun j => mlF_mS h6
  refine R_iload_n dX12_goes_0 rfl (?_ : RR _ _ _ _ 1 _ _ _ _)
  refine R_i2l dX12_goes_1 (by first | assumption | omega) (?_ : RR _ _ _ _ 2 _ _ _ _)
  refine R_lconst (z := 0) dX12_goes_2 rfl (?_ : RR _ _ _ _ 3 _ _ _ _)
  refine R_lconst (z := 1) dX12_goes_3 rfl (?_ : RR _ _ _ _ 4 _ _ _ _)
  refine R_cSi3 dX12_goes_4 msX12_in mlX12_120 (by decide) (Nat.le_of_ble_eq_true rfl) (Nat.le_of_ble_eq_true rfl) (T_X12_in) (?_ : RR _ _ _ _ 7 _ _ _ _)
  try simp (disch := omega) only [rup_rup, rup_sort, rupS_def, rup_s, rup_n, fup_fup, fup_s, fup_n, mlF_z, z1]
  rw [if_pos hA]
  refine R_if_eq (t := 25) dX12_goes_7 rfl (fun c7 => ?_) (fun c7 => ?_)
  · exfalso; omega
  refine R_iload_n dX12_goes_10 rfl (?_ : RR _ _ _ _ 11 _ _ _ _)
  refine R_i2l dX12_goes_11 (by first | assumption | omega) (?_ : RR _ _ _ _ 12 _ _ _ _)
  refine R_lconst (z := 0) dX12_goes_12 rfl (?_ : RR _ _ _ _ 13 _ _ _ _)
  refine R_aload_n dX12_goes_13 rfl (?_ : RR _ _ _ _ 14 _ _ _ _)
  refine R_aload_n dX12_goes_14 rfl (?_ : RR _ _ _ _ 15 _ _ _ _)
  refine R_cVi1 dX12_goes_15 mvX12_trainLong mlX12_217 (by decide) (by decide) (Nat.le_of_ble_eq_true rfl) (Nat.le_of_ble_eq_true rfl) (T_X12_trainLong hnc) (?_ : RR _ _ _ _ 18 _ _ _ _)
  try simp (disch := omega) only [rup_rup, rup_sort, rupS_def, rup_s, rup_n, fup_fup, fup_s, fup_n, mlF_z, z1]
  rw [hlen]
  refine R_i2l dX12_goes_18 (by first | assumption | omega) (?_ : RR _ _ _ _ 19 _ _ _ _)
  refine R_cSi3 dX12_goes_19 msX12_in mlX12_120 (by decide) (Nat.le_of_ble_eq_true rfl) (Nat.le_of_ble_eq_true rfl) (T_X12_in) (?_ : RR _ _ _ _ 22 _ _ _ _)
  try simp (disch := omega) only [rup_rup, rup_sort, rupS_def, rup_s, rup_n, fup_fup, fup_s, fup_n, mlF_z, z1]
  rw [if_pos (by omega)]
  refine R_if_ne (t := 27) dX12_goes_22 rfl (fun c22 => ?_) (fun c22 => ?_)
  rotate_left
  · exfalso; omega
  refine R_iload_n dX12_goes_27 rfl (?_ : RR _ _ _ _ 28 _ _ _ _)
  refine R_aload_n dX12_goes_28 rfl (?_ : RR _ _ _ _ 29 _ _ _ _)
  refine R_getr dX12_goes_29 flX12_17 cok_12 rfl (by decide) (?_ : RR _ _ _ _ 32 _ _ _ _)
  refine R_aload_n dX12_goes_32 rfl (?_ : RR _ _ _ _ 33 _ _ _ _)
  refine R_iconst dX12_goes_33 (?_ : RR _ _ _ _ 34 _ _ _ _)
  refine R_iald dX12_goes_34 (fun q34 => (?_ : RR _ _ _ _ 35 _ _ _ _))
  try simp (disch := omega) only [rup_rup, rup_sort, rupS_def, rup_s, rup_n, fup_fup, fup_s, fup_n, mlF_z, z1] at q34 ⊢
  refine R_cSi3 dX12_goes_35 msX12_isCourse mlX12_345 (by decide) (Nat.le_of_ble_eq_true rfl) (Nat.le_of_ble_eq_true rfl) (T_X12_isCourse) (?_ : RR _ _ _ _ 38 _ _ _ _)
  try simp (disch := omega) only [rup_rup, rup_sort, rupS_def, rup_s, rup_n, fup_fup, fup_s, fup_n, mlF_z, z1]
  rw [if_pos (by omega)]
  refine R_if_ne (t := 44) dX12_goes_38 rfl (fun c38 => ?_) (fun c38 => ?_)
  rotate_left
  · exfalso; omega
  refine R_aload_n dX12_goes_44 rfl (?_ : RR _ _ _ _ 45 _ _ _ _)
  refine R_iconst dX12_goes_45 (?_ : RR _ _ _ _ 46 _ _ _ _)
  refine R_iald dX12_goes_46 (fun q46 => (?_ : RR _ _ _ _ 47 _ _ _ _))
  try simp (disch := omega) only [rup_rup, rup_sort, rupS_def, rup_s, rup_n, fup_fup, fup_s, fup_n, mlF_z, z1] at q46 ⊢
  refine R_istore dX12_goes_47 (Nat.le_of_ble_eq_true rfl) (?_ : RR _ _ _ _ 49 [_, _, _, _, _] _ _ _)
  refine R_aload_n dX12_goes_49 rfl (?_ : RR _ _ _ _ 50 _ _ _ _)
  refine R_aload_n dX12_goes_50 rfl (?_ : RR _ _ _ _ 51 _ _ _ _)
  refine R_iload_n dX12_goes_51 rfl (?_ : RR _ _ _ _ 52 _ _ _ _)
  refine R_cVv2 dX12_goes_52 mvX12_leavesFrom mlX12_352 (by decide) (by decide) (Nat.le_of_ble_eq_true rfl) (Nat.le_of_ble_eq_true rfl) (T_X12_leavesFrom hnc hL hL64) (?_ : RR _ _ _ _ 55 _ _ _ _)
  try simp (disch := omega) only [rup_rup, rup_sort, rupS_def, rup_s, rup_n, fup_fup, fup_s, fup_n, mlF_z, z1]
  refine R_aload_n dX12_goes_55 rfl (?_ : RR _ _ _ _ 56 _ _ _ _)
  refine R_aload_n dX12_goes_56 rfl (?_ : RR _ _ _ _ 57 _ _ _ _)
  refine R_iload_n dX12_goes_57 rfl (?_ : RR _ _ _ _ 58 _ _ _ _)
  refine R_cVv2 dX12_goes_58 mvX12_goesBy mlX12_355 (by decide) (by decide) (Nat.le_of_ble_eq_true rfl) (Nat.le_of_ble_eq_true rfl) (T_X12_goesBy (np := np) (by simp (disch := omega) only [rup_n, rup_s, fup_n]; exact hnp) (by simp (disch := omega) only [rup_s, zs]; exact hs) (by simp (disch := omega) only [rup_s, rup_n, mlF_z, z1]; omega) (hen := by simp (disch := omega) only [rup_s, mlF_z]; omega)) (?_ : RR _ _ _ _ 61 _ _ _ _)
  try simp (disch := omega) only [rup_rup, rup_sort, rupS_def, rup_s, rup_n, fup_fup, fup_s, fup_n, mlF_z, z1]
  refine R_aload_n dX12_goes_61 rfl (?_ : RR _ _ _ _ 62 _ _ _ _)
  refine R_iconst dX12_goes_62 (?_ : RR _ _ _ _ 63 _ _ _ _)
  refine R_iald dX12_goes_63 (fun q63 => (?_ : RR _ _ _ _ 64 _ _ _ _))
  try simp (disch := omega) only [rup_rup, rup_sort, rupS_def, rup_s, rup_n, fup_fup, fup_s, fup_n, mlF_z, z1] at q63 ⊢
  rw [moF_lo (by omega), fup_n (by omega), fup_s] at q63 ⊢
  refine R_iload dX12_goes_64 rfl (?_ : RR _ _ _ _ 66 _ _ _ _)
  refine R_isub dX12_goes_66 (?_ : RR _ _ _ _ 67 _ _ _ _)
  exact R_ireturn dX12_goes_67 trivial hQ
theorem T_X12_cuts_no {k : Int} (hno : ¬ (1 ≤ k ∧ k ≤ len)) (hnc : h 147 4 = nc) (hlen : sm (fun c => if 0 ≤ mP (h r) c then 1 else 0) nc = len) (hr : isRw r := by assumption) (h6 : nc ≤ 6 := by omega) (hl6 : len ≤ 6 := by omega) (hk : r32 k := by omega) : MT mX12_cuts 4 [pR 147, pR r, pI k] h (some (pI (-1))) h := by
  refine MT.of (fun Q hQ => (?_ : RR mX12_cuts _ _ _ _ [pR 147, pR r, pI k] _ _ _))
  refine R_iload_n dX12_cuts_0 rfl (?_ : RR _ _ _ _ 1 _ _ _ _)
  refine R_i2l dX12_cuts_1 (by first | assumption | omega) (?_ : RR _ _ _ _ 2 _ _ _ _)
  refine R_lconst (z := 1) dX12_cuts_2 rfl (?_ : RR _ _ _ _ 3 _ _ _ _)
  refine R_aload_n dX12_cuts_3 rfl (?_ : RR _ _ _ _ 4 _ _ _ _)
  refine R_aload_n dX12_cuts_4 rfl (?_ : RR _ _ _ _ 5 _ _ _ _)
  refine R_cVi1 dX12_cuts_5 mvX12_trainLong mlX12_217 (by decide) (by decide) (Nat.le_of_ble_eq_true rfl) (Nat.le_of_ble_eq_true rfl) (T_X12_trainLong hnc) (?_ : RR _ _ _ _ 8 _ _ _ _)
  rw [hlen]
  refine R_i2l dX12_cuts_8 (by first | assumption | omega) (?_ : RR _ _ _ _ 9 _ _ _ _)
  refine R_cSi3 dX12_cuts_9 msX12_in mlX12_120 (by decide) (Nat.le_of_ble_eq_true rfl) (Nat.le_of_ble_eq_true rfl) (T_X12_in) (?_ : RR _ _ _ _ 12 _ _ _ _)
  rw [if_neg hno]
  refine R_if_ne (t := 17) dX12_cuts_12 rfl (fun c12 => ?_) (fun c12 => ?_)
  · exfalso; omega
  refine R_iconst dX12_cuts_15 (?_ : RR _ _ _ _ 16 _ _ _ _)
  exact R_ireturn dX12_cuts_16 trivial hQ
theorem T_X12_cuts_yes {k : Nat} (hk : 1 ≤ k ∧ k ≤ len) (hnc : h 147 4 = nc) (hL : h 147 30 = L) (hL64 : L < 64) (hlen : sm (fun c => if 0 ≤ mP (h r) c then 1 else 0) nc = len) (hlen2 : sm (fun c => if 0 ≤ mP (mlF (h r) ((len : Int) - k) nc) c then 1 else 0) nc = ((len - k : Nat) : Int)) (hr : isRw r := by assumption) (hrb : r = 154 ∨ r = 155 := by omega) (h6 : nc ≤ 6 := by omega) (hl6 : len ≤ 6 := by omega) : MT mX12_cuts 4 [pR 147, pR r, pI k] h (some (pI ((len - k : Nat) : Int))) (rup (rup h 147 (fup (h 147) 30 ((L ||| bset (lefP (h r) ((len : Int) - k)) nc : Nat) : Int))) r (mlF (h r) ((len : Int) - k) nc)) := by
  refine MT.of (fun Q hQ => (?_ : RR mX12_cuts _ _ _ _ [pR 147, pR r, pI k] _ _ _))
  refine R_iload_n dX12_cuts_0 rfl (?_ : RR _ _ _ _ 1 _ _ _ _)
  refine R_i2l dX12_cuts_1 (by first | assumption | omega) (?_ : RR _ _ _ _ 2 _ _ _ _)
  refine R_lconst (z := 1) dX12_cuts_2 rfl (?_ : RR _ _ _ _ 3 _ _ _ _)
  refine R_aload_n dX12_cuts_3 rfl (?_ : RR _ _ _ _ 4 _ _ _ _)
  refine R_aload_n dX12_cuts_4 rfl (?_ : RR _ _ _ _ 5 _ _ _ _)
  refine R_cVi1 dX12_cuts_5 mvX12_trainLong mlX12_217 (by decide) (by decide) (Nat.le_of_ble_eq_true rfl) (Nat.le_of_ble_eq_true rfl) (T_X12_trainLong hnc) (?_ : RR _ _ _ _ 8 _ _ _ _)
  try simp (disch := omega) only [rup_rup, rup_sort, rupS_def, rup_s, rup_n, fup_fup, fup_s, fup_n]
  rw [hlen]
  refine R_i2l dX12_cuts_8 (by first | assumption | omega) (?_ : RR _ _ _ _ 9 _ _ _ _)
  refine R_cSi3 dX12_cuts_9 msX12_in mlX12_120 (by decide) (Nat.le_of_ble_eq_true rfl) (Nat.le_of_ble_eq_true rfl) (T_X12_in) (?_ : RR _ _ _ _ 12 _ _ _ _)
  try simp (disch := omega) only [rup_rup, rup_sort, rupS_def, rup_s, rup_n, fup_fup, fup_s, fup_n]
  rw [if_pos (by omega)]
  refine R_if_ne (t := 17) dX12_cuts_12 rfl (fun c12 => ?_) (fun c12 => ?_)
  rotate_left
  · exfalso; omega
  refine R_aload_n dX12_cuts_17 rfl (?_ : RR _ _ _ _ 18 _ _ _ _)
  refine R_aload_n dX12_cuts_18 rfl (?_ : RR _ _ _ _ 19 _ _ _ _)
  refine R_aload_n dX12_cuts_19 rfl (?_ : RR _ _ _ _ 20 _ _ _ _)
  refine R_aload_n dX12_cuts_20 rfl (?_ : RR _ _ _ _ 21 _ _ _ _)
  refine R_cVi1 dX12_cuts_21 mvX12_trainLong mlX12_217 (by decide) (by decide) (Nat.le_of_ble_eq_true rfl) (Nat.le_of_ble_eq_true rfl) (T_X12_trainLong hnc) (?_ : RR _ _ _ _ 24 _ _ _ _)
  try simp (disch := omega) only [rup_rup, rup_sort, rupS_def, rup_s, rup_n, fup_fup, fup_s, fup_n]
  rw [hlen]
  refine R_iload_n dX12_cuts_24 rfl (?_ : RR _ _ _ _ 25 _ _ _ _)
  refine R_isub dX12_cuts_25 (?_ : RR _ _ _ _ 26 _ _ _ _)
  refine R_cVv2 dX12_cuts_26 mvX12_leavesFrom mlX12_352 (by decide) (by decide) (Nat.le_of_ble_eq_true rfl) (Nat.le_of_ble_eq_true rfl) (T_X12_leavesFrom hnc hL hL64) (?_ : RR _ _ _ _ 29 _ _ _ _)
  try simp (disch := omega) only [rup_rup, rup_sort, rupS_def, rup_s, rup_n, fup_fup, fup_s, fup_n]
  refine R_aload_n dX12_cuts_29 rfl (?_ : RR _ _ _ _ 30 _ _ _ _)
  refine R_aload_n dX12_cuts_30 rfl (?_ : RR _ _ _ _ 31 _ _ _ _)
  refine R_cVi1 dX12_cuts_31 mvX12_trainLong mlX12_217 (by decide) (by decide) (Nat.le_of_ble_eq_true rfl) (Nat.le_of_ble_eq_true rfl) (T_X12_trainLong (nc := nc) (by simp (disch := omega) only [rup_n, rup_s, fup_n]; exact hnc)) (?_ : RR _ _ _ _ 34 _ _ _ _)
  try simp (disch := omega) only [rup_rup, rup_sort, rupS_def, rup_s, rup_n, fup_fup, fup_s, fup_n]
  rw [hlen2]
  exact R_ireturn dX12_cuts_34 trivial hQ
theorem T_X12_walks_no {p c : Int} (hno : ¬ ((0 ≤ p ∧ p ≤ (np : Int) - 1) ∧ 0 ≤ c ∧ c ≤ (nc : Int) - 1)) (hnc : h 147 4 = nc) (hnp : h 147 5 = np) (h6 : nc ≤ 6 := by omega) (h12 : np ≤ 12 := by omega) (hp : r32 p := by omega) (hc : r32 c := by omega) : MT mX12_walks 2 [pR 147, pR r, pI p, pI c] h (some (pI (-1))) h := by
  refine MT.of (fun Q hQ => (?_ : RR mX12_walks _ _ _ _ [pR 147, pR r, pI p, pI c, pU, pU] _ _ _))
  by_cases hA : 0 ≤ p ∧ p ≤ (np : Int) - 1
  · have hB : ¬ (0 ≤ c ∧ c ≤ (nc : Int) - 1) := fun q => hno ⟨hA, q⟩
    refine R_aload_n dX12_walks_0 rfl (?_ : RR _ _ _ _ 1 _ _ _ _)
    refine R_iload_n dX12_walks_1 rfl (?_ : RR _ _ _ _ 2 _ _ _ _)
    refine R_cVi1 dX12_walks_2 mvX12_isPassenger mlX12_325 (by decide) (by decide) (Nat.le_of_ble_eq_true rfl) (Nat.le_of_ble_eq_true rfl) (T_X12_isPassenger (by omega)) (?_ : RR _ _ _ _ 5 _ _ _ _)
    rw [hnp, if_pos hA]
    refine R_if_eq (t := 16) dX12_walks_5 rfl (fun c5 => ?_) (fun c5 => ?_)
    · exfalso; omega
    refine R_aload_n dX12_walks_8 rfl (?_ : RR _ _ _ _ 9 _ _ _ _)
    refine R_iload_n dX12_walks_9 rfl (?_ : RR _ _ _ _ 10 _ _ _ _)
    refine R_cVi1 dX12_walks_10 mvX12_isCoach mlX12_317 (by decide) (by decide) (Nat.le_of_ble_eq_true rfl) (Nat.le_of_ble_eq_true rfl) (T_X12_isCoach (by omega)) (?_ : RR _ _ _ _ 13 _ _ _ _)
    rw [hnc, if_neg hB]
    refine R_if_ne (t := 18) dX12_walks_13 rfl (fun c13 => ?_) (fun c13 => ?_)
    · exfalso; omega
    refine R_iconst dX12_walks_16 (?_ : RR _ _ _ _ 17 _ _ _ _)
    exact R_ireturn dX12_walks_17 trivial hQ
  · refine R_aload_n dX12_walks_0 rfl (?_ : RR _ _ _ _ 1 _ _ _ _)
    refine R_iload_n dX12_walks_1 rfl (?_ : RR _ _ _ _ 2 _ _ _ _)
    refine R_cVi1 dX12_walks_2 mvX12_isPassenger mlX12_325 (by decide) (by decide) (Nat.le_of_ble_eq_true rfl) (Nat.le_of_ble_eq_true rfl) (T_X12_isPassenger (by omega)) (?_ : RR _ _ _ _ 5 _ _ _ _)
    rw [hnp, if_neg hA]
    refine R_if_eq (t := 16) dX12_walks_5 rfl (fun c5 => ?_) (fun c5 => ?_)
    rotate_left
    · exfalso; omega
    refine R_iconst dX12_walks_16 (?_ : RR _ _ _ _ 17 _ _ _ _)
    exact R_ireturn dX12_walks_17 trivial hQ
theorem T_X12_walks_out {p c : Nat} (hp : p < np) (hc : c < nc) (hs : mS (h r) p = -1) (hnc : h 147 4 = nc) (hnp : h 147 5 = np) (hr : isRw r := by assumption) (h6 : nc ≤ 6 := by omega) (h12 : np ≤ 12 := by omega) : MT mX12_walks 2 [pR 147, pR r, pI p, pI c] h (some (pI (-2))) h := by
  refine MT.of (fun Q hQ => (?_ : RR mX12_walks _ _ _ _ [pR 147, pR r, pI p, pI c, pU, pU] _ _ _))
  have hsr : h r (14 + (p : Int)) = mS (h r) p := rfl
  refine R_aload_n dX12_walks_0 rfl (?_ : RR _ _ _ _ 1 _ _ _ _)
  refine R_iload_n dX12_walks_1 rfl (?_ : RR _ _ _ _ 2 _ _ _ _)
  refine R_cVi1 dX12_walks_2 mvX12_isPassenger mlX12_325 (by decide) (by decide) (Nat.le_of_ble_eq_true rfl) (Nat.le_of_ble_eq_true rfl) (T_X12_isPassenger (by omega)) (?_ : RR _ _ _ _ 5 _ _ _ _)
  rw [hnp, if_pos (by omega)]
  refine R_if_eq (t := 16) dX12_walks_5 rfl (fun c5 => ?_) (fun c5 => ?_)
  · exfalso; omega
  refine R_aload_n dX12_walks_8 rfl (?_ : RR _ _ _ _ 9 _ _ _ _)
  refine R_iload_n dX12_walks_9 rfl (?_ : RR _ _ _ _ 10 _ _ _ _)
  refine R_cVi1 dX12_walks_10 mvX12_isCoach mlX12_317 (by decide) (by decide) (Nat.le_of_ble_eq_true rfl) (Nat.le_of_ble_eq_true rfl) (T_X12_isCoach (by omega)) (?_ : RR _ _ _ _ 13 _ _ _ _)
  rw [hnc, if_pos (by omega)]
  refine R_if_ne (t := 18) dX12_walks_13 rfl (fun c13 => ?_) (fun c13 => ?_)
  rotate_left
  · exfalso; omega
  refine R_aload_n dX12_walks_18 rfl (?_ : RR _ _ _ _ 19 _ _ _ _)
  refine R_bipush dX12_walks_19 rfl (?_ : RR _ _ _ _ 21 _ _ _ _)
  refine R_iload_n dX12_walks_21 rfl (?_ : RR _ _ _ _ 22 _ _ _ _)
  refine R_iadd dX12_walks_22 (?_ : RR _ _ _ _ 23 _ _ _ _)
  refine R_iald dX12_walks_23 (fun q23 => (?_ : RR _ _ _ _ 24 _ _ _ _))
  rw [hsr] at q23 ⊢
  refine R_istore dX12_walks_24 (Nat.le_of_ble_eq_true rfl) (?_ : RR _ _ _ _ 26 [_, _, _, _, _, _] _ _ _)
  refine R_iload dX12_walks_26 rfl (?_ : RR _ _ _ _ 28 _ _ _ _)
  refine R_if_ge (t := 34) dX12_walks_28 rfl (fun c28 => ?_) (fun c28 => ?_)
  · exfalso; omega
  refine R_bipush dX12_walks_31 rfl (?_ : RR _ _ _ _ 33 _ _ _ _)
  exact R_ireturn dX12_walks_33 trivial hQ
theorem T_X12_walks_far {p c : Nat} (hp : p < np) (hc : c < nc) (hs : 0 ≤ mS (h r) p ∧ mS (h r) p < 6) (hpl : ∀ k : Int, 0 ≤ k → k < 6 → -1 ≤ mP (h r) k ∧ mP (h r) k < 6) (hno : ¬ (0 ≤ mP (h r) (mS (h r) p) ∧ 0 ≤ mP (h r) c ∧ iAbs (mP (h r) (mS (h r) p) - mP (h r) c) = 1)) (hnc : h 147 4 = nc) (hnp : h 147 5 = np) (hr : isRw r := by assumption) (h6 : nc ≤ 6 := by omega) (h12 : np ≤ 12 := by omega) : MT mX12_walks 2 [pR 147, pR r, pI p, pI c] h (some (pI (-3))) h := by
  refine MT.of (fun Q hQ => (?_ : RR mX12_walks _ _ _ _ [pR 147, pR r, pI p, pI c, pU, pU] _ _ _))
  have hsr : h r (14 + (p : Int)) = mS (h r) p := rfl
  have p1 := hpl (mS (h r) p) hs.1 hs.2
  have p2 := hpl c (by omega) (by omega)
  have hab : r32 (iAbs (mP (h r) (mS (h r) p) - mP (h r) c)) := by unfold iAbs; split <;> omega
  refine R_aload_n dX12_walks_0 rfl (?_ : RR _ _ _ _ 1 _ _ _ _)
  refine R_iload_n dX12_walks_1 rfl (?_ : RR _ _ _ _ 2 _ _ _ _)
  refine R_cVi1 dX12_walks_2 mvX12_isPassenger mlX12_325 (by decide) (by decide) (Nat.le_of_ble_eq_true rfl) (Nat.le_of_ble_eq_true rfl) (T_X12_isPassenger (by omega)) (?_ : RR _ _ _ _ 5 _ _ _ _)
  rw [hnp, if_pos (by omega)]
  refine R_if_eq (t := 16) dX12_walks_5 rfl (fun c5 => ?_) (fun c5 => ?_)
  · exfalso; omega
  refine R_aload_n dX12_walks_8 rfl (?_ : RR _ _ _ _ 9 _ _ _ _)
  refine R_iload_n dX12_walks_9 rfl (?_ : RR _ _ _ _ 10 _ _ _ _)
  refine R_cVi1 dX12_walks_10 mvX12_isCoach mlX12_317 (by decide) (by decide) (Nat.le_of_ble_eq_true rfl) (Nat.le_of_ble_eq_true rfl) (T_X12_isCoach (by omega)) (?_ : RR _ _ _ _ 13 _ _ _ _)
  rw [hnc, if_pos (by omega)]
  refine R_if_ne (t := 18) dX12_walks_13 rfl (fun c13 => ?_) (fun c13 => ?_)
  rotate_left
  · exfalso; omega
  refine R_aload_n dX12_walks_18 rfl (?_ : RR _ _ _ _ 19 _ _ _ _)
  refine R_bipush dX12_walks_19 rfl (?_ : RR _ _ _ _ 21 _ _ _ _)
  refine R_iload_n dX12_walks_21 rfl (?_ : RR _ _ _ _ 22 _ _ _ _)
  refine R_iadd dX12_walks_22 (?_ : RR _ _ _ _ 23 _ _ _ _)
  refine R_iald dX12_walks_23 (fun q23 => (?_ : RR _ _ _ _ 24 _ _ _ _))
  rw [hsr] at q23 ⊢
  refine R_istore dX12_walks_24 (Nat.le_of_ble_eq_true rfl) (?_ : RR _ _ _ _ 26 [_, _, _, _, _, _] _ _ _)
  refine R_iload dX12_walks_26 rfl (?_ : RR _ _ _ _ 28 _ _ _ _)
  refine R_if_ge (t := 34) dX12_walks_28 rfl (fun c28 => ?_) (fun c28 => ?_)
  rotate_left
  · exfalso; omega
  refine R_aload_n dX12_walks_34 rfl (?_ : RR _ _ _ _ 35 _ _ _ _)
  refine R_iload dX12_walks_35 rfl (?_ : RR _ _ _ _ 37 _ _ _ _)
  refine R_cSi2 dX12_walks_37 msX12_placeOf mlX12_130 (by decide) (Nat.le_of_ble_eq_true rfl) (Nat.le_of_ble_eq_true rfl) (T_X12_placeOf) (?_ : RR _ _ _ _ 40 _ _ _ _)
  refine R_if_lt (t := 55) dX12_walks_40 rfl (fun c40 => ?_) (fun c40 => ?_)
  · refine R_iconst dX12_walks_55 (?_ : RR _ _ _ _ 56 _ _ _ _)
    refine R_istore dX12_walks_56 (Nat.le_of_ble_eq_true rfl) (?_ : RR _ _ _ _ 58 [_, _, _, _, _, _] _ _ _)
    refine R_iload dX12_walks_58 rfl (?_ : RR _ _ _ _ 60 _ _ _ _)
    refine R_if_eq (t := 82) dX12_walks_60 rfl (fun c60 => ?_) (fun c60 => ?_)
    · first
      | (exfalso; omega)
      | (refine R_bipush dX12_walks_82 rfl (?_ : RR _ _ _ _ 84 _ _ _ _)
         exact R_ireturn dX12_walks_84 trivial hQ)
    · first
      | (exfalso; omega)
      | (refine R_aload_n dX12_walks_63 rfl (?_ : RR _ _ _ _ 64 _ _ _ _)
         refine R_iload dX12_walks_64 rfl (?_ : RR _ _ _ _ 66 _ _ _ _)
         refine R_cSi2 dX12_walks_66 msX12_placeOf mlX12_130 (by decide) (Nat.le_of_ble_eq_true rfl) (Nat.le_of_ble_eq_true rfl) (T_X12_placeOf) (?_ : RR _ _ _ _ 69 _ _ _ _)
         refine R_aload_n dX12_walks_69 rfl (?_ : RR _ _ _ _ 70 _ _ _ _)
         refine R_iload_n dX12_walks_70 rfl (?_ : RR _ _ _ _ 71 _ _ _ _)
         refine R_cSi2 dX12_walks_71 msX12_placeOf mlX12_130 (by decide) (Nat.le_of_ble_eq_true rfl) (Nat.le_of_ble_eq_true rfl) (T_X12_placeOf) (?_ : RR _ _ _ _ 74 _ _ _ _)
         refine R_isub dX12_walks_74 (?_ : RR _ _ _ _ 75 _ _ _ _)
         refine R_abs dX12_walks_75 mmX12_364 (by decide) (Nat.le_of_ble_eq_true rfl) (?_ : RR _ _ _ _ 78 _ _ _ _)
         refine R_iconst dX12_walks_78 (?_ : RR _ _ _ _ 79 _ _ _ _)
         refine R_icmp_eq (t := 85) dX12_walks_79 rfl (fun c79 => ?_) (fun c79 => ?_)
         · first
           | (exfalso; omega)
           | (refine R_aload_n dX12_walks_85 rfl (?_ : RR _ _ _ _ 86 _ _ _ _)
              refine R_bipush dX12_walks_86 rfl (?_ : RR _ _ _ _ 88 _ _ _ _)
              refine R_iload_n dX12_walks_88 rfl (?_ : RR _ _ _ _ 89 _ _ _ _)
              refine R_iadd dX12_walks_89 (?_ : RR _ _ _ _ 90 _ _ _ _)
              refine R_iload_n dX12_walks_90 rfl (?_ : RR _ _ _ _ 91 _ _ _ _)
              refine R_iast dX12_walks_91 (?_ : RR _ _ _ _ 92 _ _ _ _)
              refine R_aload_n dX12_walks_92 rfl (?_ : RR _ _ _ _ 93 _ _ _ _)
              refine R_iconst dX12_walks_93 (?_ : RR _ _ _ _ 94 _ _ _ _)
              refine R_dup2 dX12_walks_94 (fun _ => rfl) (fun _ => rfl) (?_ : RR _ _ _ _ 95 _ _ _ _)
              refine R_iald dX12_walks_95 (fun q95 => (?_ : RR _ _ _ _ 96 _ _ _ _))
              refine R_iconst dX12_walks_96 (?_ : RR _ _ _ _ 97 _ _ _ _)
              refine R_iadd dX12_walks_97 (?_ : RR _ _ _ _ 98 _ _ _ _)
              refine R_iast dX12_walks_98 (?_ : RR _ _ _ _ 99 _ _ _ _)
              refine R_iload dX12_walks_99 rfl (?_ : RR _ _ _ _ 101 _ _ _ _)
              exact R_ireturn dX12_walks_101 trivial hQ)
         · first
           | (exfalso; omega)
           | (refine R_bipush dX12_walks_82 rfl (?_ : RR _ _ _ _ 84 _ _ _ _)
              exact R_ireturn dX12_walks_84 trivial hQ))
  · refine R_aload_n dX12_walks_43 rfl (?_ : RR _ _ _ _ 44 _ _ _ _)
    refine R_iload_n dX12_walks_44 rfl (?_ : RR _ _ _ _ 45 _ _ _ _)
    refine R_cSi2 dX12_walks_45 msX12_placeOf mlX12_130 (by decide) (Nat.le_of_ble_eq_true rfl) (Nat.le_of_ble_eq_true rfl) (T_X12_placeOf) (?_ : RR _ _ _ _ 48 _ _ _ _)
    refine R_if_lt (t := 55) dX12_walks_48 rfl (fun c48 => ?_) (fun c48 => ?_)
    · refine R_iconst dX12_walks_55 (?_ : RR _ _ _ _ 56 _ _ _ _)
      refine R_istore dX12_walks_56 (Nat.le_of_ble_eq_true rfl) (?_ : RR _ _ _ _ 58 [_, _, _, _, _, _] _ _ _)
      refine R_iload dX12_walks_58 rfl (?_ : RR _ _ _ _ 60 _ _ _ _)
      refine R_if_eq (t := 82) dX12_walks_60 rfl (fun c60 => ?_) (fun c60 => ?_)
      · first
        | (exfalso; omega)
        | (refine R_bipush dX12_walks_82 rfl (?_ : RR _ _ _ _ 84 _ _ _ _)
           exact R_ireturn dX12_walks_84 trivial hQ)
      · first
        | (exfalso; omega)
        | (refine R_aload_n dX12_walks_63 rfl (?_ : RR _ _ _ _ 64 _ _ _ _)
           refine R_iload dX12_walks_64 rfl (?_ : RR _ _ _ _ 66 _ _ _ _)
           refine R_cSi2 dX12_walks_66 msX12_placeOf mlX12_130 (by decide) (Nat.le_of_ble_eq_true rfl) (Nat.le_of_ble_eq_true rfl) (T_X12_placeOf) (?_ : RR _ _ _ _ 69 _ _ _ _)
           refine R_aload_n dX12_walks_69 rfl (?_ : RR _ _ _ _ 70 _ _ _ _)
           refine R_iload_n dX12_walks_70 rfl (?_ : RR _ _ _ _ 71 _ _ _ _)
           refine R_cSi2 dX12_walks_71 msX12_placeOf mlX12_130 (by decide) (Nat.le_of_ble_eq_true rfl) (Nat.le_of_ble_eq_true rfl) (T_X12_placeOf) (?_ : RR _ _ _ _ 74 _ _ _ _)
           refine R_isub dX12_walks_74 (?_ : RR _ _ _ _ 75 _ _ _ _)
           refine R_abs dX12_walks_75 mmX12_364 (by decide) (Nat.le_of_ble_eq_true rfl) (?_ : RR _ _ _ _ 78 _ _ _ _)
           refine R_iconst dX12_walks_78 (?_ : RR _ _ _ _ 79 _ _ _ _)
           refine R_icmp_eq (t := 85) dX12_walks_79 rfl (fun c79 => ?_) (fun c79 => ?_)
           · first
             | (exfalso; omega)
             | (refine R_aload_n dX12_walks_85 rfl (?_ : RR _ _ _ _ 86 _ _ _ _)
                refine R_bipush dX12_walks_86 rfl (?_ : RR _ _ _ _ 88 _ _ _ _)
                refine R_iload_n dX12_walks_88 rfl (?_ : RR _ _ _ _ 89 _ _ _ _)
                refine R_iadd dX12_walks_89 (?_ : RR _ _ _ _ 90 _ _ _ _)
                refine R_iload_n dX12_walks_90 rfl (?_ : RR _ _ _ _ 91 _ _ _ _)
                refine R_iast dX12_walks_91 (?_ : RR _ _ _ _ 92 _ _ _ _)
                refine R_aload_n dX12_walks_92 rfl (?_ : RR _ _ _ _ 93 _ _ _ _)
                refine R_iconst dX12_walks_93 (?_ : RR _ _ _ _ 94 _ _ _ _)
                refine R_dup2 dX12_walks_94 (fun _ => rfl) (fun _ => rfl) (?_ : RR _ _ _ _ 95 _ _ _ _)
                refine R_iald dX12_walks_95 (fun q95 => (?_ : RR _ _ _ _ 96 _ _ _ _))
                refine R_iconst dX12_walks_96 (?_ : RR _ _ _ _ 97 _ _ _ _)
                refine R_iadd dX12_walks_97 (?_ : RR _ _ _ _ 98 _ _ _ _)
                refine R_iast dX12_walks_98 (?_ : RR _ _ _ _ 99 _ _ _ _)
                refine R_iload dX12_walks_99 rfl (?_ : RR _ _ _ _ 101 _ _ _ _)
                exact R_ireturn dX12_walks_101 trivial hQ)
           · first
             | (exfalso; omega)
             | (refine R_bipush dX12_walks_82 rfl (?_ : RR _ _ _ _ 84 _ _ _ _)
                exact R_ireturn dX12_walks_84 trivial hQ))
    · refine R_iconst dX12_walks_51 (?_ : RR _ _ _ _ 52 _ _ _ _)
      refine R_goto (t := 56) dX12_walks_52 rfl (?_ : RR _ _ _ _ 56 _ _ _ _)
      refine R_istore dX12_walks_56 (Nat.le_of_ble_eq_true rfl) (?_ : RR _ _ _ _ 58 [_, _, _, _, _, _] _ _ _)
      refine R_iload dX12_walks_58 rfl (?_ : RR _ _ _ _ 60 _ _ _ _)
      refine R_if_eq (t := 82) dX12_walks_60 rfl (fun c60 => ?_) (fun c60 => ?_)
      · first
        | (exfalso; omega)
        | (refine R_bipush dX12_walks_82 rfl (?_ : RR _ _ _ _ 84 _ _ _ _)
           exact R_ireturn dX12_walks_84 trivial hQ)
      · first
        | (exfalso; omega)
        | (refine R_aload_n dX12_walks_63 rfl (?_ : RR _ _ _ _ 64 _ _ _ _)
           refine R_iload dX12_walks_64 rfl (?_ : RR _ _ _ _ 66 _ _ _ _)
           refine R_cSi2 dX12_walks_66 msX12_placeOf mlX12_130 (by decide) (Nat.le_of_ble_eq_true rfl) (Nat.le_of_ble_eq_true rfl) (T_X12_placeOf) (?_ : RR _ _ _ _ 69 _ _ _ _)
           refine R_aload_n dX12_walks_69 rfl (?_ : RR _ _ _ _ 70 _ _ _ _)
           refine R_iload_n dX12_walks_70 rfl (?_ : RR _ _ _ _ 71 _ _ _ _)
           refine R_cSi2 dX12_walks_71 msX12_placeOf mlX12_130 (by decide) (Nat.le_of_ble_eq_true rfl) (Nat.le_of_ble_eq_true rfl) (T_X12_placeOf) (?_ : RR _ _ _ _ 74 _ _ _ _)
           refine R_isub dX12_walks_74 (?_ : RR _ _ _ _ 75 _ _ _ _)
           refine R_abs dX12_walks_75 mmX12_364 (by decide) (Nat.le_of_ble_eq_true rfl) (?_ : RR _ _ _ _ 78 _ _ _ _)
           refine R_iconst dX12_walks_78 (?_ : RR _ _ _ _ 79 _ _ _ _)
           refine R_icmp_eq (t := 85) dX12_walks_79 rfl (fun c79 => ?_) (fun c79 => ?_)
           · first
             | (exfalso; omega)
             | (refine R_aload_n dX12_walks_85 rfl (?_ : RR _ _ _ _ 86 _ _ _ _)
                refine R_bipush dX12_walks_86 rfl (?_ : RR _ _ _ _ 88 _ _ _ _)
                refine R_iload_n dX12_walks_88 rfl (?_ : RR _ _ _ _ 89 _ _ _ _)
                refine R_iadd dX12_walks_89 (?_ : RR _ _ _ _ 90 _ _ _ _)
                refine R_iload_n dX12_walks_90 rfl (?_ : RR _ _ _ _ 91 _ _ _ _)
                refine R_iast dX12_walks_91 (?_ : RR _ _ _ _ 92 _ _ _ _)
                refine R_aload_n dX12_walks_92 rfl (?_ : RR _ _ _ _ 93 _ _ _ _)
                refine R_iconst dX12_walks_93 (?_ : RR _ _ _ _ 94 _ _ _ _)
                refine R_dup2 dX12_walks_94 (fun _ => rfl) (fun _ => rfl) (?_ : RR _ _ _ _ 95 _ _ _ _)
                refine R_iald dX12_walks_95 (fun q95 => (?_ : RR _ _ _ _ 96 _ _ _ _))
                refine R_iconst dX12_walks_96 (?_ : RR _ _ _ _ 97 _ _ _ _)
                refine R_iadd dX12_walks_97 (?_ : RR _ _ _ _ 98 _ _ _ _)
                refine R_iast dX12_walks_98 (?_ : RR _ _ _ _ 99 _ _ _ _)
                refine R_iload dX12_walks_99 rfl (?_ : RR _ _ _ _ 101 _ _ _ _)
                exact R_ireturn dX12_walks_101 trivial hQ)
           · first
             | (exfalso; omega)
             | (refine R_bipush dX12_walks_82 rfl (?_ : RR _ _ _ _ 84 _ _ _ _)
                exact R_ireturn dX12_walks_84 trivial hQ))
theorem T_X12_walks_yes {p c : Nat} (hp : p < np) (hc : c < nc) (hs : 0 ≤ mS (h r) p ∧ mS (h r) p < 6) (hpl : ∀ k : Int, 0 ≤ k → k < 6 → -1 ≤ mP (h r) k ∧ mP (h r) k < 6) (hok : 0 ≤ mP (h r) (mS (h r) p) ∧ 0 ≤ mP (h r) c ∧ iAbs (mP (h r) (mS (h r) p) - mP (h r) c) = 1) (hnow : h r 1 ≤ 2000000000) (hnc : h 147 4 = nc) (hnp : h 147 5 = np) (hr : isRw r := by assumption) (hrb : r = 154 ∨ r = 155 := by omega) (h6 : nc ≤ 6 := by omega) (h12 : np ≤ 12 := by omega) : MT mX12_walks 2 [pR 147, pR r, pI p, pI c] h (some (pI (mS (h r) p))) (rup h r (fup (fup (h r) (14 + p) c) 1 (h r 1 + 1))) := by
  refine MT.of (fun Q hQ => (?_ : RR mX12_walks _ _ _ _ [pR 147, pR r, pI p, pI c, pU, pU] _ _ _))
  have hsr : h r (14 + (p : Int)) = mS (h r) p := rfl
  have p1 := hpl (mS (h r) p) hs.1 hs.2
  have p2 := hpl c (by omega) (by omega)
  refine R_aload_n dX12_walks_0 rfl (?_ : RR _ _ _ _ 1 _ _ _ _)
  refine R_iload_n dX12_walks_1 rfl (?_ : RR _ _ _ _ 2 _ _ _ _)
  refine R_cVi1 dX12_walks_2 mvX12_isPassenger mlX12_325 (by decide) (by decide) (Nat.le_of_ble_eq_true rfl) (Nat.le_of_ble_eq_true rfl) (T_X12_isPassenger (by omega)) (?_ : RR _ _ _ _ 5 _ _ _ _)
  try simp (disch := omega) only [rup_rup, rup_sort, rupS_def, rup_s, rup_n, fup_fup, fup_s, fup_n]
  rw [hnp, if_pos (by omega)]
  refine R_if_eq (t := 16) dX12_walks_5 rfl (fun c5 => ?_) (fun c5 => ?_)
  · exfalso; omega
  refine R_aload_n dX12_walks_8 rfl (?_ : RR _ _ _ _ 9 _ _ _ _)
  refine R_iload_n dX12_walks_9 rfl (?_ : RR _ _ _ _ 10 _ _ _ _)
  refine R_cVi1 dX12_walks_10 mvX12_isCoach mlX12_317 (by decide) (by decide) (Nat.le_of_ble_eq_true rfl) (Nat.le_of_ble_eq_true rfl) (T_X12_isCoach (by omega)) (?_ : RR _ _ _ _ 13 _ _ _ _)
  try simp (disch := omega) only [rup_rup, rup_sort, rupS_def, rup_s, rup_n, fup_fup, fup_s, fup_n]
  rw [hnc, if_pos (by omega)]
  refine R_if_ne (t := 18) dX12_walks_13 rfl (fun c13 => ?_) (fun c13 => ?_)
  rotate_left
  · exfalso; omega
  refine R_aload_n dX12_walks_18 rfl (?_ : RR _ _ _ _ 19 _ _ _ _)
  refine R_bipush dX12_walks_19 rfl (?_ : RR _ _ _ _ 21 _ _ _ _)
  refine R_iload_n dX12_walks_21 rfl (?_ : RR _ _ _ _ 22 _ _ _ _)
  refine R_iadd dX12_walks_22 (?_ : RR _ _ _ _ 23 _ _ _ _)
  refine R_iald dX12_walks_23 (fun q23 => (?_ : RR _ _ _ _ 24 _ _ _ _))
  try simp (disch := omega) only [rup_rup, rup_sort, rupS_def, rup_s, rup_n, fup_fup, fup_s, fup_n] at q23 ⊢
  rw [hsr] at q23 ⊢
  refine R_istore dX12_walks_24 (Nat.le_of_ble_eq_true rfl) (?_ : RR _ _ _ _ 26 [_, _, _, _, _, _] _ _ _)
  refine R_iload dX12_walks_26 rfl (?_ : RR _ _ _ _ 28 _ _ _ _)
  refine R_if_ge (t := 34) dX12_walks_28 rfl (fun c28 => ?_) (fun c28 => ?_)
  rotate_left
  · exfalso; omega
  refine R_aload_n dX12_walks_34 rfl (?_ : RR _ _ _ _ 35 _ _ _ _)
  refine R_iload dX12_walks_35 rfl (?_ : RR _ _ _ _ 37 _ _ _ _)
  refine R_cSi2 dX12_walks_37 msX12_placeOf mlX12_130 (by decide) (Nat.le_of_ble_eq_true rfl) (Nat.le_of_ble_eq_true rfl) (T_X12_placeOf) (?_ : RR _ _ _ _ 40 _ _ _ _)
  try simp (disch := omega) only [rup_rup, rup_sort, rupS_def, rup_s, rup_n, fup_fup, fup_s, fup_n]
  refine R_if_lt (t := 55) dX12_walks_40 rfl (fun c40 => ?_) (fun c40 => ?_)
  · exfalso; omega
  refine R_aload_n dX12_walks_43 rfl (?_ : RR _ _ _ _ 44 _ _ _ _)
  refine R_iload_n dX12_walks_44 rfl (?_ : RR _ _ _ _ 45 _ _ _ _)
  refine R_cSi2 dX12_walks_45 msX12_placeOf mlX12_130 (by decide) (Nat.le_of_ble_eq_true rfl) (Nat.le_of_ble_eq_true rfl) (T_X12_placeOf) (?_ : RR _ _ _ _ 48 _ _ _ _)
  try simp (disch := omega) only [rup_rup, rup_sort, rupS_def, rup_s, rup_n, fup_fup, fup_s, fup_n]
  refine R_if_lt (t := 55) dX12_walks_48 rfl (fun c48 => ?_) (fun c48 => ?_)
  · exfalso; omega
  refine R_iconst dX12_walks_51 (?_ : RR _ _ _ _ 52 _ _ _ _)
  refine R_goto (t := 56) dX12_walks_52 rfl (?_ : RR _ _ _ _ 56 _ _ _ _)
  refine R_istore dX12_walks_56 (Nat.le_of_ble_eq_true rfl) (?_ : RR _ _ _ _ 58 [_, _, _, _, _, _] _ _ _)
  refine R_iload dX12_walks_58 rfl (?_ : RR _ _ _ _ 60 _ _ _ _)
  refine R_if_eq (t := 82) dX12_walks_60 rfl (fun c60 => ?_) (fun c60 => ?_)
  · exfalso; omega
  refine R_aload_n dX12_walks_63 rfl (?_ : RR _ _ _ _ 64 _ _ _ _)
  refine R_iload dX12_walks_64 rfl (?_ : RR _ _ _ _ 66 _ _ _ _)
  refine R_cSi2 dX12_walks_66 msX12_placeOf mlX12_130 (by decide) (Nat.le_of_ble_eq_true rfl) (Nat.le_of_ble_eq_true rfl) (T_X12_placeOf) (?_ : RR _ _ _ _ 69 _ _ _ _)
  try simp (disch := omega) only [rup_rup, rup_sort, rupS_def, rup_s, rup_n, fup_fup, fup_s, fup_n]
  refine R_aload_n dX12_walks_69 rfl (?_ : RR _ _ _ _ 70 _ _ _ _)
  refine R_iload_n dX12_walks_70 rfl (?_ : RR _ _ _ _ 71 _ _ _ _)
  refine R_cSi2 dX12_walks_71 msX12_placeOf mlX12_130 (by decide) (Nat.le_of_ble_eq_true rfl) (Nat.le_of_ble_eq_true rfl) (T_X12_placeOf) (?_ : RR _ _ _ _ 74 _ _ _ _)
  try simp (disch := omega) only [rup_rup, rup_sort, rupS_def, rup_s, rup_n, fup_fup, fup_s, fup_n]
  refine R_isub dX12_walks_74 (?_ : RR _ _ _ _ 75 _ _ _ _)
  refine R_abs dX12_walks_75 mmX12_364 (by decide) (Nat.le_of_ble_eq_true rfl) (?_ : RR _ _ _ _ 78 _ _ _ _)
  try simp (disch := omega) only [rup_rup, rup_sort, rupS_def, rup_s, rup_n, fup_fup, fup_s, fup_n]
  rw [hok.2.2]
  refine R_iconst dX12_walks_78 (?_ : RR _ _ _ _ 79 _ _ _ _)
  refine R_icmp_eq (t := 85) dX12_walks_79 rfl (fun c79 => ?_) (fun c79 => ?_)
  rotate_left
  · exfalso; omega
  refine R_aload_n dX12_walks_85 rfl (?_ : RR _ _ _ _ 86 _ _ _ _)
  refine R_bipush dX12_walks_86 rfl (?_ : RR _ _ _ _ 88 _ _ _ _)
  refine R_iload_n dX12_walks_88 rfl (?_ : RR _ _ _ _ 89 _ _ _ _)
  refine R_iadd dX12_walks_89 (?_ : RR _ _ _ _ 90 _ _ _ _)
  refine R_iload_n dX12_walks_90 rfl (?_ : RR _ _ _ _ 91 _ _ _ _)
  refine R_iast dX12_walks_91 (?_ : RR _ _ _ _ 92 _ _ _ _)
  try simp (disch := omega) only [rup_rup, rup_sort, rupS_def, rup_s, rup_n, fup_fup, fup_s, fup_n]
  refine R_aload_n dX12_walks_92 rfl (?_ : RR _ _ _ _ 93 _ _ _ _)
  refine R_iconst dX12_walks_93 (?_ : RR _ _ _ _ 94 _ _ _ _)
  refine R_dup2 dX12_walks_94 (fun _ => rfl) (fun _ => rfl) (?_ : RR _ _ _ _ 95 _ _ _ _)
  refine R_iald dX12_walks_95 (fun q95 => (?_ : RR _ _ _ _ 96 _ _ _ _))
  try simp (disch := omega) only [rup_rup, rup_sort, rupS_def, rup_s, rup_n, fup_fup, fup_s, fup_n] at q95 ⊢
  refine R_iconst dX12_walks_96 (?_ : RR _ _ _ _ 97 _ _ _ _)
  refine R_iadd dX12_walks_97 (?_ : RR _ _ _ _ 98 _ _ _ _)
  refine R_iast dX12_walks_98 (?_ : RR _ _ _ _ 99 _ _ _ _)
  try simp (disch := omega) only [rup_rup, rup_sort, rupS_def, rup_s, rup_n, fup_fup, fup_s, fup_n]
  refine R_iload dX12_walks_99 rfl (?_ : RR _ _ _ _ 101 _ _ _ _)
  exact R_ireturn dX12_walks_101 trivial hQ
end MA
