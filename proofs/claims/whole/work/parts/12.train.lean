theorem T_X9_haltOf {t : Nat} {c : Int} {h : Nat → Int → Int} (ht : isTr t := by assumption) (hc : 0 ≤ c ∧ c < 6 := by omega) : MT mX9_haltOf 0 [pR t, pI c] h (some (pI (if h (t + 2) c = -1 then h (t + 3) c else h t 0))) h := by
  obtain ⟨t0, t1, t2, t3, t4, t5, t6, t7, t8⟩ := ht
  refine MT.of (fun Q hQ => (?_ : RR mX9_haltOf _ _ _ _ [pR t, pI c] _ _ _))
  refine R_aload_n dX9_haltOf_0 rfl (?_ : RR _ _ _ _ 1 _ _ _ _)
  refine R_getr dX9_haltOf_1 flX9_15 cok_9 rfl (by decide) (?_ : RR _ _ _ _ 4 _ _ _ _)
  refine R_iload_n dX9_haltOf_4 rfl (?_ : RR _ _ _ _ 5 _ _ _ _)
  refine R_iald dX9_haltOf_5 (fun q5 => (?_ : RR _ _ _ _ 6 _ _ _ _))
  refine R_iconst dX9_haltOf_6 (?_ : RR _ _ _ _ 7 _ _ _ _)
  refine R_icmp_ne (t := 19) dX9_haltOf_7 rfl (fun c7 => ?_) (fun c7 => ?_)
  · refine R_aload_n dX9_haltOf_19 rfl (?_ : RR _ _ _ _ 20 _ _ _ _)
    refine R_geti (z := 0) dX9_haltOf_20 flX9_24 cok_9 rfl (by decide) rfl (fun q20 => (?_ : RR _ _ _ _ 23 _ _ _ _))
    exact R_ireturn dX9_haltOf_23 trivial (by simpa [c7] using hQ)
  · refine R_aload_n dX9_haltOf_10 rfl (?_ : RR _ _ _ _ 11 _ _ _ _)
    refine R_getr dX9_haltOf_11 flX9_18 cok_9 rfl (by decide) (?_ : RR _ _ _ _ 14 _ _ _ _)
    refine R_iload_n dX9_haltOf_14 rfl (?_ : RR _ _ _ _ 15 _ _ _ _)
    refine R_iald dX9_haltOf_15 (fun q15 => (?_ : RR _ _ _ _ 16 _ _ _ _))
    refine R_goto (t := 23) dX9_haltOf_16 rfl (?_ : RR _ _ _ _ 23 _ _ _ _)
    exact R_ireturn dX9_haltOf_23 trivial (by simpa [c7] using hQ)
theorem T_X9_inside {t n : Nat} {c : Int} {h : Nat → Int → Int} (ht : isTr t := by assumption) (hc : r32 c := by omega) (hn : n ≤ 12 := by omega) : MT mX9_inside 0 [pR t, pI c, pI n] h (some (pI (bset (fun j => decide (h (t + 4) j = c)) n))) h := by
  obtain ⟨t0, t1, t2, t3, t4, t5, t6, t7, t8⟩ := ht
  refine MT.of (fun Q hQ => (?_ : RR mX9_inside _ _ _ _ [pR t, pI c, pI n, pU, pU] _ _ _))
  generalize hP : (fun j : Nat => decide (h (t + 4) j = c)) = P at hQ
  have L : ∀ k i : Nat, i + k = n → RR mX9_inside 0 0 0 5 [pR t, pI c, pI n, pI (bset P i), pI i] [] (shp0, rf0, h) Q := by
    intro k
    induction k with
    | zero =>
      intro i hi 
      obtain rfl : i = n := by omega
      refine R_iload dX9_inside_5 rfl (?_ : RR _ _ _ _ 7 _ _ _ _)
      refine R_iload_n dX9_inside_7 rfl (?_ : RR _ _ _ _ 8 _ _ _ _)
      refine R_icmp_ge (t := 35) dX9_inside_8 rfl (fun c8 => ?_) (fun c8 => ?_)
      rotate_left
      · exfalso; omega
      refine R_iload_n dX9_inside_35 rfl (?_ : RR _ _ _ _ 36 _ _ _ _)
      exact R_ireturn dX9_inside_36 trivial hQ
    | succ k ih =>
      intro i hi 
      refine R_iload dX9_inside_5 rfl (?_ : RR _ _ _ _ 7 _ _ _ _)
      refine R_iload_n dX9_inside_7 rfl (?_ : RR _ _ _ _ 8 _ _ _ _)
      refine R_icmp_ge (t := 35) dX9_inside_8 rfl (fun c8 => ?_) (fun c8 => ?_)
      · exfalso; omega
      refine R_aload_n dX9_inside_11 rfl (?_ : RR _ _ _ _ 12 _ _ _ _)
      refine R_getr dX9_inside_12 flX9_21 cok_9 rfl (by decide) (?_ : RR _ _ _ _ 15 _ _ _ _)
      refine R_iload dX9_inside_15 rfl (?_ : RR _ _ _ _ 17 _ _ _ _)
      refine R_iald dX9_inside_17 (fun q17 => (?_ : RR _ _ _ _ 18 _ _ _ _))
      refine R_iload_n dX9_inside_18 rfl (?_ : RR _ _ _ _ 19 _ _ _ _)
      refine R_icmp_ne (t := 29) dX9_inside_19 rfl (fun c19 => ?_) (fun c19 => ?_)
      · rw [← bset_no (P := P) (n := i) (by rw [← hP]; simpa using c19)]
        refine R_iinc dX9_inside_29 rfl (Nat.le_of_ble_eq_true rfl) (?_ : RR _ _ _ _ 32 [_, _, _, _, _] _ _ _)
        refine R_goto (t := 5) dX9_inside_32 rfl (?_ : RR _ _ _ _ 5 _ _ _ _)
        exact ih (i + 1) (by omega)
      · have e := bset_or (P := P) (n := i) (by omega) (by rw [← hP]; simpa using c19)
        refine R_iload_n dX9_inside_22 rfl (?_ : RR _ _ _ _ 23 _ _ _ _)
        refine R_iconst dX9_inside_23 (?_ : RR _ _ _ _ 24 _ _ _ _)
        refine R_iload dX9_inside_24 rfl (?_ : RR _ _ _ _ 26 _ _ _ _)
        refine R_ishl dX9_inside_26 (?_ : RR _ _ _ _ 27 _ _ _ _)
        refine R_ior dX9_inside_27 (?_ : RR _ _ _ _ 28 _ _ _ _)
        rw [e]
        refine R_istore_n dX9_inside_28 (Nat.le_of_ble_eq_true rfl) (?_ : RR _ _ _ _ 29 [_, _, _, _, _] _ _ _)
        refine R_iinc dX9_inside_29 rfl (Nat.le_of_ble_eq_true rfl) (?_ : RR _ _ _ _ 32 [_, _, _, _, _] _ _ _)
        refine R_goto (t := 5) dX9_inside_32 rfl (?_ : RR _ _ _ _ 5 _ _ _ _)
        exact ih (i + 1) (by omega)
  refine R_iconst dX9_inside_0 (?_ : RR _ _ _ _ 1 _ _ _ _)
  refine R_istore_n dX9_inside_1 (Nat.le_of_ble_eq_true rfl) (?_ : RR _ _ _ _ 2 [_, _, _, _, _] _ _ _)
  refine R_iconst dX9_inside_2 (?_ : RR _ _ _ _ 3 _ _ _ _)
  refine R_istore dX9_inside_3 (Nat.le_of_ble_eq_true rfl) (?_ : RR _ _ _ _ 5 [_, _, _, _, _] _ _ _)
  exact L n 0 (by omega)
theorem T_X9_outBits {t n : Nat} {h : Nat → Int → Int} (ht : isTr t := by assumption) (hn : n ≤ 12 := by omega) : MT mX9_outBits 1 [pR t, pI n] h (some (pI (bset (fun j => decide (h (t + 4) j = -1)) n))) h := by
  obtain ⟨t0, t1, t2, t3, t4, t5, t6, t7, t8⟩ := id ht
  refine MT.of (fun Q hQ => (?_ : RR mX9_outBits _ _ _ _ [pR t, pI n] _ _ _))
  refine R_aload_n dX9_outBits_0 rfl (?_ : RR _ _ _ _ 1 _ _ _ _)
  refine R_iconst dX9_outBits_1 (?_ : RR _ _ _ _ 2 _ _ _ _)
  refine R_iload_n dX9_outBits_2 rfl (?_ : RR _ _ _ _ 3 _ _ _ _)
  refine R_cVi2 dX9_outBits_3 mvX9_inside mlX9_51 (by decide) (by decide) (Nat.le_of_ble_eq_true rfl) (Nat.le_of_ble_eq_true rfl) (T_X9_inside) (?_ : RR _ _ _ _ 6 _ _ _ _)
  exact R_ireturn dX9_outBits_6 trivial hQ
theorem T_X9_has {t : Nat} {c : Int} {h : Nat → Int → Int} (ht : isTr t := by assumption) (hc : r32 c := by omega) : MT mX9_has 0 [pR t, pI c] h (some (pI (if 0 ≤ c ∧ c < h t 2 then 1 else 0))) h := by
  obtain ⟨t0, t1, t2, t3, t4, t5, t6, t7, t8⟩ := ht
  refine MT.of (fun Q hQ => (?_ : RR mX9_has _ _ _ _ [pR t, pI c] _ _ _))
  refine R_iload_n dX9_has_0 rfl (?_ : RR _ _ _ _ 1 _ _ _ _)
  refine R_if_lt (t := 16) dX9_has_1 rfl (fun c1 => ?_) (fun c1 => ?_)
  · refine R_iconst dX9_has_16 (?_ : RR _ _ _ _ 17 _ _ _ _)
    exact R_ireturn dX9_has_17 (by first | exact Or.inl rfl | exact Or.inr rfl | exact ok_ite | omega) (by first | rwa [if_pos (by omega)] at hQ | rwa [if_neg (by omega)] at hQ)
  · refine R_iload_n dX9_has_4 rfl (?_ : RR _ _ _ _ 5 _ _ _ _)
    refine R_aload_n dX9_has_5 rfl (?_ : RR _ _ _ _ 6 _ _ _ _)
    refine R_geti (z := 2) dX9_has_6 flX9_31 cok_9 rfl (by decide) rfl (fun q6 => (?_ : RR _ _ _ _ 9 _ _ _ _))
    refine R_icmp_ge (t := 16) dX9_has_9 rfl (fun c9 => ?_) (fun c9 => ?_)
    · refine R_iconst dX9_has_16 (?_ : RR _ _ _ _ 17 _ _ _ _)
      exact R_ireturn dX9_has_17 (by first | exact Or.inl rfl | exact Or.inr rfl | exact ok_ite | omega) (by first | rwa [if_pos (by omega)] at hQ | rwa [if_neg (by omega)] at hQ)
    · refine R_iconst dX9_has_12 (?_ : RR _ _ _ _ 13 _ _ _ _)
      refine R_goto (t := 17) dX9_has_13 rfl (?_ : RR _ _ _ _ 17 _ _ _ _)
      exact R_ireturn dX9_has_17 (by first | exact Or.inl rfl | exact Or.inr rfl | exact ok_ite | omega) (by first | rwa [if_pos (by omega)] at hQ | rwa [if_neg (by omega)] at hQ)
theorem T_X9_standingAt {t n : Nat} {c : Int} {h : Nat → Int → Int} (hn : h t 2 = n := by assumption) (ht : isTr t := by assumption) (hc : r32 c := by omega) (h6 : n ≤ 6 := by omega) : MT mX9_standingAt 0 [pR t, pI c] h (some (pI (bset (fun j => decide (h (t + 2) j = -1 ∧ h (t + 3) j = c)) n))) h := by
  obtain ⟨t0, t1, t2, t3, t4, t5, t6, t7, t8⟩ := ht
  refine MT.of (fun Q hQ => (?_ : RR mX9_standingAt _ _ _ _ [pR t, pI c, pU, pU] _ _ _))
  generalize hP : (fun j : Nat => decide (h (t + 2) j = -1 ∧ h (t + 3) j = c)) = P at hQ
  have L : ∀ k i : Nat, i + k = n → RR mX9_standingAt 0 0 0 4 [pR t, pI c, pI (bset P i), pI i] [] (shp0, rf0, h) Q := by
    intro k
    induction k with
    | zero =>
      intro i hi 
      obtain rfl : i = n := by omega
      refine R_iload_n dX9_standingAt_4 rfl (?_ : RR _ _ _ _ 5 _ _ _ _)
      refine R_aload_n dX9_standingAt_5 rfl (?_ : RR _ _ _ _ 6 _ _ _ _)
      refine R_geti (z := 2) dX9_standingAt_6 flX9_31 cok_9 rfl (by decide) rfl (fun q6 => (?_ : RR _ _ _ _ 9 _ _ _ _))
      refine R_icmp_ge (t := 44) dX9_standingAt_9 rfl (fun c9 => ?_) (fun c9 => ?_)
      rotate_left
      · exfalso; omega
      refine R_iload_n dX9_standingAt_44 rfl (?_ : RR _ _ _ _ 45 _ _ _ _)
      exact R_ireturn dX9_standingAt_45 trivial hQ
    | succ k ih =>
      intro i hi 
      refine R_iload_n dX9_standingAt_4 rfl (?_ : RR _ _ _ _ 5 _ _ _ _)
      refine R_aload_n dX9_standingAt_5 rfl (?_ : RR _ _ _ _ 6 _ _ _ _)
      refine R_geti (z := 2) dX9_standingAt_6 flX9_31 cok_9 rfl (by decide) rfl (fun q6 => (?_ : RR _ _ _ _ 9 _ _ _ _))
      refine R_icmp_ge (t := 44) dX9_standingAt_9 rfl (fun c9 => ?_) (fun c9 => ?_)
      · exfalso; omega
      refine R_aload_n dX9_standingAt_12 rfl (?_ : RR _ _ _ _ 13 _ _ _ _)
      refine R_getr dX9_standingAt_13 flX9_15 cok_9 rfl (by decide) (?_ : RR _ _ _ _ 16 _ _ _ _)
      refine R_iload_n dX9_standingAt_16 rfl (?_ : RR _ _ _ _ 17 _ _ _ _)
      refine R_iald dX9_standingAt_17 (fun q17 => (?_ : RR _ _ _ _ 18 _ _ _ _))
      refine R_iconst dX9_standingAt_18 (?_ : RR _ _ _ _ 19 _ _ _ _)
      refine R_icmp_ne (t := 38) dX9_standingAt_19 rfl (fun c19 => ?_) (fun c19 => ?_)
      · rw [← bset_no (P := P) (n := i) (by rw [← hP]; simp [c19])]
        refine R_iinc dX9_standingAt_38 rfl (Nat.le_of_ble_eq_true rfl) (?_ : RR _ _ _ _ 41 [_, _, _, _] _ _ _)
        refine R_goto (t := 4) dX9_standingAt_41 rfl (?_ : RR _ _ _ _ 4 _ _ _ _)
        exact ih (i + 1) (by omega)
      · refine R_aload_n dX9_standingAt_22 rfl (?_ : RR _ _ _ _ 23 _ _ _ _)
        refine R_getr dX9_standingAt_23 flX9_18 cok_9 rfl (by decide) (?_ : RR _ _ _ _ 26 _ _ _ _)
        refine R_iload_n dX9_standingAt_26 rfl (?_ : RR _ _ _ _ 27 _ _ _ _)
        refine R_iald dX9_standingAt_27 (fun q27 => (?_ : RR _ _ _ _ 28 _ _ _ _))
        refine R_iload_n dX9_standingAt_28 rfl (?_ : RR _ _ _ _ 29 _ _ _ _)
        refine R_icmp_ne (t := 38) dX9_standingAt_29 rfl (fun c29 => ?_) (fun c29 => ?_)
        · rw [← bset_no (P := P) (n := i) (by rw [← hP]; simp [c29])]
          refine R_iinc dX9_standingAt_38 rfl (Nat.le_of_ble_eq_true rfl) (?_ : RR _ _ _ _ 41 [_, _, _, _] _ _ _)
          refine R_goto (t := 4) dX9_standingAt_41 rfl (?_ : RR _ _ _ _ 4 _ _ _ _)
          exact ih (i + 1) (by omega)
        · have e := bset_or (P := P) (n := i) (by omega) (by rw [← hP]; simp [c19, c29])
          refine R_iload_n dX9_standingAt_32 rfl (?_ : RR _ _ _ _ 33 _ _ _ _)
          refine R_iconst dX9_standingAt_33 (?_ : RR _ _ _ _ 34 _ _ _ _)
          refine R_iload_n dX9_standingAt_34 rfl (?_ : RR _ _ _ _ 35 _ _ _ _)
          refine R_ishl dX9_standingAt_35 (?_ : RR _ _ _ _ 36 _ _ _ _)
          refine R_ior dX9_standingAt_36 (?_ : RR _ _ _ _ 37 _ _ _ _)
          rw [e]
          refine R_istore_n dX9_standingAt_37 (Nat.le_of_ble_eq_true rfl) (?_ : RR _ _ _ _ 38 [_, _, _, _] _ _ _)
          refine R_iinc dX9_standingAt_38 rfl (Nat.le_of_ble_eq_true rfl) (?_ : RR _ _ _ _ 41 [_, _, _, _] _ _ _)
          refine R_goto (t := 4) dX9_standingAt_41 rfl (?_ : RR _ _ _ _ 4 _ _ _ _)
          exact ih (i + 1) (by omega)
  refine R_iconst dX9_standingAt_0 (?_ : RR _ _ _ _ 1 _ _ _ _)
  refine R_istore_n dX9_standingAt_1 (Nat.le_of_ble_eq_true rfl) (?_ : RR _ _ _ _ 2 [_, _, _, _] _ _ _)
  refine R_iconst dX9_standingAt_2 (?_ : RR _ _ _ _ 3 _ _ _ _)
  refine R_istore_n dX9_standingAt_3 (Nat.le_of_ble_eq_true rfl) (?_ : RR _ _ _ _ 4 [_, _, _, _] _ _ _)
  exact L n 0 (by omega)
theorem T_X9_carries {t : Nat} {c : Int} {h : Nat → Int → Int} (ht : isTr t := by assumption) (hc : 0 ≤ c ∧ c < 12 := by omega) (hs : h (t + 4) c = -1 ∨ (0 ≤ h (t + 4) c ∧ h (t + 4) c < 6) := by omega) : MT mX9_carries 0 [pR t, pI c] h (some (pI (if h (t + 4) c ≠ -1 ∧ h (t + 2) (h (t + 4) c) ≠ -1 then 1 else 0))) h := by
  obtain ⟨t0, t1, t2, t3, t4, t5, t6, t7, t8⟩ := ht
  refine MT.of (fun Q hQ => (?_ : RR mX9_carries _ _ _ _ [pR t, pI c] _ _ _))
  refine R_aload_n dX9_carries_0 rfl (?_ : RR _ _ _ _ 1 _ _ _ _)
  refine R_getr dX9_carries_1 flX9_21 cok_9 rfl (by decide) (?_ : RR _ _ _ _ 4 _ _ _ _)
  refine R_iload_n dX9_carries_4 rfl (?_ : RR _ _ _ _ 5 _ _ _ _)
  refine R_iald dX9_carries_5 (fun q5 => (?_ : RR _ _ _ _ 6 _ _ _ _))
  refine R_iconst dX9_carries_6 (?_ : RR _ _ _ _ 7 _ _ _ _)
  refine R_icmp_eq (t := 29) dX9_carries_7 rfl (fun c7 => ?_) (fun c7 => ?_)
  · refine R_iconst dX9_carries_29 (?_ : RR _ _ _ _ 30 _ _ _ _)
    exact R_ireturn dX9_carries_30 (by first | exact Or.inl rfl | exact Or.inr rfl | exact ok_ite | omega) (by simp_all)
  · refine R_aload_n dX9_carries_10 rfl (?_ : RR _ _ _ _ 11 _ _ _ _)
    refine R_getr dX9_carries_11 flX9_15 cok_9 rfl (by decide) (?_ : RR _ _ _ _ 14 _ _ _ _)
    refine R_aload_n dX9_carries_14 rfl (?_ : RR _ _ _ _ 15 _ _ _ _)
    refine R_getr dX9_carries_15 flX9_21 cok_9 rfl (by decide) (?_ : RR _ _ _ _ 18 _ _ _ _)
    refine R_iload_n dX9_carries_18 rfl (?_ : RR _ _ _ _ 19 _ _ _ _)
    refine R_iald dX9_carries_19 (fun q19 => (?_ : RR _ _ _ _ 20 _ _ _ _))
    refine R_iald dX9_carries_20 (fun q20 => (?_ : RR _ _ _ _ 21 _ _ _ _))
    refine R_iconst dX9_carries_21 (?_ : RR _ _ _ _ 22 _ _ _ _)
    refine R_icmp_eq (t := 29) dX9_carries_22 rfl (fun c22 => ?_) (fun c22 => ?_)
    · refine R_iconst dX9_carries_29 (?_ : RR _ _ _ _ 30 _ _ _ _)
      exact R_ireturn dX9_carries_30 (by first | exact Or.inl rfl | exact Or.inr rfl | exact ok_ite | omega) (by simp_all)
    · refine R_iconst dX9_carries_25 (?_ : RR _ _ _ _ 26 _ _ _ _)
      refine R_goto (t := 30) dX9_carries_26 rfl (?_ : RR _ _ _ _ 30 _ _ _ _)
      exact R_ireturn dX9_carries_30 (by first | exact Or.inl rfl | exact Or.inr rfl | exact ok_ite | omega) (by simp_all)
theorem T_X9_carriedBits {t n : Nat} {h : Nat → Int → Int} (hs : ∀ j : Nat, j < n → h (t + 4) j = -1 ∨ (0 ≤ h (t + 4) j ∧ h (t + 4) j < 6)) (ht : isTr t := by assumption) (hn : n ≤ 12 := by omega) : MT mX9_carriedBits 1 [pR t, pI n] h (some (pI (bset (fun j => decide (h (t + 4) j ≠ -1 ∧ h (t + 2) (h (t + 4) j) ≠ -1)) n))) h := by
  obtain ⟨t0, t1, t2, t3, t4, t5, t6, t7, t8⟩ := id ht
  refine MT.of (fun Q hQ => (?_ : RR mX9_carriedBits _ _ _ _ [pR t, pI n, pU, pU] _ _ _))
  generalize hP : (fun j : Nat => decide (h (t + 4) j ≠ -1 ∧ h (t + 2) (h (t + 4) j) ≠ -1)) = P at hQ
  have L : ∀ k i : Nat, i + k = n → RR mX9_carriedBits 1 0 0 4 [pR t, pI n, pI (bset P i), pI i] [] (shp0, rf0, h) Q := by
    intro k
    induction k with
    | zero =>
      intro i hi 
      obtain rfl : i = n := by omega
      refine R_iload_n dX9_carriedBits_4 rfl (?_ : RR _ _ _ _ 5 _ _ _ _)
      refine R_iload_n dX9_carriedBits_5 rfl (?_ : RR _ _ _ _ 6 _ _ _ _)
      refine R_icmp_ge (t := 29) dX9_carriedBits_6 rfl (fun c6 => ?_) (fun c6 => ?_)
      rotate_left
      · exfalso; omega
      refine R_iload_n dX9_carriedBits_29 rfl (?_ : RR _ _ _ _ 30 _ _ _ _)
      exact R_ireturn dX9_carriedBits_30 trivial hQ
    | succ k ih =>
      intro i hi 
      refine R_iload_n dX9_carriedBits_4 rfl (?_ : RR _ _ _ _ 5 _ _ _ _)
      refine R_iload_n dX9_carriedBits_5 rfl (?_ : RR _ _ _ _ 6 _ _ _ _)
      refine R_icmp_ge (t := 29) dX9_carriedBits_6 rfl (fun c6 => ?_) (fun c6 => ?_)
      · exfalso; omega
      refine R_aload_n dX9_carriedBits_9 rfl (?_ : RR _ _ _ _ 10 _ _ _ _)
      refine R_iload_n dX9_carriedBits_10 rfl (?_ : RR _ _ _ _ 11 _ _ _ _)
      refine R_cVi1 dX9_carriedBits_11 mvX9_carries mlX9_55 (by decide) (by decide) (Nat.le_of_ble_eq_true rfl) (Nat.le_of_ble_eq_true rfl) (T_X9_carries (hs := hs i (by omega))) (?_ : RR _ _ _ _ 14 _ _ _ _)
      refine R_if_eq (t := 23) dX9_carriedBits_14 rfl (fun c14 => ?_) (fun c14 => ?_)
      · rw [← bset_no (P := P) (n := i) (by rw [← hP]; simpa using c14)]
        refine R_iinc dX9_carriedBits_23 rfl (Nat.le_of_ble_eq_true rfl) (?_ : RR _ _ _ _ 26 [_, _, _, _] _ _ _)
        refine R_goto (t := 4) dX9_carriedBits_26 rfl (?_ : RR _ _ _ _ 4 _ _ _ _)
        exact ih (i + 1) (by omega)
      · have e := bset_or (P := P) (n := i) (by omega) (by rw [← hP]; simpa using c14)
        refine R_iload_n dX9_carriedBits_17 rfl (?_ : RR _ _ _ _ 18 _ _ _ _)
        refine R_iconst dX9_carriedBits_18 (?_ : RR _ _ _ _ 19 _ _ _ _)
        refine R_iload_n dX9_carriedBits_19 rfl (?_ : RR _ _ _ _ 20 _ _ _ _)
        refine R_ishl dX9_carriedBits_20 (?_ : RR _ _ _ _ 21 _ _ _ _)
        refine R_ior dX9_carriedBits_21 (?_ : RR _ _ _ _ 22 _ _ _ _)
        rw [e]
        refine R_istore_n dX9_carriedBits_22 (Nat.le_of_ble_eq_true rfl) (?_ : RR _ _ _ _ 23 [_, _, _, _] _ _ _)
        refine R_iinc dX9_carriedBits_23 rfl (Nat.le_of_ble_eq_true rfl) (?_ : RR _ _ _ _ 26 [_, _, _, _] _ _ _)
        refine R_goto (t := 4) dX9_carriedBits_26 rfl (?_ : RR _ _ _ _ 4 _ _ _ _)
        exact ih (i + 1) (by omega)
  refine R_iconst dX9_carriedBits_0 (?_ : RR _ _ _ _ 1 _ _ _ _)
  refine R_istore_n dX9_carriedBits_1 (Nat.le_of_ble_eq_true rfl) (?_ : RR _ _ _ _ 2 [_, _, _, _] _ _ _)
  refine R_iconst dX9_carriedBits_2 (?_ : RR _ _ _ _ 3 _ _ _ _)
  refine R_istore_n dX9_carriedBits_3 (Nat.le_of_ble_eq_true rfl) (?_ : RR _ _ _ _ 4 [_, _, _, _] _ _ _)
  exact L n 0 (by omega)
theorem T_X9_areNeighbours {t : Nat} {a b : Int} {h : Nat → Int → Int} (ht : isTr t := by assumption) (ha : 0 ≤ a ∧ a < 6 := by omega) (hb : 0 ≤ b ∧ b < 6 := by omega) (hpa : -1 ≤ h (t + 2) a ∧ h (t + 2) a < 6 := by omega) (hpb : -1 ≤ h (t + 2) b ∧ h (t + 2) b < 6 := by omega) : MT mX9_areNeighbours 1 [pR t, pI a, pI b] h (some (pI (if h (t + 2) a ≠ -1 ∧ h (t + 2) b ≠ -1 ∧ iAbs (h (t + 2) a - h (t + 2) b) = 1 then 1 else 0))) h := by
  obtain ⟨t0, t1, t2, t3, t4, t5, t6, t7, t8⟩ := ht
  refine MT.of (fun Q hQ => (?_ : RR mX9_areNeighbours _ _ _ _ [pR t, pI a, pI b] _ _ _))
  have hr : r32 (iAbs (h (t + 2) a - h (t + 2) b)) := by unfold iAbs; split <;> omega
  refine R_aload_n dX9_areNeighbours_0 rfl (?_ : RR _ _ _ _ 1 _ _ _ _)
  refine R_getr dX9_areNeighbours_1 flX9_15 cok_9 rfl (by decide) (?_ : RR _ _ _ _ 4 _ _ _ _)
  refine R_iload_n dX9_areNeighbours_4 rfl (?_ : RR _ _ _ _ 5 _ _ _ _)
  refine R_iald dX9_areNeighbours_5 (fun q5 => (?_ : RR _ _ _ _ 6 _ _ _ _))
  refine R_iconst dX9_areNeighbours_6 (?_ : RR _ _ _ _ 7 _ _ _ _)
  refine R_icmp_eq (t := 44) dX9_areNeighbours_7 rfl (fun c7 => ?_) (fun c7 => ?_)
  · refine R_iconst dX9_areNeighbours_44 (?_ : RR _ _ _ _ 45 _ _ _ _)
    exact R_ireturn dX9_areNeighbours_45 (by first | exact Or.inl rfl | exact Or.inr rfl | exact ok_ite | omega) (by simp_all)
  · refine R_aload_n dX9_areNeighbours_10 rfl (?_ : RR _ _ _ _ 11 _ _ _ _)
    refine R_getr dX9_areNeighbours_11 flX9_15 cok_9 rfl (by decide) (?_ : RR _ _ _ _ 14 _ _ _ _)
    refine R_iload_n dX9_areNeighbours_14 rfl (?_ : RR _ _ _ _ 15 _ _ _ _)
    refine R_iald dX9_areNeighbours_15 (fun q15 => (?_ : RR _ _ _ _ 16 _ _ _ _))
    refine R_iconst dX9_areNeighbours_16 (?_ : RR _ _ _ _ 17 _ _ _ _)
    refine R_icmp_eq (t := 44) dX9_areNeighbours_17 rfl (fun c17 => ?_) (fun c17 => ?_)
    · refine R_iconst dX9_areNeighbours_44 (?_ : RR _ _ _ _ 45 _ _ _ _)
      exact R_ireturn dX9_areNeighbours_45 (by first | exact Or.inl rfl | exact Or.inr rfl | exact ok_ite | omega) (by simp_all)
    · refine R_aload_n dX9_areNeighbours_20 rfl (?_ : RR _ _ _ _ 21 _ _ _ _)
      refine R_getr dX9_areNeighbours_21 flX9_15 cok_9 rfl (by decide) (?_ : RR _ _ _ _ 24 _ _ _ _)
      refine R_iload_n dX9_areNeighbours_24 rfl (?_ : RR _ _ _ _ 25 _ _ _ _)
      refine R_iald dX9_areNeighbours_25 (fun q25 => (?_ : RR _ _ _ _ 26 _ _ _ _))
      refine R_aload_n dX9_areNeighbours_26 rfl (?_ : RR _ _ _ _ 27 _ _ _ _)
      refine R_getr dX9_areNeighbours_27 flX9_15 cok_9 rfl (by decide) (?_ : RR _ _ _ _ 30 _ _ _ _)
      refine R_iload_n dX9_areNeighbours_30 rfl (?_ : RR _ _ _ _ 31 _ _ _ _)
      refine R_iald dX9_areNeighbours_31 (fun q31 => (?_ : RR _ _ _ _ 32 _ _ _ _))
      refine R_isub dX9_areNeighbours_32 (?_ : RR _ _ _ _ 33 _ _ _ _)
      refine R_abs dX9_areNeighbours_33 mmX9_59 (by decide) (Nat.le_of_ble_eq_true rfl) (?_ : RR _ _ _ _ 36 _ _ _ _)
      refine R_iconst dX9_areNeighbours_36 (?_ : RR _ _ _ _ 37 _ _ _ _)
      refine R_icmp_ne (t := 44) dX9_areNeighbours_37 rfl (fun c37 => ?_) (fun c37 => ?_)
      · refine R_iconst dX9_areNeighbours_44 (?_ : RR _ _ _ _ 45 _ _ _ _)
        exact R_ireturn dX9_areNeighbours_45 (by first | exact Or.inl rfl | exact Or.inr rfl | exact ok_ite | omega) (by simp_all)
      · refine R_iconst dX9_areNeighbours_40 (?_ : RR _ _ _ _ 41 _ _ _ _)
        refine R_goto (t := 45) dX9_areNeighbours_41 rfl (?_ : RR _ _ _ _ 45 _ _ _ _)
        exact R_ireturn dX9_areNeighbours_45 (by first | exact Or.inl rfl | exact Or.inr rfl | exact ok_ite | omega) (by simp_all)
theorem T_X9_empty {t : Nat} {h : Nat → Int → Int} (ht : isTr t := by assumption) : MT mX9_empty 0 [pR t] h none (rup h t (fup (fup (fup (fup (h t) 0 0) 1 0) 2 0) 3 0)) := by
  obtain ⟨t0, t1, t2, t3, t4, t5, t6, t7, t8⟩ := ht
  refine MT.of (fun Q hQ => (?_ : RR mX9_empty _ _ _ _ [pR t] _ _ _))
  refine R_aload_n dX9_empty_0 rfl (?_ : RR _ _ _ _ 1 _ _ _ _)
  refine R_iconst dX9_empty_1 (?_ : RR _ _ _ _ 2 _ _ _ _)
  refine R_puti (zk := 0) dX9_empty_2 flX9_24 cok_9 (by decide) (fun q hq => by cases hq; rfl) rfl (?_ : RR _ _ _ _ 5 _ _ _ _)
  refine R_aload_n dX9_empty_5 rfl (?_ : RR _ _ _ _ 6 _ _ _ _)
  refine R_iconst dX9_empty_6 (?_ : RR _ _ _ _ 7 _ _ _ _)
  refine R_puti (zk := 1) dX9_empty_7 flX9_28 cok_9 (by decide) (fun q hq => by cases hq; rfl) rfl (?_ : RR _ _ _ _ 10 _ _ _ _)
  refine R_aload_n dX9_empty_10 rfl (?_ : RR _ _ _ _ 11 _ _ _ _)
  refine R_iconst dX9_empty_11 (?_ : RR _ _ _ _ 12 _ _ _ _)
  refine R_puti (zk := 2) dX9_empty_12 flX9_31 cok_9 (by decide) (fun q hq => by cases hq; rfl) rfl (?_ : RR _ _ _ _ 15 _ _ _ _)
  refine R_aload_n dX9_empty_15 rfl (?_ : RR _ _ _ _ 16 _ _ _ _)
  refine R_iconst dX9_empty_16 (?_ : RR _ _ _ _ 17 _ _ _ _)
  refine R_puti (zk := 3) dX9_empty_17 flX9_34 cok_9 (by decide) (fun q hq => by cases hq; rfl) rfl (?_ : RR _ _ _ _ 20 _ _ _ _)
  exact R_return dX9_empty_20 trivial (by simpa only [rup_rup, rup_s] using hQ)
theorem T_X9_append {t n : Nat} {c : Int} {h : Nat → Int → Int} (hn : h t 3 = n := by assumption) (ht : isTr t := by assumption) (hc : 0 ≤ c ∧ c < 6 := by omega) (h6 : n < 6 := by omega) : MT mX9_append 0 [pR t, pI c] h none (rup (rup (rup h t (fup (h t) 3 (n + 1))) (t + 1) (fup (h (t + 1)) n c)) (t + 2) (fup (h (t + 2)) c n)) := by
  obtain ⟨t0, t1, t2, t3, t4, t5, t6, t7, t8⟩ := ht
  refine MT.of (fun Q hQ => (?_ : RR mX9_append _ _ _ _ [pR t, pI c] _ _ _))
  refine R_aload_n dX9_append_0 rfl (?_ : RR _ _ _ _ 1 _ _ _ _)
  refine R_geti (z := 3) dX9_append_1 flX9_34 cok_9 rfl (by decide) rfl (fun q1 => (?_ : RR _ _ _ _ 4 _ _ _ _))
  try simp (disch := omega) only [rup_rup, rup_sort, rupS_def, rup_s, rup_n, fup_fup, fup_s, fup_n] at q1 ⊢
  refine R_bipush dX9_append_4 rfl (?_ : RR _ _ _ _ 6 _ _ _ _)
  rw [hn] at q1
  rw [hn]
  refine R_icmp_ge (t := 39) dX9_append_6 rfl (fun c6 => ?_) (fun c6 => ?_)
  · exfalso; omega
  refine R_aload_n dX9_append_9 rfl (?_ : RR _ _ _ _ 10 _ _ _ _)
  refine R_getr dX9_append_10 flX9_15 cok_9 rfl (by decide) (?_ : RR _ _ _ _ 13 _ _ _ _)
  refine R_iload_n dX9_append_13 rfl (?_ : RR _ _ _ _ 14 _ _ _ _)
  refine R_aload_n dX9_append_14 rfl (?_ : RR _ _ _ _ 15 _ _ _ _)
  refine R_geti (z := 3) dX9_append_15 flX9_34 cok_9 rfl (by decide) rfl (fun q15 => (?_ : RR _ _ _ _ 18 _ _ _ _))
  try simp (disch := omega) only [rup_rup, rup_sort, rupS_def, rup_s, rup_n, fup_fup, fup_s, fup_n] at q15 ⊢
  rw [hn]
  refine R_iast dX9_append_18 (?_ : RR _ _ _ _ 19 _ _ _ _)
  try simp (disch := omega) only [rup_rup, rup_sort, rupS_def, rup_s, rup_n, fup_fup, fup_s, fup_n]
  refine R_aload_n dX9_append_19 rfl (?_ : RR _ _ _ _ 20 _ _ _ _)
  refine R_getr dX9_append_20 flX9_9 cok_9 rfl (by decide) (?_ : RR _ _ _ _ 23 _ _ _ _)
  refine R_aload_n dX9_append_23 rfl (?_ : RR _ _ _ _ 24 _ _ _ _)
  refine R_geti (z := 3) dX9_append_24 flX9_34 cok_9 rfl (by decide) rfl (fun q24 => (?_ : RR _ _ _ _ 27 _ _ _ _))
  try simp (disch := omega) only [rup_rup, rup_sort, rupS_def, rup_s, rup_n, fup_fup, fup_s, fup_n] at q24 ⊢
  rw [hn]
  refine R_iload_n dX9_append_27 rfl (?_ : RR _ _ _ _ 28 _ _ _ _)
  refine R_iast dX9_append_28 (?_ : RR _ _ _ _ 29 _ _ _ _)
  try simp (disch := omega) only [rup_rup, rup_sort, rupS_def, rup_s, rup_n, fup_fup, fup_s, fup_n]
  refine R_aload_n dX9_append_29 rfl (?_ : RR _ _ _ _ 30 _ _ _ _)
  refine R_dup dX9_append_30 (fun _ => rfl) (?_ : RR _ _ _ _ 31 _ _ _ _)
  refine R_geti (z := 3) dX9_append_31 flX9_34 cok_9 rfl (by decide) rfl (fun q31 => (?_ : RR _ _ _ _ 34 _ _ _ _))
  try simp (disch := omega) only [rup_rup, rup_sort, rupS_def, rup_s, rup_n, fup_fup, fup_s, fup_n] at q31 ⊢
  rw [hn]
  refine R_iconst dX9_append_34 (?_ : RR _ _ _ _ 35 _ _ _ _)
  refine R_iadd dX9_append_35 (?_ : RR _ _ _ _ 36 _ _ _ _)
  refine R_puti (zk := 3) dX9_append_36 flX9_34 cok_9 (by decide) (fun q hq => by cases hq; rfl) rfl (?_ : RR _ _ _ _ 39 _ _ _ _)
  try simp (disch := omega) only [rup_rup, rup_sort, rupS_def, rup_s, rup_n, fup_fup, fup_s, fup_n]
  exact R_return dX9_append_39 trivial hQ
/-- a train as another is -/
def trC (h : Nat → Int → Int) (t o : Nat) : Nat → Int → Int := rup (rup (rup (rup (rup h t (fup (fup (fup (fup (h t) 0 (h o 0)) 1 (h o 1)) 2 (h o 2)) 3 (h o 3))) (t + 1) (cpy (h (o + 1)) (h (t + 1)) 6)) (t + 2) (cpy (h (o + 2)) (h (t + 2)) 6)) (t + 3) (cpy (h (o + 3)) (h (t + 3)) 6)) (t + 4) (cpy (h (o + 4)) (h (t + 4)) 12)
theorem T_X9_copyFrom {t o : Nat} {h : Nat → Int → Int} (ht : isTr t := by assumption) (ho : isTr o := by assumption) (hto : o + 5 ≤ t ∨ t + 5 ≤ o := by omega) : MT mX9_copyFrom 1 [pR t, pR o] h none (trC h t o) := by
  obtain ⟨t0, t1, t2, t3, t4, t5, t6, t7, t8⟩ := ht
  obtain ⟨o0, o1, o2, o3, o4, o5, o6, o7, o8⟩ := ho
  refine MT.of (fun Q hQ => (?_ : RR mX9_copyFrom _ _ _ _ [pR t, pR o] _ _ _))
  unfold trC at hQ
  refine R_aload_n dX9_copyFrom_0 rfl (?_ : RR _ _ _ _ 1 _ _ _ _)
  refine R_aload_n dX9_copyFrom_1 rfl (?_ : RR _ _ _ _ 2 _ _ _ _)
  refine R_geti (z := 0) dX9_copyFrom_2 flX9_24 cok_9 rfl (by decide) rfl (fun q2 => (?_ : RR _ _ _ _ 5 _ _ _ _))
  try simp (disch := omega) only [rup_rup, rup_sort, rupS_def, rup_s, rup_n, fup_fup, fup_s, fup_n] at q2 ⊢
  refine R_puti (zk := 0) dX9_copyFrom_5 flX9_24 cok_9 (by decide) (fun q hq => by cases hq; rfl) rfl (?_ : RR _ _ _ _ 8 _ _ _ _)
  try simp (disch := omega) only [rup_rup, rup_sort, rupS_def, rup_s, rup_n, fup_fup, fup_s, fup_n]
  refine R_aload_n dX9_copyFrom_8 rfl (?_ : RR _ _ _ _ 9 _ _ _ _)
  refine R_aload_n dX9_copyFrom_9 rfl (?_ : RR _ _ _ _ 10 _ _ _ _)
  refine R_geti (z := 1) dX9_copyFrom_10 flX9_28 cok_9 rfl (by decide) rfl (fun q10 => (?_ : RR _ _ _ _ 13 _ _ _ _))
  try simp (disch := omega) only [rup_rup, rup_sort, rupS_def, rup_s, rup_n, fup_fup, fup_s, fup_n] at q10 ⊢
  refine R_puti (zk := 1) dX9_copyFrom_13 flX9_28 cok_9 (by decide) (fun q hq => by cases hq; rfl) rfl (?_ : RR _ _ _ _ 16 _ _ _ _)
  try simp (disch := omega) only [rup_rup, rup_sort, rupS_def, rup_s, rup_n, fup_fup, fup_s, fup_n]
  refine R_aload_n dX9_copyFrom_16 rfl (?_ : RR _ _ _ _ 17 _ _ _ _)
  refine R_aload_n dX9_copyFrom_17 rfl (?_ : RR _ _ _ _ 18 _ _ _ _)
  refine R_geti (z := 2) dX9_copyFrom_18 flX9_31 cok_9 rfl (by decide) rfl (fun q18 => (?_ : RR _ _ _ _ 21 _ _ _ _))
  try simp (disch := omega) only [rup_rup, rup_sort, rupS_def, rup_s, rup_n, fup_fup, fup_s, fup_n] at q18 ⊢
  refine R_puti (zk := 2) dX9_copyFrom_21 flX9_31 cok_9 (by decide) (fun q hq => by cases hq; rfl) rfl (?_ : RR _ _ _ _ 24 _ _ _ _)
  try simp (disch := omega) only [rup_rup, rup_sort, rupS_def, rup_s, rup_n, fup_fup, fup_s, fup_n]
  refine R_aload_n dX9_copyFrom_24 rfl (?_ : RR _ _ _ _ 25 _ _ _ _)
  refine R_aload_n dX9_copyFrom_25 rfl (?_ : RR _ _ _ _ 26 _ _ _ _)
  refine R_geti (z := 3) dX9_copyFrom_26 flX9_34 cok_9 rfl (by decide) rfl (fun q26 => (?_ : RR _ _ _ _ 29 _ _ _ _))
  try simp (disch := omega) only [rup_rup, rup_sort, rupS_def, rup_s, rup_n, fup_fup, fup_s, fup_n] at q26 ⊢
  refine R_puti (zk := 3) dX9_copyFrom_29 flX9_34 cok_9 (by decide) (fun q hq => by cases hq; rfl) rfl (?_ : RR _ _ _ _ 32 _ _ _ _)
  try simp (disch := omega) only [rup_rup, rup_sort, rupS_def, rup_s, rup_n, fup_fup, fup_s, fup_n]
  refine R_aload_n dX9_copyFrom_32 rfl (?_ : RR _ _ _ _ 33 _ _ _ _)
  refine R_getr dX9_copyFrom_33 flX9_9 cok_9 rfl (by decide) (?_ : RR _ _ _ _ 36 _ _ _ _)
  refine R_iconst dX9_copyFrom_36 (?_ : RR _ _ _ _ 37 _ _ _ _)
  refine R_aload_n dX9_copyFrom_37 rfl (?_ : RR _ _ _ _ 38 _ _ _ _)
  refine R_getr dX9_copyFrom_38 flX9_9 cok_9 rfl (by decide) (?_ : RR _ _ _ _ 41 _ _ _ _)
  refine R_iconst dX9_copyFrom_41 (?_ : RR _ _ _ _ 42 _ _ _ _)
  refine R_bipush dX9_copyFrom_42 rfl (?_ : RR _ _ _ _ 44 _ _ _ _)
  refine R_copy dX9_copyFrom_44 maX9_37 (by decide) (Nat.le_of_ble_eq_true rfl) (?_ : RR _ _ _ _ 47 _ _ _ _)
  try simp (disch := omega) only [rup_rup, rup_sort, rupS_def, rup_s, rup_n, fup_fup, fup_s, fup_n]
  refine R_aload_n dX9_copyFrom_47 rfl (?_ : RR _ _ _ _ 48 _ _ _ _)
  refine R_getr dX9_copyFrom_48 flX9_15 cok_9 rfl (by decide) (?_ : RR _ _ _ _ 51 _ _ _ _)
  refine R_iconst dX9_copyFrom_51 (?_ : RR _ _ _ _ 52 _ _ _ _)
  refine R_aload_n dX9_copyFrom_52 rfl (?_ : RR _ _ _ _ 53 _ _ _ _)
  refine R_getr dX9_copyFrom_53 flX9_15 cok_9 rfl (by decide) (?_ : RR _ _ _ _ 56 _ _ _ _)
  refine R_iconst dX9_copyFrom_56 (?_ : RR _ _ _ _ 57 _ _ _ _)
  refine R_bipush dX9_copyFrom_57 rfl (?_ : RR _ _ _ _ 59 _ _ _ _)
  refine R_copy dX9_copyFrom_59 maX9_37 (by decide) (Nat.le_of_ble_eq_true rfl) (?_ : RR _ _ _ _ 62 _ _ _ _)
  try simp (disch := omega) only [rup_rup, rup_sort, rupS_def, rup_s, rup_n, fup_fup, fup_s, fup_n]
  refine R_aload_n dX9_copyFrom_62 rfl (?_ : RR _ _ _ _ 63 _ _ _ _)
  refine R_getr dX9_copyFrom_63 flX9_18 cok_9 rfl (by decide) (?_ : RR _ _ _ _ 66 _ _ _ _)
  refine R_iconst dX9_copyFrom_66 (?_ : RR _ _ _ _ 67 _ _ _ _)
  refine R_aload_n dX9_copyFrom_67 rfl (?_ : RR _ _ _ _ 68 _ _ _ _)
  refine R_getr dX9_copyFrom_68 flX9_18 cok_9 rfl (by decide) (?_ : RR _ _ _ _ 71 _ _ _ _)
  refine R_iconst dX9_copyFrom_71 (?_ : RR _ _ _ _ 72 _ _ _ _)
  refine R_bipush dX9_copyFrom_72 rfl (?_ : RR _ _ _ _ 74 _ _ _ _)
  refine R_copy dX9_copyFrom_74 maX9_37 (by decide) (Nat.le_of_ble_eq_true rfl) (?_ : RR _ _ _ _ 77 _ _ _ _)
  try simp (disch := omega) only [rup_rup, rup_sort, rupS_def, rup_s, rup_n, fup_fup, fup_s, fup_n]
  refine R_aload_n dX9_copyFrom_77 rfl (?_ : RR _ _ _ _ 78 _ _ _ _)
  refine R_getr dX9_copyFrom_78 flX9_21 cok_9 rfl (by decide) (?_ : RR _ _ _ _ 81 _ _ _ _)
  refine R_iconst dX9_copyFrom_81 (?_ : RR _ _ _ _ 82 _ _ _ _)
  refine R_aload_n dX9_copyFrom_82 rfl (?_ : RR _ _ _ _ 83 _ _ _ _)
  refine R_getr dX9_copyFrom_83 flX9_21 cok_9 rfl (by decide) (?_ : RR _ _ _ _ 86 _ _ _ _)
  refine R_iconst dX9_copyFrom_86 (?_ : RR _ _ _ _ 87 _ _ _ _)
  refine R_bipush dX9_copyFrom_87 rfl (?_ : RR _ _ _ _ 89 _ _ _ _)
  refine R_copy dX9_copyFrom_89 maX9_37 (by decide) (Nat.le_of_ble_eq_true rfl) (?_ : RR _ _ _ _ 92 _ _ _ _)
  try simp (disch := omega) only [rup_rup, rup_sort, rupS_def, rup_s, rup_n, fup_fup, fup_s, fup_n]
  exact R_return dX9_copyFrom_92 trivial hQ
/-- some places of a row get a value: those that ord names from lo on -/
def shF (ord : Int → Int) (v : Int) (f : Int → Int) (lo : Nat) : Nat → Int → Int
  | 0 => f
  | k + 1 => fup (shF ord v f lo k) (ord ((lo + k : Nat) : Int)) v
def shB (ord : Int → Int) (lo : Nat) : Nat → Nat
  | 0 => 0
  | k + 1 => shB ord lo k ||| 2 ^ (ord ((lo + k : Nat) : Int)).toNat
theorem shB_lt {ord : Int → Int} {lo : Nat} : ∀ {k : Nat}, (∀ j : Nat, j < lo + k → 0 ≤ ord j ∧ ord j < 6) → shB ord lo k < 64
  | 0, _ => by show 0 < 64; omega
  | k + 1, h => by
    have h1 := shB_lt (ord := ord) (lo := lo) (k := k) (fun j hj => h j (by omega))
    have h2 := h (lo + k) (by omega)
    have h3 : 2 ^ (ord ((lo + k : Nat) : Int)).toNat < 2 ^ 6 := Nat.pow_lt_pow_right (by omega) (by omega)
    exact Nat.or_lt_two_pow (n := 6) h1 h3
theorem shB_or {ord : Int → Int} {lo k : Nat} (h : ∀ j : Nat, j < lo + (k + 1) → 0 ≤ ord j ∧ ord j < 6) : iOr (shB ord lo k : Int) (iShl 1 (ord ((lo + k : Nat) : Int))) = (shB ord lo (k + 1) : Int) := by
  have h1 := shB_lt (ord := ord) (lo := lo) (k := k) (fun j hj => h j (by omega))
  have h2 := h (lo + k) (by omega)
  obtain ⟨m, hm⟩ := Int.eq_ofNat_of_zero_le h2.1
  have h3 : 2 ^ m < 2 ^ 6 := Nat.pow_lt_pow_right (by omega) (by omega)
  rw [shB, hm, iShl_one m (by omega), iOr_nat (by omega) (by omega), Int.toNat_natCast]
theorem T_X9_shorten {t a n : Nat} {h : Nat → Int → Int} (hn : h t 3 = n) (hor : ∀ j : Nat, j < n → 0 ≤ h (t + 1) j ∧ h (t + 1) j < 6) (ht : isTr t := by assumption) (ha : a ≤ n := by omega) (h6 : n ≤ 6 := by omega) : MT mX9_shorten 1 [pR t, pI a] h (some (pI (shB (h (t + 1)) a (n - a)))) (rup (rup (rup h t (fup (h t) 3 a)) (t + 2) (shF (h (t + 1)) (-1) (h (t + 2)) a (n - a))) (t + 3) (shF (h (t + 1)) (h t 0) (h (t + 3)) a (n - a))) := by
  obtain ⟨t0, t1, t2, t3, t4, t5, t6, t7, t8⟩ := ht
  refine MT.of (fun Q hQ => (?_ : RR mX9_shorten _ _ _ _ [pR t, pI a, pU, pU, pU] _ _ _))
  have L : ∀ (k j : Nat) (w : PV), j + k = n - a → RR mX9_shorten 1 0 0 4 [pR t, pI a, pI (shB (h (t + 1)) a j), pI ((a + j : Nat) : Int), w] [] (shp0, rf0, rup (rup h (t + 2) (shF (h (t + 1)) (-1) (h (t + 2)) a j)) (t + 3) (shF (h (t + 1)) (h t 0) (h (t + 3)) a j)) Q := by
    intro k
    induction k with
    | zero =>
      intro j w hj
      obtain rfl : j = n - a := by omega
      refine R_iload_n dX9_shorten_4 rfl (?_ : RR _ _ _ _ 5 _ _ _ _)
      refine R_aload_n dX9_shorten_5 rfl (?_ : RR _ _ _ _ 6 _ _ _ _)
      refine R_geti (z := 3) dX9_shorten_6 flX9_34 cok_9 rfl (by decide) rfl (fun q6 => (?_ : RR _ _ _ _ 9 _ _ _ _))
      try simp (disch := omega) only [rup_rup, rup_sort, rupS_def, rup_s, rup_n, fup_fup, fup_s, fup_n] at q6 ⊢
      rw [hn] at q6 ⊢
      refine R_icmp_ge (t := 52) dX9_shorten_9 rfl (fun c9 => ?_) (fun c9 => ?_)
      rotate_left
      · exfalso; omega
      refine R_aload_n dX9_shorten_52 rfl (?_ : RR _ _ _ _ 53 _ _ _ _)
      refine R_aload_n dX9_shorten_53 rfl (?_ : RR _ _ _ _ 54 _ _ _ _)
      refine R_geti (z := 3) dX9_shorten_54 flX9_34 cok_9 rfl (by decide) rfl (fun q54 => (?_ : RR _ _ _ _ 57 _ _ _ _))
      try simp (disch := omega) only [rup_rup, rup_sort, rupS_def, rup_s, rup_n, fup_fup, fup_s, fup_n] at q54 ⊢
      rw [hn] at q54 ⊢
      refine R_iload_n dX9_shorten_57 rfl (?_ : RR _ _ _ _ 58 _ _ _ _)
      refine R_min dX9_shorten_58 mmX9_65 (by decide) (Nat.le_of_ble_eq_true rfl) (?_ : RR _ _ _ _ 61 _ _ _ _)
      try simp (disch := omega) only [rup_rup, rup_sort, rupS_def, rup_s, rup_n, fup_fup, fup_s, fup_n]
      rw [show min (n : Int) (a : Int) = a by omega]
      refine R_puti (zk := 3) dX9_shorten_61 flX9_34 cok_9 (by decide) (fun q hq => by cases hq; rfl) rfl (?_ : RR _ _ _ _ 64 _ _ _ _)
      try simp (disch := omega) only [rup_rup, rup_sort, rupS_def, rup_s, rup_n, fup_fup, fup_s, fup_n]
      refine R_iload_n dX9_shorten_64 rfl (?_ : RR _ _ _ _ 65 _ _ _ _)
      exact R_ireturn dX9_shorten_65 trivial hQ
    | succ k ih =>
      intro j w hj
      have hj6 := hor (a + j) (by omega)
      refine R_iload_n dX9_shorten_4 rfl (?_ : RR _ _ _ _ 5 _ _ _ _)
      refine R_aload_n dX9_shorten_5 rfl (?_ : RR _ _ _ _ 6 _ _ _ _)
      refine R_geti (z := 3) dX9_shorten_6 flX9_34 cok_9 rfl (by decide) rfl (fun q6 => (?_ : RR _ _ _ _ 9 _ _ _ _))
      try simp (disch := omega) only [rup_rup, rup_sort, rupS_def, rup_s, rup_n, fup_fup, fup_s, fup_n] at q6 ⊢
      rw [hn] at q6 ⊢
      refine R_icmp_ge (t := 52) dX9_shorten_9 rfl (fun c9 => ?_) (fun c9 => ?_)
      · exfalso; omega
      refine R_aload_n dX9_shorten_12 rfl (?_ : RR _ _ _ _ 13 _ _ _ _)
      refine R_getr dX9_shorten_13 flX9_9 cok_9 rfl (by decide) (?_ : RR _ _ _ _ 16 _ _ _ _)
      refine R_iload_n dX9_shorten_16 rfl (?_ : RR _ _ _ _ 17 _ _ _ _)
      refine R_iald dX9_shorten_17 (fun q17 => (?_ : RR _ _ _ _ 18 _ _ _ _))
      try simp (disch := omega) only [rup_rup, rup_sort, rupS_def, rup_s, rup_n, fup_fup, fup_s, fup_n] at q17 ⊢
      refine R_istore dX9_shorten_18 (Nat.le_of_ble_eq_true rfl) (?_ : RR _ _ _ _ 20 [_, _, _, _, _] _ _ _)
      refine R_aload_n dX9_shorten_20 rfl (?_ : RR _ _ _ _ 21 _ _ _ _)
      refine R_getr dX9_shorten_21 flX9_15 cok_9 rfl (by decide) (?_ : RR _ _ _ _ 24 _ _ _ _)
      refine R_iload dX9_shorten_24 rfl (?_ : RR _ _ _ _ 26 _ _ _ _)
      refine R_iconst dX9_shorten_26 (?_ : RR _ _ _ _ 27 _ _ _ _)
      refine R_iast dX9_shorten_27 (?_ : RR _ _ _ _ 28 _ _ _ _)
      try simp (disch := omega) only [rup_rup, rup_sort, rupS_def, rup_s, rup_n, fup_fup, fup_s, fup_n]
      refine R_aload_n dX9_shorten_28 rfl (?_ : RR _ _ _ _ 29 _ _ _ _)
      refine R_getr dX9_shorten_29 flX9_18 cok_9 rfl (by decide) (?_ : RR _ _ _ _ 32 _ _ _ _)
      refine R_iload dX9_shorten_32 rfl (?_ : RR _ _ _ _ 34 _ _ _ _)
      refine R_aload_n dX9_shorten_34 rfl (?_ : RR _ _ _ _ 35 _ _ _ _)
      refine R_geti (z := 0) dX9_shorten_35 flX9_24 cok_9 rfl (by decide) rfl (fun q35 => (?_ : RR _ _ _ _ 38 _ _ _ _))
      try simp (disch := omega) only [rup_rup, rup_sort, rupS_def, rup_s, rup_n, fup_fup, fup_s, fup_n] at q35 ⊢
      refine R_iast dX9_shorten_38 (?_ : RR _ _ _ _ 39 _ _ _ _)
      try simp (disch := omega) only [rup_rup, rup_sort, rupS_def, rup_s, rup_n, fup_fup, fup_s, fup_n]
      refine R_iload_n dX9_shorten_39 rfl (?_ : RR _ _ _ _ 40 _ _ _ _)
      refine R_iconst dX9_shorten_40 (?_ : RR _ _ _ _ 41 _ _ _ _)
      refine R_iload dX9_shorten_41 rfl (?_ : RR _ _ _ _ 43 _ _ _ _)
      refine R_ishl dX9_shorten_43 (?_ : RR _ _ _ _ 44 _ _ _ _)
      refine R_ior dX9_shorten_44 (?_ : RR _ _ _ _ 45 _ _ _ _)
      rw [shB_or (fun i hi => hor i (by omega))]
      refine R_istore_n dX9_shorten_45 (Nat.le_of_ble_eq_true rfl) (?_ : RR _ _ _ _ 46 [_, _, _, _, _] _ _ _)
      refine R_iinc dX9_shorten_46 rfl (Nat.le_of_ble_eq_true rfl) (?_ : RR _ _ _ _ 49 [_, _, _, _, _] _ _ _)
      refine R_goto (t := 4) dX9_shorten_49 rfl (?_ : RR _ _ _ _ 4 _ _ _ _)
      exact ih (j + 1) _ (by omega)
  refine R_iconst dX9_shorten_0 (?_ : RR _ _ _ _ 1 _ _ _ _)
  refine R_istore_n dX9_shorten_1 (Nat.le_of_ble_eq_true rfl) (?_ : RR _ _ _ _ 2 [_, _, _, _, _] _ _ _)
  refine R_iload_n dX9_shorten_2 rfl (?_ : RR _ _ _ _ 3 _ _ _ _)
  refine R_istore_n dX9_shorten_3 (Nat.le_of_ble_eq_true rfl) (?_ : RR _ _ _ _ 4 [_, _, _, _, _] _ _ _)
  have L0 := L (n - a) 0 pU (by omega)
  simp only [shF, rup_self] at L0
  exact L0
theorem T_X9_leave {t a n : Nat} {e z : Int} {h : Nat → Int → Int} (hn : h t 3 = n) (hor : ∀ j : Nat, j < n → 0 ≤ h (t + 1) j ∧ h (t + 1) j < 6) (hz : r32 (h t 1 + z)) (ht : isTr t := by assumption) (ha : a ≤ n := by omega) (h6 : n ≤ 6 := by omega) (he : r32 e := by omega) : MT mX9_leave 2 [pR t, pI a, pI e, pI z] h (some (pI (shB (h (t + 1)) a (n - a)))) (rup (rup (rup h t (fup (fup (fup (h t) 3 a) 0 e) 1 (h t 1 + z))) (t + 2) (shF (h (t + 1)) (-1) (h (t + 2)) a (n - a))) (t + 3) (shF (h (t + 1)) (h t 0) (h (t + 3)) a (n - a))) := by
  obtain ⟨t0, t1, t2, t3, t4, t5, t6, t7, t8⟩ := id ht
  refine MT.of (fun Q hQ => (?_ : RR mX9_leave _ _ _ _ [pR t, pI a, pI e, pI z, pU] _ _ _))
  refine R_aload_n dX9_leave_0 rfl (?_ : RR _ _ _ _ 1 _ _ _ _)
  refine R_iload_n dX9_leave_1 rfl (?_ : RR _ _ _ _ 2 _ _ _ _)
  refine R_cVi1 dX9_leave_2 mvX9_shorten mlX9_68 (by decide) (by decide) (Nat.le_of_ble_eq_true rfl) (Nat.le_of_ble_eq_true rfl) (T_X9_shorten hn hor) (?_ : RR _ _ _ _ 5 _ _ _ _)
  try simp (disch := omega) only [rup_rup, rup_sort, rupS_def, rup_s, rup_n, fup_fup, fup_s, fup_n]
  refine R_istore dX9_leave_5 (Nat.le_of_ble_eq_true rfl) (?_ : RR _ _ _ _ 7 [_, _, _, _, _] _ _ _)
  refine R_aload_n dX9_leave_7 rfl (?_ : RR _ _ _ _ 8 _ _ _ _)
  refine R_iload_n dX9_leave_8 rfl (?_ : RR _ _ _ _ 9 _ _ _ _)
  refine R_puti (zk := 0) dX9_leave_9 flX9_24 cok_9 (by decide) (fun q hq => by cases hq; rfl) rfl (?_ : RR _ _ _ _ 12 _ _ _ _)
  try simp (disch := omega) only [rup_rup, rup_sort, rupS_def, rup_s, rup_n, fup_fup, fup_s, fup_n]
  refine R_aload_n dX9_leave_12 rfl (?_ : RR _ _ _ _ 13 _ _ _ _)
  refine R_dup dX9_leave_13 (fun _ => rfl) (?_ : RR _ _ _ _ 14 _ _ _ _)
  refine R_geti (z := 1) dX9_leave_14 flX9_28 cok_9 rfl (by decide) rfl (fun q14 => (?_ : RR _ _ _ _ 17 _ _ _ _))
  try simp (disch := omega) only [rup_rup, rup_sort, rupS_def, rup_s, rup_n, fup_fup, fup_s, fup_n] at q14 ⊢
  refine R_iload_n dX9_leave_17 rfl (?_ : RR _ _ _ _ 18 _ _ _ _)
  refine R_iadd dX9_leave_18 (?_ : RR _ _ _ _ 19 _ _ _ _)
  refine R_puti (zk := 1) dX9_leave_19 flX9_28 cok_9 (by decide) (fun q hq => by cases hq; rfl) rfl (?_ : RR _ _ _ _ 22 _ _ _ _)
  try simp (disch := omega) only [rup_rup, rup_sort, rupS_def, rup_s, rup_n, fup_fup, fup_s, fup_n]
  refine R_iload dX9_leave_22 rfl (?_ : RR _ _ _ _ 24 _ _ _ _)
  exact R_ireturn dX9_leave_24 trivial hQ
/-- passengers get out: the row of seats behind it -/
def outF (want hal se : Int → Int) (n : Nat) : Int → Int := fun j => if 0 ≤ j ∧ j < n ∧ se j ≠ -1 ∧ hal (se j) = want j then -1 else se j
theorem outF_0 {want hal se : Int → Int} : outF want hal se 0 = se := by
  funext j
  unfold outF
  rw [if_neg (by omega)]
theorem outF_no {want hal se : Int → Int} {n : Nat} (h : ¬ (se n ≠ -1 ∧ hal (se n) = want n)) : outF want hal se (n + 1) = outF want hal se n := by
  funext j
  unfold outF
  by_cases hj : j = n
  · subst hj
    rw [if_neg (fun q => h q.2.2), if_neg (fun q => h q.2.2)]
  · by_cases h2 : 0 ≤ j ∧ j < n
    · simp only [h2.1, h2.2, show j < ((n + 1 : Nat) : Int) by omega, true_and]
    · rw [if_neg (by omega), if_neg (by omega)]
theorem outF_yes {want hal se : Int → Int} {n : Nat} (h : se n ≠ -1 ∧ hal (se n) = want n) : outF want hal se (n + 1) = fup (outF want hal se n) n (-1) := by
  funext j
  unfold fup
  by_cases hj : j = n
  · subst hj
    rw [if_pos rfl]
    unfold outF
    rw [if_pos ⟨by omega, by omega, h⟩]
  · rw [if_neg hj]
    unfold outF
    by_cases h2 : 0 ≤ j ∧ j < n
    · simp only [h2.1, h2.2, show j < ((n + 1 : Nat) : Int) by omega, true_and]
    · rw [if_neg (by omega), if_neg (by omega)]
theorem outF_at {want hal se : Int → Int} {n : Nat} : outF want hal se n n = se n := by
  unfold outF
  rw [if_neg (by omega)]
def trHal (h : Nat → Int → Int) (t : Nat) (c : Int) : Int := if h (t + 2) c = -1 then h (t + 3) c else h t 0
theorem T_X9_letOut {t n : Nat} {h : Nat → Int → Int} (hn : h 11 0 = n) (hs : ∀ j : Nat, j < n → h (t + 4) j = -1 ∨ (0 ≤ h (t + 4) j ∧ h (t + 4) j < 6)) (ht : isTr t := by assumption) (hb : t + 4 < 11 ∨ 13 < t := by omega) (h12 : n ≤ 12 := by omega) (hw : ∀ c, r32 (trHal h t c)) : MT mX9_letOut 1 [pR t, pR 11] h (some (pI (bset (fun j => decide (h (t + 4) j ≠ -1 ∧ trHal h t (h (t + 4) j) = h 12 j)) n))) (rup h (t + 4) (outF (h 12) (trHal h t) (h (t + 4)) n)) := by
  obtain ⟨t0, t1, t2, t3, t4, t5, t6, t7, t8⟩ := id ht
  refine MT.of (fun Q hQ => (?_ : RR mX9_letOut _ _ _ _ [pR t, pR 11, pU, pU] _ _ _))
  generalize hP : (fun j : Nat => decide (h (t + 4) j ≠ -1 ∧ trHal h t (h (t + 4) j) = h 12 j)) = P at hQ
  have L : ∀ k i : Nat, i + k = n → RR mX9_letOut 1 0 0 4 [pR t, pR 11, pI (bset P i), pI i] [] (shp0, rf0, rup h (t + 4) (outF (h 12) (trHal h t) (h (t + 4)) i)) Q := by
    intro k
    induction k with
    | zero =>
      intro i hi 
      obtain rfl : i = n := by omega
      refine R_iload_n dX9_letOut_4 rfl (?_ : RR _ _ _ _ 5 _ _ _ _)
      refine R_aload_n dX9_letOut_5 rfl (?_ : RR _ _ _ _ 6 _ _ _ _)
      refine R_geti (z := 0) dX9_letOut_6 flX9_79 cok_2 rfl (by decide) rfl (fun q6 => (?_ : RR _ _ _ _ 9 _ _ _ _))
      try simp (disch := omega) only [rup_rup, rup_sort, rupS_def, rup_s, rup_n, fup_fup, fup_s, fup_n] at q6 ⊢
      rw [hn] at q6 ⊢
      refine R_icmp_ge (t := 60) dX9_letOut_9 rfl (fun c9 => ?_) (fun c9 => ?_)
      rotate_left
      · exfalso; omega
      refine R_iload_n dX9_letOut_60 rfl (?_ : RR _ _ _ _ 61 _ _ _ _)
      exact R_ireturn dX9_letOut_61 trivial hQ
    | succ k ih =>
      intro i hi 
      have hsi := hs i (by omega)
      refine R_iload_n dX9_letOut_4 rfl (?_ : RR _ _ _ _ 5 _ _ _ _)
      refine R_aload_n dX9_letOut_5 rfl (?_ : RR _ _ _ _ 6 _ _ _ _)
      refine R_geti (z := 0) dX9_letOut_6 flX9_79 cok_2 rfl (by decide) rfl (fun q6 => (?_ : RR _ _ _ _ 9 _ _ _ _))
      try simp (disch := omega) only [rup_rup, rup_sort, rupS_def, rup_s, rup_n, fup_fup, fup_s, fup_n] at q6 ⊢
      rw [hn] at q6 ⊢
      refine R_icmp_ge (t := 60) dX9_letOut_9 rfl (fun c9 => ?_) (fun c9 => ?_)
      · exfalso; omega
      refine R_aload_n dX9_letOut_12 rfl (?_ : RR _ _ _ _ 13 _ _ _ _)
      refine R_getr dX9_letOut_13 flX9_21 cok_9 rfl (by decide) (?_ : RR _ _ _ _ 16 _ _ _ _)
      refine R_iload_n dX9_letOut_16 rfl (?_ : RR _ _ _ _ 17 _ _ _ _)
      refine R_iald dX9_letOut_17 (fun q17 => (?_ : RR _ _ _ _ 18 _ _ _ _))
      try simp (disch := omega) only [rup_rup, rup_sort, rupS_def, rup_s, rup_n, fup_fup, fup_s, fup_n] at q17 ⊢
      rw [outF_at] at q17 ⊢
      refine R_iconst dX9_letOut_18 (?_ : RR _ _ _ _ 19 _ _ _ _)
      refine R_icmp_eq (t := 54) dX9_letOut_19 rfl (fun c19 => ?_) (fun c19 => ?_)
      · rw [← bset_no (P := P) (n := i) (by rw [← hP]; simp [c19]), ← outF_no (by simp [c19])]
        refine R_iinc dX9_letOut_54 rfl (Nat.le_of_ble_eq_true rfl) (?_ : RR _ _ _ _ 57 [_, _, _, _] _ _ _)
        refine R_goto (t := 4) dX9_letOut_57 rfl (?_ : RR _ _ _ _ 4 _ _ _ _)
        exact ih (i + 1) (by omega)
      · refine R_aload_n dX9_letOut_22 rfl (?_ : RR _ _ _ _ 23 _ _ _ _)
        refine R_aload_n dX9_letOut_23 rfl (?_ : RR _ _ _ _ 24 _ _ _ _)
        refine R_getr dX9_letOut_24 flX9_21 cok_9 rfl (by decide) (?_ : RR _ _ _ _ 27 _ _ _ _)
        refine R_iload_n dX9_letOut_27 rfl (?_ : RR _ _ _ _ 28 _ _ _ _)
        refine R_iald dX9_letOut_28 (fun q28 => (?_ : RR _ _ _ _ 29 _ _ _ _))
        try simp (disch := omega) only [rup_rup, rup_sort, rupS_def, rup_s, rup_n, fup_fup, fup_s, fup_n] at q28 ⊢
        rw [outF_at] at q28 ⊢
        refine R_cVi1 dX9_letOut_29 mvX9_haltOf mlX9_84 (by decide) (by decide) (Nat.le_of_ble_eq_true rfl) (Nat.le_of_ble_eq_true rfl) (T_X9_haltOf (hc := by omega)) (?_ : RR _ _ _ _ 32 _ _ _ _)
        try simp (disch := omega) only [rup_rup, rup_sort, rupS_def, rup_s, rup_n, fup_fup, fup_s, fup_n]
        have hwi := hw (h (t + 4) i)
        unfold trHal at hwi
        try simp (disch := omega) only [rup_n] at hwi ⊢
        refine R_aload_n dX9_letOut_32 rfl (?_ : RR _ _ _ _ 33 _ _ _ _)
        refine R_getr dX9_letOut_33 flX9_87 cok_2 rfl (by decide) (?_ : RR _ _ _ _ 36 _ _ _ _)
        refine R_iload_n dX9_letOut_36 rfl (?_ : RR _ _ _ _ 37 _ _ _ _)
        refine R_iald dX9_letOut_37 (fun q37 => (?_ : RR _ _ _ _ 38 _ _ _ _))
        try simp (disch := omega) only [rup_rup, rup_sort, rupS_def, rup_s, rup_n, fup_fup, fup_s, fup_n] at q37 ⊢
        refine R_icmp_ne (t := 54) dX9_letOut_38 rfl (fun c38 => ?_) (fun c38 => ?_)
        · rw [← bset_no (P := P) (n := i) (by rw [← hP]; simp [trHal, c38]), ← outF_no (by simp [trHal, c38])]
          refine R_iinc dX9_letOut_54 rfl (Nat.le_of_ble_eq_true rfl) (?_ : RR _ _ _ _ 57 [_, _, _, _] _ _ _)
          refine R_goto (t := 4) dX9_letOut_57 rfl (?_ : RR _ _ _ _ 4 _ _ _ _)
          exact ih (i + 1) (by omega)
        · have e := bset_or (P := P) (n := i) (by omega) (by rw [← hP]; simp [trHal, c19, c38])
          refine R_aload_n dX9_letOut_41 rfl (?_ : RR _ _ _ _ 42 _ _ _ _)
          refine R_getr dX9_letOut_42 flX9_21 cok_9 rfl (by decide) (?_ : RR _ _ _ _ 45 _ _ _ _)
          refine R_iload_n dX9_letOut_45 rfl (?_ : RR _ _ _ _ 46 _ _ _ _)
          refine R_iconst dX9_letOut_46 (?_ : RR _ _ _ _ 47 _ _ _ _)
          refine R_iast dX9_letOut_47 (?_ : RR _ _ _ _ 48 _ _ _ _)
          try simp (disch := omega) only [rup_rup, rup_sort, rupS_def, rup_s, rup_n, fup_fup, fup_s, fup_n]
          rw [← outF_yes (by simp [trHal, c19, c38])]
          refine R_iload_n dX9_letOut_48 rfl (?_ : RR _ _ _ _ 49 _ _ _ _)
          refine R_iconst dX9_letOut_49 (?_ : RR _ _ _ _ 50 _ _ _ _)
          refine R_iload_n dX9_letOut_50 rfl (?_ : RR _ _ _ _ 51 _ _ _ _)
          refine R_ishl dX9_letOut_51 (?_ : RR _ _ _ _ 52 _ _ _ _)
          refine R_ior dX9_letOut_52 (?_ : RR _ _ _ _ 53 _ _ _ _)
          rw [e]
          refine R_istore_n dX9_letOut_53 (Nat.le_of_ble_eq_true rfl) (?_ : RR _ _ _ _ 54 [_, _, _, _] _ _ _)
          refine R_iinc dX9_letOut_54 rfl (Nat.le_of_ble_eq_true rfl) (?_ : RR _ _ _ _ 57 [_, _, _, _] _ _ _)
          refine R_goto (t := 4) dX9_letOut_57 rfl (?_ : RR _ _ _ _ 4 _ _ _ _)
          exact ih (i + 1) (by omega)
  refine R_iconst dX9_letOut_0 (?_ : RR _ _ _ _ 1 _ _ _ _)
  refine R_istore_n dX9_letOut_1 (Nat.le_of_ble_eq_true rfl) (?_ : RR _ _ _ _ 2 [_, _, _, _] _ _ _)
  refine R_iconst dX9_letOut_2 (?_ : RR _ _ _ _ 3 _ _ _ _)
  refine R_istore_n dX9_letOut_3 (Nat.le_of_ble_eq_true rfl) (?_ : RR _ _ _ _ 4 [_, _, _, _] _ _ _)
  have L0 := L n 0 (by omega)
  rw [outF_0, rup_self] at L0
  exact L0
