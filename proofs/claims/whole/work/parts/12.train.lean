theorem T_X9_haltOf {t : Nat} {c : Int} {h : Nat → Int → Int} (ht : isTr t := by assumption) (hc : 0 ≤ c ∧ c < 6 := by omega) : MT mX9_haltOf 0 [pR t, pI c] h (some (pI (if h (t + 2) c = -1 then h (t + 3) c else h t 0))) h := by
  obtain ⟨t0, t1, t2, t3, t4, t5, t6, t7, t8⟩ := ht
  show RR mX9_haltOf _ _ _ _ [pR t, pI c] _ _ _
  refine R_aload_n dX9_haltOf_0 rfl ?_
  refine R_getr dX9_haltOf_1 flX9_15 cok_9 rfl (by decide) ?_
  refine R_iload_n dX9_haltOf_4 rfl ?_
  refine R_iald dX9_haltOf_5 (fun q5 => ?_)
  refine R_iconst dX9_haltOf_6 ?_
  refine R_icmp_ne (t := 19) dX9_haltOf_7 rfl (fun c7 => ?_) (fun c7 => ?_)
  · refine R_aload_n dX9_haltOf_19 rfl ?_
    refine R_geti (z := 0) dX9_haltOf_20 flX9_24 cok_9 rfl (by decide) rfl (fun q20 => ?_)
    exact R_ireturn dX9_haltOf_23 trivial ⟨by simp [c7], rfl⟩
  · refine R_aload_n dX9_haltOf_10 rfl ?_
    refine R_getr dX9_haltOf_11 flX9_18 cok_9 rfl (by decide) ?_
    refine R_iload_n dX9_haltOf_14 rfl ?_
    refine R_iald dX9_haltOf_15 (fun q15 => ?_)
    refine R_goto (t := 23) dX9_haltOf_16 rfl ?_
    exact R_ireturn dX9_haltOf_23 trivial ⟨by simp [c7], rfl⟩
theorem T_X9_inside {t n : Nat} {c : Int} {h : Nat → Int → Int} (ht : isTr t := by assumption) (hc : r32 c := by omega) (hn : n ≤ 12 := by omega) : MT mX9_inside 0 [pR t, pI c, pI n] h (some (pI (bset (fun j => decide (h (t + 4) j = c)) n))) h := by
  obtain ⟨t0, t1, t2, t3, t4, t5, t6, t7, t8⟩ := ht
  show RR mX9_inside _ _ _ _ [pR t, pI c, pI n, pU, pU] _ _ _
  generalize hP : (fun j : Nat => decide (h (t + 4) j = c)) = P
  have L : ∀ k i : Nat, i + k = n → RR mX9_inside 0 0 0 5 [pR t, pI c, pI n, pI (bset P i), pI i] [] (shp0, rf0, h) (fun r' g' => r' = some (pI (bset P n)) ∧ g' = (shp0, rf0, h)) := by
    intro k
    induction k with
    | zero =>
      intro i hi
      obtain rfl : i = n := by omega
      refine R_iload dX9_inside_5 rfl ?_
      refine R_iload_n dX9_inside_7 rfl ?_
      refine R_icmp_ge (t := 35) dX9_inside_8 rfl (fun c8 => ?_) (fun c8 => ?_)
      rotate_left
      · exfalso; omega
      refine R_iload_n dX9_inside_35 rfl ?_
      exact R_ireturn dX9_inside_36 trivial ⟨rfl, rfl⟩
    | succ k ih =>
      intro i hi
      refine R_iload dX9_inside_5 rfl ?_
      refine R_iload_n dX9_inside_7 rfl ?_
      refine R_icmp_ge (t := 35) dX9_inside_8 rfl (fun c8 => ?_) (fun c8 => ?_)
      · exfalso; omega
      refine R_aload_n dX9_inside_11 rfl ?_
      refine R_getr dX9_inside_12 flX9_21 cok_9 rfl (by decide) ?_
      refine R_iload dX9_inside_15 rfl ?_
      refine R_iald dX9_inside_17 (fun q17 => ?_)
      refine R_iload_n dX9_inside_18 rfl ?_
      refine R_icmp_ne (t := 29) dX9_inside_19 rfl (fun c19 => ?_) (fun c19 => ?_)
      · rw [← bset_no (P := P) (n := i) (by rw [← hP]; simpa using c19)]
        refine R_iinc dX9_inside_29 rfl (Nat.le_of_ble_eq_true rfl) (?_ : RR _ _ _ _ _ [_, _, _, _, _] _ _ _)
        refine R_goto (t := 5) dX9_inside_32 rfl ?_
        exact ih (i + 1) (by omega)
      · have e := bset_or (P := P) (n := i) (by omega) (by rw [← hP]; simpa using c19)
        refine R_iload_n dX9_inside_22 rfl ?_
        refine R_iconst dX9_inside_23 ?_
        refine R_iload dX9_inside_24 rfl ?_
        refine R_ishl dX9_inside_26 ?_
        refine R_ior dX9_inside_27 ?_
        rw [e]
        refine R_istore_n dX9_inside_28 (Nat.le_of_ble_eq_true rfl) (?_ : RR _ _ _ _ _ [_, _, _, _, _] _ _ _)
        refine R_iinc dX9_inside_29 rfl (Nat.le_of_ble_eq_true rfl) (?_ : RR _ _ _ _ _ [_, _, _, _, _] _ _ _)
        refine R_goto (t := 5) dX9_inside_32 rfl ?_
        exact ih (i + 1) (by omega)
  refine R_iconst dX9_inside_0 ?_
  refine R_istore_n dX9_inside_1 (Nat.le_of_ble_eq_true rfl) (?_ : RR _ _ _ _ _ [_, _, _, _, _] _ _ _)
  refine R_iconst dX9_inside_2 ?_
  refine R_istore dX9_inside_3 (Nat.le_of_ble_eq_true rfl) (?_ : RR _ _ _ _ _ [_, _, _, _, _] _ _ _)
  exact L n 0 (by omega)
theorem T_X9_outBits {t n : Nat} {h : Nat → Int → Int} (ht : isTr t := by assumption) (hn : n ≤ 12 := by omega) : MT mX9_outBits 1 [pR t, pI n] h (some (pI (bset (fun j => decide (h (t + 4) j = -1)) n))) h := by
  obtain ⟨t0, t1, t2, t3, t4, t5, t6, t7, t8⟩ := id ht
  show RR mX9_outBits _ _ _ _ [pR t, pI n] _ _ _
  refine R_aload_n dX9_outBits_0 rfl ?_
  refine R_iconst dX9_outBits_1 ?_
  refine R_iload_n dX9_outBits_2 rfl ?_
  refine R_cVi2 dX9_outBits_3 mvX9_inside mlX9_51 (by decide) (by decide) (Nat.le_of_ble_eq_true rfl) (Nat.le_of_ble_eq_true rfl) (T_X9_inside) ?_
  exact R_ireturn dX9_outBits_6 trivial ⟨rfl, rfl⟩
theorem T_X9_has {t : Nat} {c : Int} {h : Nat → Int → Int} (ht : isTr t := by assumption) (hc : r32 c := by omega) : MT mX9_has 0 [pR t, pI c] h (some (pI (if 0 ≤ c ∧ c < h t 2 then 1 else 0))) h := by
  obtain ⟨t0, t1, t2, t3, t4, t5, t6, t7, t8⟩ := ht
  show RR mX9_has _ _ _ _ [pR t, pI c] _ _ _
  refine R_iload_n dX9_has_0 rfl ?_
  refine R_if_lt (t := 16) dX9_has_1 rfl (fun c1 => ?_) (fun c1 => ?_)
  · refine R_iconst dX9_has_16 ?_
    exact R_ireturn dX9_has_17 (by first | exact Or.inl rfl | exact Or.inr rfl | omega | (simp; done)) ⟨by first | rw [if_pos (by omega)] | rw [if_neg (by omega)], rfl⟩
  · refine R_iload_n dX9_has_4 rfl ?_
    refine R_aload_n dX9_has_5 rfl ?_
    refine R_geti (z := 2) dX9_has_6 flX9_31 cok_9 rfl (by decide) rfl (fun q6 => ?_)
    refine R_icmp_ge (t := 16) dX9_has_9 rfl (fun c9 => ?_) (fun c9 => ?_)
    · refine R_iconst dX9_has_16 ?_
      exact R_ireturn dX9_has_17 (by first | exact Or.inl rfl | exact Or.inr rfl | omega | (simp; done)) ⟨by first | rw [if_pos (by omega)] | rw [if_neg (by omega)], rfl⟩
    · refine R_iconst dX9_has_12 ?_
      refine R_goto (t := 17) dX9_has_13 rfl ?_
      exact R_ireturn dX9_has_17 (by first | exact Or.inl rfl | exact Or.inr rfl | omega | (simp; done)) ⟨by first | rw [if_pos (by omega)] | rw [if_neg (by omega)], rfl⟩
theorem T_X9_standingAt {t n : Nat} {c : Int} {h : Nat → Int → Int} (hn : h t 2 = n := by assumption) (ht : isTr t := by assumption) (hc : r32 c := by omega) (h6 : n ≤ 6 := by omega) : MT mX9_standingAt 0 [pR t, pI c] h (some (pI (bset (fun j => decide (h (t + 2) j = -1 ∧ h (t + 3) j = c)) n))) h := by
  obtain ⟨t0, t1, t2, t3, t4, t5, t6, t7, t8⟩ := ht
  show RR mX9_standingAt _ _ _ _ [pR t, pI c, pU, pU] _ _ _
  generalize hP : (fun j : Nat => decide (h (t + 2) j = -1 ∧ h (t + 3) j = c)) = P
  have L : ∀ k i : Nat, i + k = n → RR mX9_standingAt 0 0 0 4 [pR t, pI c, pI (bset P i), pI i] [] (shp0, rf0, h) (fun r' g' => r' = some (pI (bset P n)) ∧ g' = (shp0, rf0, h)) := by
    intro k
    induction k with
    | zero =>
      intro i hi
      obtain rfl : i = n := by omega
      refine R_iload_n dX9_standingAt_4 rfl ?_
      refine R_aload_n dX9_standingAt_5 rfl ?_
      refine R_geti (z := 2) dX9_standingAt_6 flX9_31 cok_9 rfl (by decide) rfl (fun q6 => ?_)
      refine R_icmp_ge (t := 44) dX9_standingAt_9 rfl (fun c9 => ?_) (fun c9 => ?_)
      rotate_left
      · exfalso; omega
      refine R_iload_n dX9_standingAt_44 rfl ?_
      exact R_ireturn dX9_standingAt_45 trivial ⟨rfl, rfl⟩
    | succ k ih =>
      intro i hi
      refine R_iload_n dX9_standingAt_4 rfl ?_
      refine R_aload_n dX9_standingAt_5 rfl ?_
      refine R_geti (z := 2) dX9_standingAt_6 flX9_31 cok_9 rfl (by decide) rfl (fun q6 => ?_)
      refine R_icmp_ge (t := 44) dX9_standingAt_9 rfl (fun c9 => ?_) (fun c9 => ?_)
      · exfalso; omega
      refine R_aload_n dX9_standingAt_12 rfl ?_
      refine R_getr dX9_standingAt_13 flX9_15 cok_9 rfl (by decide) ?_
      refine R_iload_n dX9_standingAt_16 rfl ?_
      refine R_iald dX9_standingAt_17 (fun q17 => ?_)
      refine R_iconst dX9_standingAt_18 ?_
      refine R_icmp_ne (t := 38) dX9_standingAt_19 rfl (fun c19 => ?_) (fun c19 => ?_)
      · rw [← bset_no (P := P) (n := i) (by rw [← hP]; simp [c19])]
        refine R_iinc dX9_standingAt_38 rfl (Nat.le_of_ble_eq_true rfl) (?_ : RR _ _ _ _ _ [_, _, _, _] _ _ _)
        refine R_goto (t := 4) dX9_standingAt_41 rfl ?_
        exact ih (i + 1) (by omega)
      · refine R_aload_n dX9_standingAt_22 rfl ?_
        refine R_getr dX9_standingAt_23 flX9_18 cok_9 rfl (by decide) ?_
        refine R_iload_n dX9_standingAt_26 rfl ?_
        refine R_iald dX9_standingAt_27 (fun q27 => ?_)
        refine R_iload_n dX9_standingAt_28 rfl ?_
        refine R_icmp_ne (t := 38) dX9_standingAt_29 rfl (fun c29 => ?_) (fun c29 => ?_)
        · rw [← bset_no (P := P) (n := i) (by rw [← hP]; simp [c29])]
          refine R_iinc dX9_standingAt_38 rfl (Nat.le_of_ble_eq_true rfl) (?_ : RR _ _ _ _ _ [_, _, _, _] _ _ _)
          refine R_goto (t := 4) dX9_standingAt_41 rfl ?_
          exact ih (i + 1) (by omega)
        · have e := bset_or (P := P) (n := i) (by omega) (by rw [← hP]; simp [c19, c29])
          refine R_iload_n dX9_standingAt_32 rfl ?_
          refine R_iconst dX9_standingAt_33 ?_
          refine R_iload_n dX9_standingAt_34 rfl ?_
          refine R_ishl dX9_standingAt_35 ?_
          refine R_ior dX9_standingAt_36 ?_
          rw [e]
          refine R_istore_n dX9_standingAt_37 (Nat.le_of_ble_eq_true rfl) (?_ : RR _ _ _ _ _ [_, _, _, _] _ _ _)
          refine R_iinc dX9_standingAt_38 rfl (Nat.le_of_ble_eq_true rfl) (?_ : RR _ _ _ _ _ [_, _, _, _] _ _ _)
          refine R_goto (t := 4) dX9_standingAt_41 rfl ?_
          exact ih (i + 1) (by omega)
  refine R_iconst dX9_standingAt_0 ?_
  refine R_istore_n dX9_standingAt_1 (Nat.le_of_ble_eq_true rfl) (?_ : RR _ _ _ _ _ [_, _, _, _] _ _ _)
  refine R_iconst dX9_standingAt_2 ?_
  refine R_istore_n dX9_standingAt_3 (Nat.le_of_ble_eq_true rfl) (?_ : RR _ _ _ _ _ [_, _, _, _] _ _ _)
  exact L n 0 (by omega)
theorem T_X9_carries {t : Nat} {c : Int} {h : Nat → Int → Int} (ht : isTr t := by assumption) (hc : 0 ≤ c ∧ c < 12 := by omega) (hs : h (t + 4) c = -1 ∨ (0 ≤ h (t + 4) c ∧ h (t + 4) c < 6) := by omega) : MT mX9_carries 0 [pR t, pI c] h (some (pI (if h (t + 4) c ≠ -1 ∧ h (t + 2) (h (t + 4) c) ≠ -1 then 1 else 0))) h := by
  obtain ⟨t0, t1, t2, t3, t4, t5, t6, t7, t8⟩ := ht
  show RR mX9_carries _ _ _ _ [pR t, pI c] _ _ _
  refine R_aload_n dX9_carries_0 rfl ?_
  refine R_getr dX9_carries_1 flX9_21 cok_9 rfl (by decide) ?_
  refine R_iload_n dX9_carries_4 rfl ?_
  refine R_iald dX9_carries_5 (fun q5 => ?_)
  refine R_iconst dX9_carries_6 ?_
  refine R_icmp_eq (t := 29) dX9_carries_7 rfl (fun c7 => ?_) (fun c7 => ?_)
  · refine R_iconst dX9_carries_29 ?_
    exact R_ireturn dX9_carries_30 (by first | exact Or.inl rfl | exact Or.inr rfl | omega | (simp; done)) ⟨by first | rw [if_pos (by simp_all)] | rw [if_neg (by simp_all)], rfl⟩
  · refine R_aload_n dX9_carries_10 rfl ?_
    refine R_getr dX9_carries_11 flX9_15 cok_9 rfl (by decide) ?_
    refine R_aload_n dX9_carries_14 rfl ?_
    refine R_getr dX9_carries_15 flX9_21 cok_9 rfl (by decide) ?_
    refine R_iload_n dX9_carries_18 rfl ?_
    refine R_iald dX9_carries_19 (fun q19 => ?_)
    refine R_iald dX9_carries_20 (fun q20 => ?_)
    refine R_iconst dX9_carries_21 ?_
    refine R_icmp_eq (t := 29) dX9_carries_22 rfl (fun c22 => ?_) (fun c22 => ?_)
    · refine R_iconst dX9_carries_29 ?_
      exact R_ireturn dX9_carries_30 (by first | exact Or.inl rfl | exact Or.inr rfl | omega | (simp; done)) ⟨by first | rw [if_pos (by simp_all)] | rw [if_neg (by simp_all)], rfl⟩
    · refine R_iconst dX9_carries_25 ?_
      refine R_goto (t := 30) dX9_carries_26 rfl ?_
      exact R_ireturn dX9_carries_30 (by first | exact Or.inl rfl | exact Or.inr rfl | omega | (simp; done)) ⟨by first | rw [if_pos (by simp_all)] | rw [if_neg (by simp_all)], rfl⟩
theorem T_X9_carriedBits {t n : Nat} {h : Nat → Int → Int} (hs : ∀ j : Nat, j < n → h (t + 4) j = -1 ∨ (0 ≤ h (t + 4) j ∧ h (t + 4) j < 6)) (ht : isTr t := by assumption) (hn : n ≤ 12 := by omega) : MT mX9_carriedBits 1 [pR t, pI n] h (some (pI (bset (fun j => decide (h (t + 4) j ≠ -1 ∧ h (t + 2) (h (t + 4) j) ≠ -1)) n))) h := by
  obtain ⟨t0, t1, t2, t3, t4, t5, t6, t7, t8⟩ := id ht
  show RR mX9_carriedBits _ _ _ _ [pR t, pI n, pU, pU] _ _ _
  generalize hP : (fun j : Nat => decide (h (t + 4) j ≠ -1 ∧ h (t + 2) (h (t + 4) j) ≠ -1)) = P
  have L : ∀ k i : Nat, i + k = n → RR mX9_carriedBits 1 0 0 4 [pR t, pI n, pI (bset P i), pI i] [] (shp0, rf0, h) (fun r' g' => r' = some (pI (bset P n)) ∧ g' = (shp0, rf0, h)) := by
    intro k
    induction k with
    | zero =>
      intro i hi
      obtain rfl : i = n := by omega
      refine R_iload_n dX9_carriedBits_4 rfl ?_
      refine R_iload_n dX9_carriedBits_5 rfl ?_
      refine R_icmp_ge (t := 29) dX9_carriedBits_6 rfl (fun c6 => ?_) (fun c6 => ?_)
      rotate_left
      · exfalso; omega
      refine R_iload_n dX9_carriedBits_29 rfl ?_
      exact R_ireturn dX9_carriedBits_30 trivial ⟨rfl, rfl⟩
    | succ k ih =>
      intro i hi
      refine R_iload_n dX9_carriedBits_4 rfl ?_
      refine R_iload_n dX9_carriedBits_5 rfl ?_
      refine R_icmp_ge (t := 29) dX9_carriedBits_6 rfl (fun c6 => ?_) (fun c6 => ?_)
      · exfalso; omega
      refine R_aload_n dX9_carriedBits_9 rfl ?_
      refine R_iload_n dX9_carriedBits_10 rfl ?_
      refine R_cVi1 dX9_carriedBits_11 mvX9_carries mlX9_55 (by decide) (by decide) (Nat.le_of_ble_eq_true rfl) (Nat.le_of_ble_eq_true rfl) (T_X9_carries (hs := hs i (by omega))) ?_
      refine R_if_eq (t := 23) dX9_carriedBits_14 rfl (fun c14 => ?_) (fun c14 => ?_)
      · rw [← bset_no (P := P) (n := i) (by rw [← hP]; simpa using c14)]
        refine R_iinc dX9_carriedBits_23 rfl (Nat.le_of_ble_eq_true rfl) (?_ : RR _ _ _ _ _ [_, _, _, _] _ _ _)
        refine R_goto (t := 4) dX9_carriedBits_26 rfl ?_
        exact ih (i + 1) (by omega)
      · have e := bset_or (P := P) (n := i) (by omega) (by rw [← hP]; simpa using c14)
        refine R_iload_n dX9_carriedBits_17 rfl ?_
        refine R_iconst dX9_carriedBits_18 ?_
        refine R_iload_n dX9_carriedBits_19 rfl ?_
        refine R_ishl dX9_carriedBits_20 ?_
        refine R_ior dX9_carriedBits_21 ?_
        rw [e]
        refine R_istore_n dX9_carriedBits_22 (Nat.le_of_ble_eq_true rfl) (?_ : RR _ _ _ _ _ [_, _, _, _] _ _ _)
        refine R_iinc dX9_carriedBits_23 rfl (Nat.le_of_ble_eq_true rfl) (?_ : RR _ _ _ _ _ [_, _, _, _] _ _ _)
        refine R_goto (t := 4) dX9_carriedBits_26 rfl ?_
        exact ih (i + 1) (by omega)
  refine R_iconst dX9_carriedBits_0 ?_
  refine R_istore_n dX9_carriedBits_1 (Nat.le_of_ble_eq_true rfl) (?_ : RR _ _ _ _ _ [_, _, _, _] _ _ _)
  refine R_iconst dX9_carriedBits_2 ?_
  refine R_istore_n dX9_carriedBits_3 (Nat.le_of_ble_eq_true rfl) (?_ : RR _ _ _ _ _ [_, _, _, _] _ _ _)
  exact L n 0 (by omega)
theorem T_X9_areNeighbours {t : Nat} {a b : Int} {h : Nat → Int → Int} (ht : isTr t := by assumption) (ha : 0 ≤ a ∧ a < 6 := by omega) (hb : 0 ≤ b ∧ b < 6 := by omega) (hpa : -1 ≤ h (t + 2) a ∧ h (t + 2) a < 6 := by omega) (hpb : -1 ≤ h (t + 2) b ∧ h (t + 2) b < 6 := by omega) : MT mX9_areNeighbours 1 [pR t, pI a, pI b] h (some (pI (if h (t + 2) a ≠ -1 ∧ h (t + 2) b ≠ -1 ∧ iAbs (h (t + 2) a - h (t + 2) b) = 1 then 1 else 0))) h := by
  obtain ⟨t0, t1, t2, t3, t4, t5, t6, t7, t8⟩ := ht
  show RR mX9_areNeighbours _ _ _ _ [pR t, pI a, pI b] _ _ _
  have hr : r32 (iAbs (h (t + 2) a - h (t + 2) b)) := by unfold iAbs; split <;> omega
  refine R_aload_n dX9_areNeighbours_0 rfl ?_
  refine R_getr dX9_areNeighbours_1 flX9_15 cok_9 rfl (by decide) ?_
  refine R_iload_n dX9_areNeighbours_4 rfl ?_
  refine R_iald dX9_areNeighbours_5 (fun q5 => ?_)
  refine R_iconst dX9_areNeighbours_6 ?_
  refine R_icmp_eq (t := 44) dX9_areNeighbours_7 rfl (fun c7 => ?_) (fun c7 => ?_)
  · refine R_iconst dX9_areNeighbours_44 ?_
    exact R_ireturn dX9_areNeighbours_45 (by first | exact Or.inl rfl | exact Or.inr rfl | omega | (simp; done)) ⟨by first | rw [if_pos (by simp_all)] | rw [if_neg (by simp_all)], rfl⟩
  · refine R_aload_n dX9_areNeighbours_10 rfl ?_
    refine R_getr dX9_areNeighbours_11 flX9_15 cok_9 rfl (by decide) ?_
    refine R_iload_n dX9_areNeighbours_14 rfl ?_
    refine R_iald dX9_areNeighbours_15 (fun q15 => ?_)
    refine R_iconst dX9_areNeighbours_16 ?_
    refine R_icmp_eq (t := 44) dX9_areNeighbours_17 rfl (fun c17 => ?_) (fun c17 => ?_)
    · refine R_iconst dX9_areNeighbours_44 ?_
      exact R_ireturn dX9_areNeighbours_45 (by first | exact Or.inl rfl | exact Or.inr rfl | omega | (simp; done)) ⟨by first | rw [if_pos (by simp_all)] | rw [if_neg (by simp_all)], rfl⟩
    · refine R_aload_n dX9_areNeighbours_20 rfl ?_
      refine R_getr dX9_areNeighbours_21 flX9_15 cok_9 rfl (by decide) ?_
      refine R_iload_n dX9_areNeighbours_24 rfl ?_
      refine R_iald dX9_areNeighbours_25 (fun q25 => ?_)
      refine R_aload_n dX9_areNeighbours_26 rfl ?_
      refine R_getr dX9_areNeighbours_27 flX9_15 cok_9 rfl (by decide) ?_
      refine R_iload_n dX9_areNeighbours_30 rfl ?_
      refine R_iald dX9_areNeighbours_31 (fun q31 => ?_)
      refine R_isub dX9_areNeighbours_32 ?_
      refine R_abs dX9_areNeighbours_33 mmX9_59 (by decide) (Nat.le_of_ble_eq_true rfl) ?_
      refine R_iconst dX9_areNeighbours_36 ?_
      refine R_icmp_ne (t := 44) dX9_areNeighbours_37 rfl (fun c37 => ?_) (fun c37 => ?_)
      · refine R_iconst dX9_areNeighbours_44 ?_
        exact R_ireturn dX9_areNeighbours_45 (by first | exact Or.inl rfl | exact Or.inr rfl | omega | (simp; done)) ⟨by first | rw [if_pos (by simp_all)] | rw [if_neg (by simp_all)], rfl⟩
      · refine R_iconst dX9_areNeighbours_40 ?_
        refine R_goto (t := 45) dX9_areNeighbours_41 rfl ?_
        exact R_ireturn dX9_areNeighbours_45 (by first | exact Or.inl rfl | exact Or.inr rfl | omega | (simp; done)) ⟨by first | rw [if_pos (by simp_all)] | rw [if_neg (by simp_all)], rfl⟩
theorem T_X9_empty {t : Nat} {h : Nat → Int → Int} (ht : isTr t := by assumption) : MT mX9_empty 0 [pR t] h none (rup h t (fun i => if 0 ≤ i ∧ i < 4 then 0 else h t i)) := by
  obtain ⟨t0, t1, t2, t3, t4, t5, t6, t7, t8⟩ := ht
  show RR mX9_empty _ _ _ _ [pR t] _ _ _
  have e : rup (rup (rup (rup h t (fup (h t) 0 0)) t (fup (rup h t (fup (h t) 0 0) t) 1 0)) t (fup (rup (rup h t (fup (h t) 0 0)) t (fup (rup h t (fup (h t) 0 0) t) 1 0) t) 2 0)) t (fup (rup (rup (rup h t (fup (h t) 0 0)) t (fup (rup h t (fup (h t) 0 0) t) 1 0)) t (fup (rup (rup h t (fup (h t) 0 0)) t (fup (rup h t (fup (h t) 0 0) t) 1 0) t) 2 0) t) 3 0) = rup h t (fun i => if 0 ≤ i ∧ i < 4 then 0 else h t i) := by
    simp only [rup_rup, rup_s]
    congr 1
    funext i
    unfold fup
    repeat' split
    all_goals first | rfl | omega
  refine R_aload_n dX9_empty_0 rfl ?_
  refine R_iconst dX9_empty_1 ?_
  refine R_puti (zk := 0) dX9_empty_2 flX9_24 cok_9 (by decide) (fun q hq => by cases hq; rfl) rfl ?_
  refine R_aload_n dX9_empty_5 rfl ?_
  refine R_iconst dX9_empty_6 ?_
  refine R_puti (zk := 1) dX9_empty_7 flX9_28 cok_9 (by decide) (fun q hq => by cases hq; rfl) rfl ?_
  refine R_aload_n dX9_empty_10 rfl ?_
  refine R_iconst dX9_empty_11 ?_
  refine R_puti (zk := 2) dX9_empty_12 flX9_31 cok_9 (by decide) (fun q hq => by cases hq; rfl) rfl ?_
  refine R_aload_n dX9_empty_15 rfl ?_
  refine R_iconst dX9_empty_16 ?_
  refine R_puti (zk := 3) dX9_empty_17 flX9_34 cok_9 (by decide) (fun q hq => by cases hq; rfl) rfl ?_
  exact R_return dX9_empty_20 trivial ⟨rfl, by rw [e]⟩
