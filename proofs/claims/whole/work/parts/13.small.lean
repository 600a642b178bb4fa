/-! signs -/
def signAt (h : Nat → Int → Int) (p : Int) : Int := if 0 ≤ p ∧ p < h 1 2 ∧ p < 80 then h 2 p else -1
theorem T_X7_at {p : Int} {h : Nat → Int → Int} (hp : r32 p := by omega) : MT mX7_at 0 [pR 1, pI p] h (some (pI (signAt h p))) h := by
  refine MT.of (fun Q hQ => (?_ : RR mX7_at _ _ _ _ [pR 1, pI p] _ _ _))
  unfold signAt at hQ
  refine R_iload_n dX7_at_0 rfl (?_ : RR _ _ _ _ 1 _ _ _ _)
  refine R_if_lt (t := 27) dX7_at_1 rfl (fun c1 => ?_) (fun c1 => ?_)
  · refine R_iconst dX7_at_27 (?_ : RR _ _ _ _ 28 _ _ _ _)
    exact R_ireturn dX7_at_28 trivial (by first | rwa [if_pos (by omega)] at hQ | rwa [if_neg (by omega)] at hQ)
  · refine R_iload_n dX7_at_4 rfl (?_ : RR _ _ _ _ 5 _ _ _ _)
    refine R_aload_n dX7_at_5 rfl (?_ : RR _ _ _ _ 6 _ _ _ _)
    refine R_geti (z := 2) dX7_at_6 flX7_25 cok_7 rfl (by decide) rfl (fun q6 => (?_ : RR _ _ _ _ 9 _ _ _ _))
    refine R_icmp_ge (t := 27) dX7_at_9 rfl (fun c9 => ?_) (fun c9 => ?_)
    · refine R_iconst dX7_at_27 (?_ : RR _ _ _ _ 28 _ _ _ _)
      exact R_ireturn dX7_at_28 trivial (by first | rwa [if_pos (by omega)] at hQ | rwa [if_neg (by omega)] at hQ)
    · refine R_iload_n dX7_at_12 rfl (?_ : RR _ _ _ _ 13 _ _ _ _)
      refine R_bipush dX7_at_13 rfl (?_ : RR _ _ _ _ 15 _ _ _ _)
      refine R_icmp_ge (t := 27) dX7_at_15 rfl (fun c15 => ?_) (fun c15 => ?_)
      · refine R_iconst dX7_at_27 (?_ : RR _ _ _ _ 28 _ _ _ _)
        exact R_ireturn dX7_at_28 trivial (by first | rwa [if_pos (by omega)] at hQ | rwa [if_neg (by omega)] at hQ)
      · refine R_aload_n dX7_at_18 rfl (?_ : RR _ _ _ _ 19 _ _ _ _)
        refine R_getr dX7_at_19 flX7_9 cok_7 rfl (by decide) (?_ : RR _ _ _ _ 22 _ _ _ _)
        refine R_iload_n dX7_at_22 rfl (?_ : RR _ _ _ _ 23 _ _ _ _)
        refine R_iald dX7_at_23 (fun q23 => (?_ : RR _ _ _ _ 24 _ _ _ _))
        refine R_goto (t := 28) dX7_at_24 rfl (?_ : RR _ _ _ _ 28 _ _ _ _)
        exact R_ireturn dX7_at_28 trivial (by first | rwa [if_pos (by omega)] at hQ | rwa [if_neg (by omega)] at hQ)
def numAt (h : Nat → Int → Int) (p f m : Int) : Int := if 0 ≤ signAt h p - f ∧ signAt h p - f < m then signAt h p - f else -1
theorem T_X7_numberAt {p f m : Int} {h : Nat → Int → Int} (hs : -1 ≤ signAt h p ∧ signAt h p ≤ 255) (hp : r32 p := by omega) (hf : 0 ≤ f ∧ f ≤ 1000 := by omega) (hm : r32 m := by omega) : MT mX7_numberAt 1 [pR 1, pI p, pI f, pI m] h (some (pI (numAt h p f m))) h := by
  refine MT.of (fun Q hQ => (?_ : RR mX7_numberAt _ _ _ _ [pR 1, pI p, pI f, pI m, pU] _ _ _))
  unfold numAt at hQ
  refine R_aload_n dX7_numberAt_0 rfl (?_ : RR _ _ _ _ 1 _ _ _ _)
  refine R_iload_n dX7_numberAt_1 rfl (?_ : RR _ _ _ _ 2 _ _ _ _)
  refine R_cVi1 dX7_numberAt_2 mvX7_at mlX7_28 (by decide) (by decide) (Nat.le_of_ble_eq_true rfl) (Nat.le_of_ble_eq_true rfl) (T_X7_at) (?_ : RR _ _ _ _ 5 _ _ _ _)
  refine R_iload_n dX7_numberAt_5 rfl (?_ : RR _ _ _ _ 6 _ _ _ _)
  refine R_isub dX7_numberAt_6 (?_ : RR _ _ _ _ 7 _ _ _ _)
  refine R_istore dX7_numberAt_7 (Nat.le_of_ble_eq_true rfl) (?_ : RR _ _ _ _ 9 [_, _, _, _, _] _ _ _)
  refine R_iload dX7_numberAt_9 rfl (?_ : RR _ _ _ _ 11 _ _ _ _)
  refine R_if_lt (t := 25) dX7_numberAt_11 rfl (fun c11 => ?_) (fun c11 => ?_)
  · refine R_iconst dX7_numberAt_25 (?_ : RR _ _ _ _ 26 _ _ _ _)
    exact R_ireturn dX7_numberAt_26 trivial (by first | rwa [if_pos (by omega)] at hQ | rwa [if_neg (by omega)] at hQ)
  · refine R_iload dX7_numberAt_14 rfl (?_ : RR _ _ _ _ 16 _ _ _ _)
    refine R_iload_n dX7_numberAt_16 rfl (?_ : RR _ _ _ _ 17 _ _ _ _)
    refine R_icmp_ge (t := 25) dX7_numberAt_17 rfl (fun c17 => ?_) (fun c17 => ?_)
    · refine R_iconst dX7_numberAt_25 (?_ : RR _ _ _ _ 26 _ _ _ _)
      exact R_ireturn dX7_numberAt_26 trivial (by first | rwa [if_pos (by omega)] at hQ | rwa [if_neg (by omega)] at hQ)
    · refine R_iload dX7_numberAt_20 rfl (?_ : RR _ _ _ _ 22 _ _ _ _)
      refine R_goto (t := 26) dX7_numberAt_22 rfl (?_ : RR _ _ _ _ 26 _ _ _ _)
      exact R_ireturn dX7_numberAt_26 trivial (by first | rwa [if_pos (by omega)] at hQ | rwa [if_neg (by omega)] at hQ)
theorem T_X7_digitAt {p : Int} {h : Nat → Int → Int} (hs : -1 ≤ signAt h p ∧ signAt h p ≤ 255) (hp : r32 p := by omega) : MT mX7_digitAt 2 [pR 1, pI p] h (some (pI (numAt h p 48 10))) h := by
  refine MT.of (fun Q hQ => (?_ : RR mX7_digitAt _ _ _ _ [pR 1, pI p, pU] _ _ _))
  unfold numAt at hQ
  refine R_aload_n dX7_digitAt_0 rfl (?_ : RR _ _ _ _ 1 _ _ _ _)
  refine R_iload_n dX7_digitAt_1 rfl (?_ : RR _ _ _ _ 2 _ _ _ _)
  refine R_cVi1 dX7_digitAt_2 mvX7_at mlX7_28 (by decide) (by decide) (Nat.le_of_ble_eq_true rfl) (Nat.le_of_ble_eq_true rfl) (T_X7_at) (?_ : RR _ _ _ _ 5 _ _ _ _)
  refine R_bipush dX7_digitAt_5 rfl (?_ : RR _ _ _ _ 7 _ _ _ _)
  refine R_isub dX7_digitAt_7 (?_ : RR _ _ _ _ 8 _ _ _ _)
  refine R_istore_n dX7_digitAt_8 (Nat.le_of_ble_eq_true rfl) (?_ : RR _ _ _ _ 9 [_, _, _] _ _ _)
  refine R_iload_n dX7_digitAt_9 rfl (?_ : RR _ _ _ _ 10 _ _ _ _)
  refine R_if_lt (t := 23) dX7_digitAt_10 rfl (fun c10 => ?_) (fun c10 => ?_)
  · refine R_iconst dX7_digitAt_23 (?_ : RR _ _ _ _ 24 _ _ _ _)
    exact R_ireturn dX7_digitAt_24 trivial (by first | rwa [if_pos (by omega)] at hQ | rwa [if_neg (by omega)] at hQ)
  · refine R_iload_n dX7_digitAt_13 rfl (?_ : RR _ _ _ _ 14 _ _ _ _)
    refine R_bipush dX7_digitAt_14 rfl (?_ : RR _ _ _ _ 16 _ _ _ _)
    refine R_icmp_ge (t := 23) dX7_digitAt_16 rfl (fun c16 => ?_) (fun c16 => ?_)
    · refine R_iconst dX7_digitAt_23 (?_ : RR _ _ _ _ 24 _ _ _ _)
      exact R_ireturn dX7_digitAt_24 trivial (by first | rwa [if_pos (by omega)] at hQ | rwa [if_neg (by omega)] at hQ)
    · refine R_iload_n dX7_digitAt_19 rfl (?_ : RR _ _ _ _ 20 _ _ _ _)
      refine R_goto (t := 24) dX7_digitAt_20 rfl (?_ : RR _ _ _ _ 24 _ _ _ _)
      exact R_ireturn dX7_digitAt_24 trivial (by first | rwa [if_pos (by omega)] at hQ | rwa [if_neg (by omega)] at hQ)
theorem T_X7_boundBy {m : Int} {h : Nat → Int → Int} (hm : r32 m := by omega) : MT mX7_boundBy 1 [pR 1, pI m] h none (rup h 1 (fup (h 1) 2 (min (h 1 1) m))) := by
  refine MT.of (fun Q hQ => (?_ : RR mX7_boundBy _ _ _ _ [pR 1, pI m] _ _ _))
  refine R_aload_n dX7_boundBy_0 rfl (?_ : RR _ _ _ _ 1 _ _ _ _)
  refine R_aload_n dX7_boundBy_1 rfl (?_ : RR _ _ _ _ 2 _ _ _ _)
  refine R_geti (z := 1) dX7_boundBy_2 flX7_15 cok_7 rfl (by decide) rfl (fun q2 => (?_ : RR _ _ _ _ 5 _ _ _ _))
  refine R_iload_n dX7_boundBy_5 rfl (?_ : RR _ _ _ _ 6 _ _ _ _)
  refine R_min dX7_boundBy_6 mmX7_19 (by decide) (Nat.le_of_ble_eq_true rfl) (?_ : RR _ _ _ _ 9 _ _ _ _)
  refine R_puti (zk := 2) dX7_boundBy_9 flX7_25 cok_7 (by decide) (fun q hq => by cases hq; rfl) rfl (?_ : RR _ _ _ _ 12 _ _ _ _)
  exact R_return dX7_boundBy_12 trivial hQ
/-! the row that is told, riders -/
theorem T_X3_clear {h : Nat → Int → Int} : MT mX3_clear 0 [pR 145] h none (rup h 145 (fup (h 145) 1 0)) := by
  refine MT.of (fun Q hQ => (?_ : RR mX3_clear _ _ _ _ [pR 145] _ _ _))
  refine R_aload_n dX3_clear_0 rfl (?_ : RR _ _ _ _ 1 _ _ _ _)
  refine R_iconst dX3_clear_1 (?_ : RR _ _ _ _ 2 _ _ _ _)
  refine R_puti (zk := 1) dX3_clear_2 flX3_15 cok_3 (by decide) (fun q hq => by cases hq; rfl) rfl (?_ : RR _ _ _ _ 5 _ _ _ _)
  exact R_return dX3_clear_5 trivial hQ
theorem T_X3_add {z : Int} {n : Nat} {h : Nat → Int → Int} (hn : h 145 1 = n) (h12 : n < 12) (hz : r64 z := by omega) : MT mX3_add 0 [pR 145, pL z] h none (rup (rup h 145 (fup (h 145) 1 (n + 1))) 146 (fup (h 146) n z)) := by
  refine MT.of (fun Q hQ => (?_ : RR mX3_add _ _ _ _ [pR 145, pL z, pU] _ _ _))
  refine R_aload_n dX3_add_0 rfl (?_ : RR _ _ _ _ 1 _ _ _ _)
  refine R_geti (z := 1) dX3_add_1 flX3_15 cok_3 rfl (by decide) rfl (fun q1 => (?_ : RR _ _ _ _ 4 _ _ _ _))
  try simp (disch := omega) only [rup_rup, rup_sort, rupS_def, rup_s, rup_n, fup_fup, fup_s, fup_n] at q1 ⊢
  refine R_bipush dX3_add_4 rfl (?_ : RR _ _ _ _ 6 _ _ _ _)
  rw [hn] at q1
  rw [hn]
  refine R_icmp_ge (t := 29) dX3_add_6 rfl (fun c6 => ?_) (fun c6 => ?_)
  · exfalso; omega
  refine R_aload_n dX3_add_9 rfl (?_ : RR _ _ _ _ 10 _ _ _ _)
  refine R_getr dX3_add_10 flX3_9 cok_3 rfl (by decide) (?_ : RR _ _ _ _ 13 _ _ _ _)
  refine R_aload_n dX3_add_13 rfl (?_ : RR _ _ _ _ 14 _ _ _ _)
  refine R_geti (z := 1) dX3_add_14 flX3_15 cok_3 rfl (by decide) rfl (fun q14 => (?_ : RR _ _ _ _ 17 _ _ _ _))
  try simp (disch := omega) only [rup_rup, rup_sort, rupS_def, rup_s, rup_n, fup_fup, fup_s, fup_n] at q14 ⊢
  rw [hn]
  refine R_lload_n dX3_add_17 rfl (?_ : RR _ _ _ _ 18 _ _ _ _)
  refine R_last dX3_add_18 (?_ : RR _ _ _ _ 19 _ _ _ _)
  try simp (disch := omega) only [rup_rup, rup_sort, rupS_def, rup_s, rup_n, fup_fup, fup_s, fup_n]
  refine R_aload_n dX3_add_19 rfl (?_ : RR _ _ _ _ 20 _ _ _ _)
  refine R_dup dX3_add_20 (fun _ => rfl) (?_ : RR _ _ _ _ 21 _ _ _ _)
  refine R_geti (z := 1) dX3_add_21 flX3_15 cok_3 rfl (by decide) rfl (fun q21 => (?_ : RR _ _ _ _ 24 _ _ _ _))
  try simp (disch := omega) only [rup_rup, rup_sort, rupS_def, rup_s, rup_n, fup_fup, fup_s, fup_n] at q21 ⊢
  rw [hn]
  refine R_iconst dX3_add_24 (?_ : RR _ _ _ _ 25 _ _ _ _)
  refine R_iadd dX3_add_25 (?_ : RR _ _ _ _ 26 _ _ _ _)
  refine R_puti (zk := 1) dX3_add_26 flX3_15 cok_3 (by decide) (fun q hq => by cases hq; rfl) rfl (?_ : RR _ _ _ _ 29 _ _ _ _)
  try simp (disch := omega) only [rup_rup, rup_sort, rupS_def, rup_s, rup_n, fup_fup, fup_s, fup_n]
  exact R_return dX3_add_29 trivial hQ
theorem T_X2_has {c : Int} {h : Nat → Int → Int} (hc : r32 c := by omega) : MT mX2_has 0 [pR 11, pI c] h (some (pI (if 0 ≤ c ∧ c < h 11 0 then 1 else 0))) h := by
  refine MT.of (fun Q hQ => (?_ : RR mX2_has _ _ _ _ [pR 11, pI c] _ _ _))
  refine R_iload_n dX2_has_0 rfl (?_ : RR _ _ _ _ 1 _ _ _ _)
  refine R_if_lt (t := 16) dX2_has_1 rfl (fun c1 => ?_) (fun c1 => ?_)
  · refine R_iconst dX2_has_16 (?_ : RR _ _ _ _ 17 _ _ _ _)
    exact R_ireturn dX2_has_17 (by first | exact Or.inl rfl | exact Or.inr rfl | exact ok_ite | omega | assumption) (by first | rwa [if_pos (by omega)] at hQ | rwa [if_neg (by omega)] at hQ)
  · refine R_iload_n dX2_has_4 rfl (?_ : RR _ _ _ _ 5 _ _ _ _)
    refine R_aload_n dX2_has_5 rfl (?_ : RR _ _ _ _ 6 _ _ _ _)
    refine R_geti (z := 0) dX2_has_6 flX2_18 cok_2 rfl (by decide) rfl (fun q6 => (?_ : RR _ _ _ _ 9 _ _ _ _))
    refine R_icmp_ge (t := 16) dX2_has_9 rfl (fun c9 => ?_) (fun c9 => ?_)
    · refine R_iconst dX2_has_16 (?_ : RR _ _ _ _ 17 _ _ _ _)
      exact R_ireturn dX2_has_17 (by first | exact Or.inl rfl | exact Or.inr rfl | exact ok_ite | omega | assumption) (by first | rwa [if_pos (by omega)] at hQ | rwa [if_neg (by omega)] at hQ)
    · refine R_iconst dX2_has_12 (?_ : RR _ _ _ _ 13 _ _ _ _)
      refine R_goto (t := 17) dX2_has_13 rfl (?_ : RR _ _ _ _ 17 _ _ _ _)
      exact R_ireturn dX2_has_17 (by first | exact Or.inl rfl | exact Or.inr rfl | exact ok_ite | omega | assumption) (by first | rwa [if_pos (by omega)] at hQ | rwa [if_neg (by omega)] at hQ)
/-! nets -/
abbrev isNet (t : Nat) : Prop := shp0[t]? = some (0, 0) ∧ rf0 t 1 = some (t + 1) ∧ rf0 t 2 = some (t + 2) ∧ rf0 t 3 = some (t + 3) ∧ shp0[t + 1]? = some (100, 18) ∧ shp0[t + 2]? = some (100, 18) ∧ shp0[t + 3]? = some (100, 81)
theorem isNet_3 : isNet 3 := ⟨rfl, rfl, rfl, rfl, rfl, rfl, rfl⟩
theorem isNet_7 : isNet 7 := ⟨rfl, rfl, rfl, rfl, rfl, rfl, rfl⟩
theorem T_X0_has {t : Nat} {c : Int} {h : Nat → Int → Int} (ht : isNet t := by assumption) (hc : r32 c := by omega) : MT mX0_has 0 [pR t, pI c] h (some (pI (if 0 ≤ c ∧ c < h t 0 then 1 else 0))) h := by
  obtain ⟨t0, t1, t2, t3, t4, t5, t6⟩ := ht
  refine MT.of (fun Q hQ => (?_ : RR mX0_has _ _ _ _ [pR t, pI c] _ _ _))
  refine R_iload_n dX0_has_0 rfl (?_ : RR _ _ _ _ 1 _ _ _ _)
  refine R_if_lt (t := 16) dX0_has_1 rfl (fun c1 => ?_) (fun c1 => ?_)
  · refine R_iconst dX0_has_16 (?_ : RR _ _ _ _ 17 _ _ _ _)
    exact R_ireturn dX0_has_17 (by first | exact Or.inl rfl | exact Or.inr rfl | exact ok_ite | omega | assumption) (by first | rwa [if_pos (by omega)] at hQ | rwa [if_neg (by omega)] at hQ)
  · refine R_iload_n dX0_has_4 rfl (?_ : RR _ _ _ _ 5 _ _ _ _)
    refine R_aload_n dX0_has_5 rfl (?_ : RR _ _ _ _ 6 _ _ _ _)
    refine R_geti (z := 0) dX0_has_6 flX0_9 cok_0 rfl (by decide) rfl (fun q6 => (?_ : RR _ _ _ _ 9 _ _ _ _))
    refine R_icmp_ge (t := 16) dX0_has_9 rfl (fun c9 => ?_) (fun c9 => ?_)
    · refine R_iconst dX0_has_16 (?_ : RR _ _ _ _ 17 _ _ _ _)
      exact R_ireturn dX0_has_17 (by first | exact Or.inl rfl | exact Or.inr rfl | exact ok_ite | omega | assumption) (by first | rwa [if_pos (by omega)] at hQ | rwa [if_neg (by omega)] at hQ)
    · refine R_iconst dX0_has_12 (?_ : RR _ _ _ _ 13 _ _ _ _)
      refine R_goto (t := 17) dX0_has_13 rfl (?_ : RR _ _ _ _ 17 _ _ _ _)
      exact R_ireturn dX0_has_17 (by first | exact Or.inl rfl | exact Or.inr rfl | exact ok_ite | omega | assumption) (by first | rwa [if_pos (by omega)] at hQ | rwa [if_neg (by omega)] at hQ)
theorem T_X0_between {t : Nat} {a b : Int} {h : Nat → Int → Int} (ht : isNet t := by assumption) (ha : 0 ≤ a ∧ a < 9 := by omega) (hb : 0 ≤ b ∧ b < 9 := by omega) : MT mX0_between 0 [pR t, pI a, pI b] h (some (pI (h (t + 3) (a * 9 + b)))) h := by
  obtain ⟨t0, t1, t2, t3, t4, t5, t6⟩ := ht
  refine MT.of (fun Q hQ => (?_ : RR mX0_between _ _ _ _ [pR t, pI a, pI b] _ _ _))
  refine R_aload_n dX0_between_0 rfl (?_ : RR _ _ _ _ 1 _ _ _ _)
  refine R_getr dX0_between_1 flX0_22 cok_0 rfl (by decide) (?_ : RR _ _ _ _ 4 _ _ _ _)
  refine R_iload_n dX0_between_4 rfl (?_ : RR _ _ _ _ 5 _ _ _ _)
  refine R_bipush dX0_between_5 rfl (?_ : RR _ _ _ _ 7 _ _ _ _)
  refine R_imul dX0_between_7 (?_ : RR _ _ _ _ 8 _ _ _ _)
  refine R_iload_n dX0_between_8 rfl (?_ : RR _ _ _ _ 9 _ _ _ _)
  refine R_iadd dX0_between_9 (?_ : RR _ _ _ _ 10 _ _ _ _)
  refine R_iald dX0_between_10 (fun q10 => (?_ : RR _ _ _ _ 11 _ _ _ _))
  exact R_ireturn dX0_between_11 trivial hQ
