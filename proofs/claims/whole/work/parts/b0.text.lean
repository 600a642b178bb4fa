/-! the reference's reading of the text -/
section TX
variable {h h1 : Nat → Int → Int}
theorem T_X12_begins {m : Int} {n : Nat} (hn : h 147 15 = n) (hn80 : n ≤ 80) (hm : 0 ≤ m ∧ m ≤ 1000) : MT mX12_begins 1 [pR 147, pI m] h (some (pI n)) (rup h 147 (fup (fup (fup (fup (h 147) 15 0) 16 0) 18 0) 17 (min (n : Int) m))) := by
  refine MT.of (fun Q hQ => (?_ : RR mX12_begins _ _ _ _ [pR 147, pI m, pU] _ _ _))
  refine R_aload_n dX12_begins_0 rfl (?_ : RR _ _ _ _ 1 _ _ _ _)
  refine R_geti (z := 15) dX12_begins_1 flX12_148 cok_12 rfl (by decide) rfl (fun q1 => (?_ : RR _ _ _ _ 4 _ _ _ _))
  try simp (disch := omega) only [rup_rup, rup_sort, rupS_def, rup_s, rup_n, fup_fup, fup_s, fup_n, hn] at q1 ⊢
  refine R_istore_n dX12_begins_4 (Nat.le_of_ble_eq_true rfl) (?_ : RR _ _ _ _ 5 [_, _, _] _ _ _)
  refine R_aload_n dX12_begins_5 rfl (?_ : RR _ _ _ _ 6 _ _ _ _)
  refine R_iconst dX12_begins_6 (?_ : RR _ _ _ _ 7 _ _ _ _)
  refine R_puti (zk := 15) dX12_begins_7 flX12_148 cok_12 (by decide) (fun q hq => by cases hq; rfl) rfl (?_ : RR _ _ _ _ 10 _ _ _ _)
  try simp (disch := omega) only [rup_rup, rup_sort, rupS_def, rup_s, rup_n, fup_fup, fup_s, fup_n, hn]
  refine R_aload_n dX12_begins_10 rfl (?_ : RR _ _ _ _ 11 _ _ _ _)
  refine R_iconst dX12_begins_11 (?_ : RR _ _ _ _ 12 _ _ _ _)
  refine R_puti (zk := 16) dX12_begins_12 flX12_151 cok_12 (by decide) (fun q hq => by cases hq; rfl) rfl (?_ : RR _ _ _ _ 15 _ _ _ _)
  try simp (disch := omega) only [rup_rup, rup_sort, rupS_def, rup_s, rup_n, fup_fup, fup_s, fup_n, hn]
  refine R_aload_n dX12_begins_15 rfl (?_ : RR _ _ _ _ 16 _ _ _ _)
  refine R_iconst dX12_begins_16 (?_ : RR _ _ _ _ 17 _ _ _ _)
  refine R_puti (zk := 18) dX12_begins_17 flX12_154 cok_12 (by decide) (fun q hq => by cases hq; rfl) rfl (?_ : RR _ _ _ _ 20 _ _ _ _)
  try simp (disch := omega) only [rup_rup, rup_sort, rupS_def, rup_s, rup_n, fup_fup, fup_s, fup_n, hn]
  refine R_aload_n dX12_begins_20 rfl (?_ : RR _ _ _ _ 21 _ _ _ _)
  refine R_iload_n dX12_begins_21 rfl (?_ : RR _ _ _ _ 22 _ _ _ _)
  refine R_iload_n dX12_begins_22 rfl (?_ : RR _ _ _ _ 23 _ _ _ _)
  refine R_min dX12_begins_23 mmX12_139 (by decide) (Nat.le_of_ble_eq_true rfl) (?_ : RR _ _ _ _ 26 _ _ _ _)
  try simp (disch := omega) only [rup_rup, rup_sort, rupS_def, rup_s, rup_n, fup_fup, fup_s, fup_n, hn]
  refine R_puti (zk := 17) dX12_begins_26 flX12_157 cok_12 (by decide) (fun q hq => by cases hq; rfl) rfl (?_ : RR _ _ _ _ 29 _ _ _ _)
  try simp (disch := omega) only [rup_rup, rup_sort, rupS_def, rup_s, rup_n, fup_fup, fup_s, fup_n, hn]
  refine R_iload_n dX12_begins_29 rfl (?_ : RR _ _ _ _ 30 _ _ _ _)
  exact R_ireturn dX12_begins_30 trivial hQ
theorem T_X12_takes {c : Int} {i n : Nat} (hi : h 147 16 = i) (hn : h 147 17 = n) (hin : i ≤ n) (hn80 : n ≤ 80) (ht : ∀ i : Nat, i < n → 0 ≤ h 156 i ∧ h 156 i ≤ 255) (hc : 0 ≤ c ∧ c ≤ 255) : MT mX12_takes 1 [pR 147, pI c] h (some (pI (if i < n ∧ h 156 i = c then 1 else 0))) (rup h 147 (fup (h 147) 16 (if i < n ∧ h 156 i = c then (i : Int) + 1 else i))) := by
  refine MT.of (fun Q hQ => (?_ : RR mX12_takes _ _ _ _ [pR 147, pI c, pU] _ _ _))
  by_cases q : i < n
  · have hb := ht i q
    by_cases y : h 156 i = c
    · rw [if_pos ⟨q, y⟩, if_pos ⟨q, y⟩] at hQ
      refine R_aload_n dX12_takes_0 rfl (?_ : RR _ _ _ _ 1 _ _ _ _)
      refine R_geti (z := 16) dX12_takes_1 flX12_151 cok_12 rfl (by decide) rfl (fun q1 => (?_ : RR _ _ _ _ 4 _ _ _ _))
      rw [hi] at q1 ⊢
      refine R_aload_n dX12_takes_4 rfl (?_ : RR _ _ _ _ 5 _ _ _ _)
      refine R_geti (z := 17) dX12_takes_5 flX12_157 cok_12 rfl (by decide) rfl (fun q5 => (?_ : RR _ _ _ _ 8 _ _ _ _))
      rw [hn] at q5 ⊢
      refine R_icmp_ge (t := 28) dX12_takes_8 rfl (fun c8 => ?_) (fun c8 => ?_)
      · exfalso; omega
      refine R_aload_n dX12_takes_11 rfl (?_ : RR _ _ _ _ 12 _ _ _ _)
      refine R_getr dX12_takes_12 flX12_39 cok_12 rfl (by decide) (?_ : RR _ _ _ _ 15 _ _ _ _)
      refine R_aload_n dX12_takes_15 rfl (?_ : RR _ _ _ _ 16 _ _ _ _)
      refine R_geti (z := 16) dX12_takes_16 flX12_151 cok_12 rfl (by decide) rfl (fun q16 => (?_ : RR _ _ _ _ 19 _ _ _ _))
      rw [hi] at q16 ⊢
      refine R_iald dX12_takes_19 (fun q19 => (?_ : RR _ _ _ _ 20 _ _ _ _))
      refine R_iload_n dX12_takes_20 rfl (?_ : RR _ _ _ _ 21 _ _ _ _)
      refine R_icmp_ne (t := 28) dX12_takes_21 rfl (fun c21 => ?_) (fun c21 => ?_)
      · exfalso; omega
      refine R_iconst dX12_takes_24 (?_ : RR _ _ _ _ 25 _ _ _ _)
      refine R_goto (t := 29) dX12_takes_25 rfl (?_ : RR _ _ _ _ 29 _ _ _ _)
      refine R_istore_n dX12_takes_29 (Nat.le_of_ble_eq_true rfl) (?_ : RR _ _ _ _ 30 [_, _, _] _ _ _)
      refine R_aload_n dX12_takes_30 rfl (?_ : RR _ _ _ _ 31 _ _ _ _)
      refine R_dup dX12_takes_31 (fun _ => rfl) (?_ : RR _ _ _ _ 32 _ _ _ _)
      refine R_geti (z := 16) dX12_takes_32 flX12_151 cok_12 rfl (by decide) rfl (fun q32 => (?_ : RR _ _ _ _ 35 _ _ _ _))
      rw [hi] at q32 ⊢
      refine R_iload_n dX12_takes_35 rfl (?_ : RR _ _ _ _ 36 _ _ _ _)
      refine R_cSi1 dX12_takes_36 msX12_flag mlX12_134 (by decide) (Nat.le_of_ble_eq_true rfl) (Nat.le_of_ble_eq_true rfl) (T_X12_flag) (?_ : RR _ _ _ _ 39 _ _ _ _)
      refine R_iadd dX12_takes_39 (?_ : RR _ _ _ _ 40 _ _ _ _)
      refine R_puti (zk := 16) dX12_takes_40 flX12_151 cok_12 (by decide) (fun q hq => by cases hq; rfl) rfl (?_ : RR _ _ _ _ 43 _ _ _ _)
      refine R_iload_n dX12_takes_43 rfl (?_ : RR _ _ _ _ 44 _ _ _ _)
      exact R_ireturn dX12_takes_44 (by first | exact Or.inl rfl | exact Or.inr rfl | exact ok_ite | omega) hQ
    · rw [if_neg (fun z => y z.2), if_neg (fun z => y z.2)] at hQ
      refine R_aload_n dX12_takes_0 rfl (?_ : RR _ _ _ _ 1 _ _ _ _)
      refine R_geti (z := 16) dX12_takes_1 flX12_151 cok_12 rfl (by decide) rfl (fun q1 => (?_ : RR _ _ _ _ 4 _ _ _ _))
      rw [hi] at q1 ⊢
      refine R_aload_n dX12_takes_4 rfl (?_ : RR _ _ _ _ 5 _ _ _ _)
      refine R_geti (z := 17) dX12_takes_5 flX12_157 cok_12 rfl (by decide) rfl (fun q5 => (?_ : RR _ _ _ _ 8 _ _ _ _))
      rw [hn] at q5 ⊢
      refine R_icmp_ge (t := 28) dX12_takes_8 rfl (fun c8 => ?_) (fun c8 => ?_)
      · exfalso; omega
      refine R_aload_n dX12_takes_11 rfl (?_ : RR _ _ _ _ 12 _ _ _ _)
      refine R_getr dX12_takes_12 flX12_39 cok_12 rfl (by decide) (?_ : RR _ _ _ _ 15 _ _ _ _)
      refine R_aload_n dX12_takes_15 rfl (?_ : RR _ _ _ _ 16 _ _ _ _)
      refine R_geti (z := 16) dX12_takes_16 flX12_151 cok_12 rfl (by decide) rfl (fun q16 => (?_ : RR _ _ _ _ 19 _ _ _ _))
      rw [hi] at q16 ⊢
      refine R_iald dX12_takes_19 (fun q19 => (?_ : RR _ _ _ _ 20 _ _ _ _))
      refine R_iload_n dX12_takes_20 rfl (?_ : RR _ _ _ _ 21 _ _ _ _)
      refine R_icmp_ne (t := 28) dX12_takes_21 rfl (fun c21 => ?_) (fun c21 => ?_)
      rotate_left
      · exfalso; omega
      refine R_iconst dX12_takes_28 (?_ : RR _ _ _ _ 29 _ _ _ _)
      refine R_istore_n dX12_takes_29 (Nat.le_of_ble_eq_true rfl) (?_ : RR _ _ _ _ 30 [_, _, _] _ _ _)
      refine R_aload_n dX12_takes_30 rfl (?_ : RR _ _ _ _ 31 _ _ _ _)
      refine R_dup dX12_takes_31 (fun _ => rfl) (?_ : RR _ _ _ _ 32 _ _ _ _)
      refine R_geti (z := 16) dX12_takes_32 flX12_151 cok_12 rfl (by decide) rfl (fun q32 => (?_ : RR _ _ _ _ 35 _ _ _ _))
      rw [hi] at q32 ⊢
      refine R_iload_n dX12_takes_35 rfl (?_ : RR _ _ _ _ 36 _ _ _ _)
      refine R_cSi1 dX12_takes_36 msX12_flag mlX12_134 (by decide) (Nat.le_of_ble_eq_true rfl) (Nat.le_of_ble_eq_true rfl) (T_X12_flag) (?_ : RR _ _ _ _ 39 _ _ _ _)
      refine R_iadd dX12_takes_39 (?_ : RR _ _ _ _ 40 _ _ _ _)
      rw [Int.add_zero]
      refine R_puti (zk := 16) dX12_takes_40 flX12_151 cok_12 (by decide) (fun q hq => by cases hq; rfl) rfl (?_ : RR _ _ _ _ 43 _ _ _ _)
      refine R_iload_n dX12_takes_43 rfl (?_ : RR _ _ _ _ 44 _ _ _ _)
      exact R_ireturn dX12_takes_44 (by first | exact Or.inl rfl | exact Or.inr rfl | exact ok_ite | omega) hQ
  · rw [if_neg (fun z => q z.1), if_neg (fun z => q z.1)] at hQ
    refine R_aload_n dX12_takes_0 rfl (?_ : RR _ _ _ _ 1 _ _ _ _)
    refine R_geti (z := 16) dX12_takes_1 flX12_151 cok_12 rfl (by decide) rfl (fun q1 => (?_ : RR _ _ _ _ 4 _ _ _ _))
    rw [hi] at q1 ⊢
    refine R_aload_n dX12_takes_4 rfl (?_ : RR _ _ _ _ 5 _ _ _ _)
    refine R_geti (z := 17) dX12_takes_5 flX12_157 cok_12 rfl (by decide) rfl (fun q5 => (?_ : RR _ _ _ _ 8 _ _ _ _))
    rw [hn] at q5 ⊢
    refine R_icmp_ge (t := 28) dX12_takes_8 rfl (fun c8 => ?_) (fun c8 => ?_)
    rotate_left
    · exfalso; omega
    refine R_iconst dX12_takes_28 (?_ : RR _ _ _ _ 29 _ _ _ _)
    refine R_istore_n dX12_takes_29 (Nat.le_of_ble_eq_true rfl) (?_ : RR _ _ _ _ 30 [_, _, _] _ _ _)
    refine R_aload_n dX12_takes_30 rfl (?_ : RR _ _ _ _ 31 _ _ _ _)
    refine R_dup dX12_takes_31 (fun _ => rfl) (?_ : RR _ _ _ _ 32 _ _ _ _)
    refine R_geti (z := 16) dX12_takes_32 flX12_151 cok_12 rfl (by decide) rfl (fun q32 => (?_ : RR _ _ _ _ 35 _ _ _ _))
    rw [hi] at q32 ⊢
    refine R_iload_n dX12_takes_35 rfl (?_ : RR _ _ _ _ 36 _ _ _ _)
    refine R_cSi1 dX12_takes_36 msX12_flag mlX12_134 (by decide) (Nat.le_of_ble_eq_true rfl) (Nat.le_of_ble_eq_true rfl) (T_X12_flag) (?_ : RR _ _ _ _ 39 _ _ _ _)
    refine R_iadd dX12_takes_39 (?_ : RR _ _ _ _ 40 _ _ _ _)
    rw [Int.add_zero]
    refine R_puti (zk := 16) dX12_takes_40 flX12_151 cok_12 (by decide) (fun q hq => by cases hq; rfl) rfl (?_ : RR _ _ _ _ 43 _ _ _ _)
    refine R_iload_n dX12_takes_43 rfl (?_ : RR _ _ _ _ 44 _ _ _ _)
    exact R_ireturn dX12_takes_44 (by first | exact Or.inl rfl | exact Or.inr rfl | exact ok_ite | omega) hQ
theorem T_X12_signIn {b lo hi0 : Int} {i n : Nat} (hi : h 147 16 = i) (hn : h 147 17 = n) (hin : i ≤ n) (hn80 : n ≤ 80) (ht : ∀ i : Nat, i < n → 0 ≤ h 156 i ∧ h 156 i ≤ 255) (hb : 0 ≤ b ∧ b ≤ 255) (hlo : 0 ≤ lo ∧ lo ≤ 255) (hhi : -1 ≤ hi0 ∧ hi0 ≤ 255) : MT mX12_signIn 1 [pR 147, pI b, pI lo, pI hi0] h (some (pI (if i < n ∧ lo ≤ h 156 i - b ∧ h 156 i - b ≤ hi0 then h 156 i - b else -1))) (rup h 147 (fup (h 147) 16 (if i < n ∧ lo ≤ h 156 i - b ∧ h 156 i - b ≤ hi0 then (i : Int) + 1 else i))) := by
  refine MT.of (fun Q hQ => (?_ : RR mX12_signIn _ _ _ _ [pR 147, pI b, pI lo, pI hi0] _ _ _))
  by_cases q : i < n
  · have hbt := ht i q
    by_cases y : lo ≤ h 156 i - b ∧ h 156 i - b ≤ hi0
    · rw [if_pos ⟨q, y⟩, if_pos ⟨q, y⟩] at hQ
      have e1 : rup h 147 (fup (h 147) 16 ((i : Int) + 1)) 147 16 = (i : Int) + 1 := by rw [rup_s, fup_s]
      have e2 : rup h 147 (fup (h 147) 16 ((i : Int) + 1)) 156 i = h 156 i := by rw [rup_n (by omega)]
      refine R_aload_n dX12_signIn_0 rfl (?_ : RR _ _ _ _ 1 _ _ _ _)
      refine R_geti (z := 16) dX12_signIn_1 flX12_151 cok_12 rfl (by decide) rfl (fun q1 => (?_ : RR _ _ _ _ 4 _ _ _ _))
      rw [hi] at q1 ⊢
      refine R_aload_n dX12_signIn_4 rfl (?_ : RR _ _ _ _ 5 _ _ _ _)
      refine R_geti (z := 17) dX12_signIn_5 flX12_157 cok_12 rfl (by decide) rfl (fun q5 => (?_ : RR _ _ _ _ 8 _ _ _ _))
      rw [hn] at q5 ⊢
      refine R_icmp_ge (t := 33) dX12_signIn_8 rfl (fun c8 => ?_) (fun c8 => ?_)
      · exfalso; omega
      refine R_aload_n dX12_signIn_11 rfl (?_ : RR _ _ _ _ 12 _ _ _ _)
      refine R_getr dX12_signIn_12 flX12_39 cok_12 rfl (by decide) (?_ : RR _ _ _ _ 15 _ _ _ _)
      refine R_aload_n dX12_signIn_15 rfl (?_ : RR _ _ _ _ 16 _ _ _ _)
      refine R_geti (z := 16) dX12_signIn_16 flX12_151 cok_12 rfl (by decide) rfl (fun q16 => (?_ : RR _ _ _ _ 19 _ _ _ _))
      rw [hi] at q16 ⊢
      refine R_iald dX12_signIn_19 (fun q19 => (?_ : RR _ _ _ _ 20 _ _ _ _))
      refine R_iload_n dX12_signIn_20 rfl (?_ : RR _ _ _ _ 21 _ _ _ _)
      refine R_isub dX12_signIn_21 (?_ : RR _ _ _ _ 22 _ _ _ _)
      refine R_i2l dX12_signIn_22 (by first | assumption | omega) (?_ : RR _ _ _ _ 23 _ _ _ _)
      refine R_iload_n dX12_signIn_23 rfl (?_ : RR _ _ _ _ 24 _ _ _ _)
      refine R_i2l dX12_signIn_24 (by first | assumption | omega) (?_ : RR _ _ _ _ 25 _ _ _ _)
      refine R_iload_n dX12_signIn_25 rfl (?_ : RR _ _ _ _ 26 _ _ _ _)
      refine R_i2l dX12_signIn_26 (by first | assumption | omega) (?_ : RR _ _ _ _ 27 _ _ _ _)
      refine R_cSi3 dX12_signIn_27 msX12_in mlX12_120 (by decide) (Nat.le_of_ble_eq_true rfl) (Nat.le_of_ble_eq_true rfl) (T_X12_in) (?_ : RR _ _ _ _ 30 _ _ _ _)
      rw [if_pos y]
      refine R_if_ne (t := 35) dX12_signIn_30 rfl (fun c30 => ?_) (fun c30 => ?_)
      rotate_left
      · exfalso; omega
      refine R_aload_n dX12_signIn_35 rfl (?_ : RR _ _ _ _ 36 _ _ _ _)
      refine R_dup dX12_signIn_36 (fun _ => rfl) (?_ : RR _ _ _ _ 37 _ _ _ _)
      refine R_geti (z := 16) dX12_signIn_37 flX12_151 cok_12 rfl (by decide) rfl (fun q37 => (?_ : RR _ _ _ _ 40 _ _ _ _))
      rw [hi] at q37 ⊢
      refine R_iconst dX12_signIn_40 (?_ : RR _ _ _ _ 41 _ _ _ _)
      refine R_iadd dX12_signIn_41 (?_ : RR _ _ _ _ 42 _ _ _ _)
      refine R_puti (zk := 16) dX12_signIn_42 flX12_151 cok_12 (by decide) (fun q hq => by cases hq; rfl) rfl (?_ : RR _ _ _ _ 45 _ _ _ _)
      refine R_aload_n dX12_signIn_45 rfl (?_ : RR _ _ _ _ 46 _ _ _ _)
      refine R_getr dX12_signIn_46 flX12_39 cok_12 rfl (by decide) (?_ : RR _ _ _ _ 49 _ _ _ _)
      refine R_aload_n dX12_signIn_49 rfl (?_ : RR _ _ _ _ 50 _ _ _ _)
      refine R_geti (z := 16) dX12_signIn_50 flX12_151 cok_12 rfl (by decide) rfl (fun q50 => (?_ : RR _ _ _ _ 53 _ _ _ _))
      rw [e1] at q50 ⊢
      refine R_iconst dX12_signIn_53 (?_ : RR _ _ _ _ 54 _ _ _ _)
      refine R_isub dX12_signIn_54 (?_ : RR _ _ _ _ 55 _ _ _ _)
      rw [show (i : Int) + 1 - 1 = i by omega]
      refine R_iald dX12_signIn_55 (fun q55 => (?_ : RR _ _ _ _ 56 _ _ _ _))
      rw [e2] at q55 ⊢
      refine R_iload_n dX12_signIn_56 rfl (?_ : RR _ _ _ _ 57 _ _ _ _)
      refine R_isub dX12_signIn_57 (?_ : RR _ _ _ _ 58 _ _ _ _)
      exact R_ireturn dX12_signIn_58 trivial hQ
    · rw [if_neg (fun z => y z.2), if_neg (fun z => y z.2), ← hi, fup_self, rup_self] at hQ
      refine R_aload_n dX12_signIn_0 rfl (?_ : RR _ _ _ _ 1 _ _ _ _)
      refine R_geti (z := 16) dX12_signIn_1 flX12_151 cok_12 rfl (by decide) rfl (fun q1 => (?_ : RR _ _ _ _ 4 _ _ _ _))
      rw [hi] at q1 ⊢
      refine R_aload_n dX12_signIn_4 rfl (?_ : RR _ _ _ _ 5 _ _ _ _)
      refine R_geti (z := 17) dX12_signIn_5 flX12_157 cok_12 rfl (by decide) rfl (fun q5 => (?_ : RR _ _ _ _ 8 _ _ _ _))
      rw [hn] at q5 ⊢
      refine R_icmp_ge (t := 33) dX12_signIn_8 rfl (fun c8 => ?_) (fun c8 => ?_)
      · exfalso; omega
      refine R_aload_n dX12_signIn_11 rfl (?_ : RR _ _ _ _ 12 _ _ _ _)
      refine R_getr dX12_signIn_12 flX12_39 cok_12 rfl (by decide) (?_ : RR _ _ _ _ 15 _ _ _ _)
      refine R_aload_n dX12_signIn_15 rfl (?_ : RR _ _ _ _ 16 _ _ _ _)
      refine R_geti (z := 16) dX12_signIn_16 flX12_151 cok_12 rfl (by decide) rfl (fun q16 => (?_ : RR _ _ _ _ 19 _ _ _ _))
      rw [hi] at q16 ⊢
      refine R_iald dX12_signIn_19 (fun q19 => (?_ : RR _ _ _ _ 20 _ _ _ _))
      refine R_iload_n dX12_signIn_20 rfl (?_ : RR _ _ _ _ 21 _ _ _ _)
      refine R_isub dX12_signIn_21 (?_ : RR _ _ _ _ 22 _ _ _ _)
      refine R_i2l dX12_signIn_22 (by first | assumption | omega) (?_ : RR _ _ _ _ 23 _ _ _ _)
      refine R_iload_n dX12_signIn_23 rfl (?_ : RR _ _ _ _ 24 _ _ _ _)
      refine R_i2l dX12_signIn_24 (by first | assumption | omega) (?_ : RR _ _ _ _ 25 _ _ _ _)
      refine R_iload_n dX12_signIn_25 rfl (?_ : RR _ _ _ _ 26 _ _ _ _)
      refine R_i2l dX12_signIn_26 (by first | assumption | omega) (?_ : RR _ _ _ _ 27 _ _ _ _)
      refine R_cSi3 dX12_signIn_27 msX12_in mlX12_120 (by decide) (Nat.le_of_ble_eq_true rfl) (Nat.le_of_ble_eq_true rfl) (T_X12_in) (?_ : RR _ _ _ _ 30 _ _ _ _)
      rw [if_neg y]
      refine R_if_ne (t := 35) dX12_signIn_30 rfl (fun c30 => ?_) (fun c30 => ?_)
      · exfalso; omega
      refine R_iconst dX12_signIn_33 (?_ : RR _ _ _ _ 34 _ _ _ _)
      exact R_ireturn dX12_signIn_34 trivial hQ
  · rw [if_neg (fun z => q z.1), if_neg (fun z => q z.1), ← hi, fup_self, rup_self] at hQ
    refine R_aload_n dX12_signIn_0 rfl (?_ : RR _ _ _ _ 1 _ _ _ _)
    refine R_geti (z := 16) dX12_signIn_1 flX12_151 cok_12 rfl (by decide) rfl (fun q1 => (?_ : RR _ _ _ _ 4 _ _ _ _))
    rw [hi] at q1 ⊢
    refine R_aload_n dX12_signIn_4 rfl (?_ : RR _ _ _ _ 5 _ _ _ _)
    refine R_geti (z := 17) dX12_signIn_5 flX12_157 cok_12 rfl (by decide) rfl (fun q5 => (?_ : RR _ _ _ _ 8 _ _ _ _))
    rw [hn] at q5 ⊢
    refine R_icmp_ge (t := 33) dX12_signIn_8 rfl (fun c8 => ?_) (fun c8 => ?_)
    rotate_left
    · exfalso; omega
    refine R_iconst dX12_signIn_33 (?_ : RR _ _ _ _ 34 _ _ _ _)
    exact R_ireturn dX12_signIn_34 trivial hQ
theorem T_X12_came {n k : Nat} (hn : h 147 20 = n) (hn80 : n ≤ 80) (hk : 0 ≤ h 147 6 ∧ h 147 6 ≤ 100000) : MT mX12_came 0 [pR 147] h (some (pI n)) (if 0 < n then rup h 147 (fup (fup (h 147) 28 0) 6 (h 147 6 + 1)) else h) := by
  refine MT.of (fun Q hQ => (?_ : RR mX12_came _ _ _ _ [pR 147] _ _ _))
  by_cases q : 0 < n
  · rw [if_pos q] at hQ
    refine R_aload_n dX12_came_0 rfl (?_ : RR _ _ _ _ 1 _ _ _ _)
    refine R_geti (z := 20) dX12_came_1 flX12_214 cok_12 rfl (by decide) rfl (fun q1 => (?_ : RR _ _ _ _ 4 _ _ _ _))
    try simp (disch := omega) only [rup_rup, rup_sort, rupS_def, rup_s, rup_n, fup_fup, fup_s, fup_n, hn] at q1 ⊢
    refine R_if_le (t := 22) dX12_came_4 rfl (fun c4 => ?_) (fun c4 => ?_)
    · exfalso; omega
    refine R_aload_n dX12_came_7 rfl (?_ : RR _ _ _ _ 8 _ _ _ _)
    refine R_iconst dX12_came_8 (?_ : RR _ _ _ _ 9 _ _ _ _)
    refine R_puti (zk := 28) dX12_came_9 flX12_208 cok_12 (by decide) (fun q hq => by cases hq; rfl) rfl (?_ : RR _ _ _ _ 12 _ _ _ _)
    try simp (disch := omega) only [rup_rup, rup_sort, rupS_def, rup_s, rup_n, fup_fup, fup_s, fup_n, hn]
    refine R_aload_n dX12_came_12 rfl (?_ : RR _ _ _ _ 13 _ _ _ _)
    refine R_dup dX12_came_13 (fun _ => rfl) (?_ : RR _ _ _ _ 14 _ _ _ _)
    refine R_geti (z := 6) dX12_came_14 flX12_211 cok_12 rfl (by decide) rfl (fun q14 => (?_ : RR _ _ _ _ 17 _ _ _ _))
    try simp (disch := omega) only [rup_rup, rup_sort, rupS_def, rup_s, rup_n, fup_fup, fup_s, fup_n, hn] at q14 ⊢
    refine R_iconst dX12_came_17 (?_ : RR _ _ _ _ 18 _ _ _ _)
    refine R_iadd dX12_came_18 (?_ : RR _ _ _ _ 19 _ _ _ _)
    refine R_puti (zk := 6) dX12_came_19 flX12_211 cok_12 (by decide) (fun q hq => by cases hq; rfl) rfl (?_ : RR _ _ _ _ 22 _ _ _ _)
    try simp (disch := omega) only [rup_rup, rup_sort, rupS_def, rup_s, rup_n, fup_fup, fup_s, fup_n, hn]
    refine R_aload_n dX12_came_22 rfl (?_ : RR _ _ _ _ 23 _ _ _ _)
    refine R_geti (z := 20) dX12_came_23 flX12_214 cok_12 rfl (by decide) rfl (fun q23 => (?_ : RR _ _ _ _ 26 _ _ _ _))
    try simp (disch := omega) only [rup_rup, rup_sort, rupS_def, rup_s, rup_n, fup_fup, fup_s, fup_n, hn] at q23 ⊢
    exact R_ireturn dX12_came_26 trivial hQ
  · rw [if_neg q] at hQ
    refine R_aload_n dX12_came_0 rfl (?_ : RR _ _ _ _ 1 _ _ _ _)
    refine R_geti (z := 20) dX12_came_1 flX12_214 cok_12 rfl (by decide) rfl (fun q1 => (?_ : RR _ _ _ _ 4 _ _ _ _))
    try simp (disch := omega) only [rup_rup, rup_sort, rupS_def, rup_s, rup_n, fup_fup, fup_s, fup_n, hn] at q1 ⊢
    refine R_if_le (t := 22) dX12_came_4 rfl (fun c4 => ?_) (fun c4 => ?_)
    rotate_left
    · exfalso; omega
    refine R_aload_n dX12_came_22 rfl (?_ : RR _ _ _ _ 23 _ _ _ _)
    refine R_geti (z := 20) dX12_came_23 flX12_214 cok_12 rfl (by decide) rfl (fun q23 => (?_ : RR _ _ _ _ 26 _ _ _ _))
    try simp (disch := omega) only [rup_rup, rup_sort, rupS_def, rup_s, rup_n, fup_fup, fup_s, fup_n, hn] at q23 ⊢
    exact R_ireturn dX12_came_26 trivial hQ
/-- a first fault, or none -/
theorem fst_bad (P : Nat → Prop) [DecidablePred P] : ∀ n : Nat, (∀ i, i < n → P i) ∨ ∃ i, i < n ∧ ¬ P i ∧ ∀ j, j < i → P j
  | 0 => Or.inl (fun i hi => by omega)
  | n + 1 => by
    rcases fst_bad P n with h | ⟨i, h1, h2, h3⟩
    · by_cases q : P n
      · exact Or.inl (fun i hi => by
          by_cases z : i = n
          · rw [z]; exact q
          · exact h i (by omega))
      · exact Or.inr ⟨n, by omega, q, h⟩
    · exact Or.inr ⟨i, by omega, h2, h3⟩
end TX
