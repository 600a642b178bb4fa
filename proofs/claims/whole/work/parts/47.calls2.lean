section CT
variable {k : Nat} {h : Nat → Int → Int} {sem : Sem} {H np nc len n : Nat} {v : Int}
theorem A_sign (hs : SRx k h sem H np nc len) (hv : r32 v) : AG mX11_sign mX12_sign 1 0 [pI v] k h := by
  obtain ⟨n, n1, n2, n3, n4⟩ := hs.2.1
  by_cases q : n ≤ 76
  · refine AG_det (T_X11_sign_yes n1 q hv) (T_X12_sign_yes (by simp (disch := omega) only [rup_n]; exact n2) q hv) ?_
    simp (disch := omega) only [rup_n]
    refine SR_t hs ⟨fun a q1 q2 => by rw [rup_n (by omega), rup_n (by omega), rup_n (by omega), rup_n (by omega)], fun j q1 q2 => by rw [rup_n (by omega), rup_s, fup_n (by omega), fup_n (by omega)], fun q => by rw [rup_n (by omega), rup_s, fup_n (by omega), fup_n (by omega)]; exact q, fun j q => by rw [rup_n (by omega), rup_n (by omega), rup_n (by omega), rup_n (by omega)]⟩ ⟨n + 4, ?_, ?_, by omega, fun i hi => ?_⟩ (SD_same hs.2.2.1 ?_ ?_ ?_ ?_)
    · simp (disch := omega) only [rup_n, rup_s, fup_s]; omega
    · simp (disch := omega) only [rup_n, rup_s, fup_s]; rfl
    · rw [rup_s, rup_n (by omega), rup_n (by omega), rup_s]
      have b0 := by_s (v := v) (s := 24) (by omega)
      have b1 := by_s (v := v) (s := 16) (by omega)
      have b2 := by_s (v := v) (s := 8) (by omega)
      have b3 := by_s (v := v) (s := 0) (by omega)
      have r0 := by_b (v := iShr v 24)
      have r1 := by_b (v := iShr v 16)
      have r2 := by_b (v := iShr v 8)
      have r3 := by_b (v := iShr v 0)
      by_cases i0 : i < n
      · simp (disch := omega) only [fup_n]
        exact n4 i i0
      · have : i = n ∨ i = n + 1 ∨ i = n + 2 ∨ i = n + 3 := by omega
        rcases this with rfl | rfl | rfl | rfl
        · rw [show ((i : Int) + 0) = i by omega]
          simp (disch := omega) only [fup_n, fup_s]
          exact ⟨b0, r0⟩
        · rw [show ((n + 1 : Nat) : Int) = (n : Int) + 1 from rfl, show (n : Int) + (0 + 1) = n + 1 by omega]
          simp (disch := omega) only [fup_n, fup_s]
          exact ⟨b1, r1⟩
        · rw [show ((n + 2 : Nat) : Int) = (n : Int) + 1 + 1 by omega, show (n : Int) + (0 + 1 + 1) = n + 1 + 1 by omega]
          simp (disch := omega) only [fup_n, fup_s]
          exact ⟨b2, r2⟩
        · rw [show ((n + 3 : Nat) : Int) = (n : Int) + 1 + 1 + 1 by omega, show (n : Int) + (0 + 1 + 1 + 1) = n + 1 + 1 + 1 by omega]
          simp (disch := omega) only [fup_n, fup_s]
          exact ⟨b3, r3⟩
    · simp (disch := omega) only [rup_n]
    · simp (disch := omega) only [rup_n, rup_s, fup_n]
    · simp (disch := omega) only [rup_n]
    · simp (disch := omega) only [rup_n]
  · exact AG_det (T_X11_sign_no (by omega)) (T_X12_sign_no (by omega)) (SR_thr hs)
/-! what was seen -/
theorem T_X11_forget : MT mX11_forget 1 [pR 0] h (some (pI (h 138 0))) (rup (rup h 138 (fup (fup (h 138) 0 0) 1 0)) 139 (fil 511 (h 139) 13)) := by
  refine MT.of (fun Q hQ => (?_ : RR mX11_forget _ _ _ _ [pR 0, pU] _ _ _))
  refine R_aload_n dX11_forget_0 rfl (?_ : RR _ _ _ _ 1 _ _ _ _)
  refine R_getr dX11_forget_1 flX11_73 cok_11 rfl (by decide) (?_ : RR _ _ _ _ 4 _ _ _ _)
  refine R_geti (z := 0) dX11_forget_4 flX11_369 cok_6 rfl (by decide) rfl (fun q4 => (?_ : RR _ _ _ _ 7 _ _ _ _))
  refine R_istore_n dX11_forget_7 (Nat.le_of_ble_eq_true rfl) (?_ : RR _ _ _ _ 8 [_, _] _ _ _)
  refine R_aload_n dX11_forget_8 rfl (?_ : RR _ _ _ _ 9 _ _ _ _)
  refine R_getr dX11_forget_9 flX11_73 cok_11 rfl (by decide) (?_ : RR _ _ _ _ 12 _ _ _ _)
  refine R_cVv0 dX11_forget_12 mvX6_clear mlX11_119 (by decide) (by decide) (Nat.le_of_ble_eq_true rfl) (Nat.le_of_ble_eq_true rfl) (T_X6_clear) (?_ : RR _ _ _ _ 15 _ _ _ _)
  refine R_iload_n dX11_forget_15 rfl (?_ : RR _ _ _ _ 16 _ _ _ _)
  exact R_ireturn dX11_forget_16 trivial hQ
theorem T_X12_forget : MT mX12_forget 0 [pR 147] h (some (pI (h 147 40))) (rup h 147 (fup (fup (h 147) 0 0) 40 0)) := by
  refine MT.of (fun Q hQ => (?_ : RR mX12_forget _ _ _ _ [pR 147, pU] _ _ _))
  refine R_aload_n dX12_forget_0 rfl (?_ : RR _ _ _ _ 1 _ _ _ _)
  refine R_iconst dX12_forget_1 (?_ : RR _ _ _ _ 2 _ _ _ _)
  refine R_puti (zk := 0) dX12_forget_2 flX12_106 cok_12 (by decide) (fun q hq => by cases hq; rfl) rfl (?_ : RR _ _ _ _ 5 _ _ _ _)
  try simp (disch := omega) only [rup_rup, rup_sort, rupS_def, rup_s, rup_n, fup_fup, fup_s, fup_n]
  refine R_aload_n dX12_forget_5 rfl (?_ : RR _ _ _ _ 6 _ _ _ _)
  refine R_geti (z := 40) dX12_forget_6 flX12_205 cok_12 rfl (by decide) rfl (fun q6 => (?_ : RR _ _ _ _ 9 _ _ _ _))
  try simp (disch := omega) only [rup_rup, rup_sort, rupS_def, rup_s, rup_n, fup_fup, fup_s, fup_n] at q6 ⊢
  refine R_istore_n dX12_forget_9 (Nat.le_of_ble_eq_true rfl) (?_ : RR _ _ _ _ 10 [_, _] _ _ _)
  refine R_aload_n dX12_forget_10 rfl (?_ : RR _ _ _ _ 11 _ _ _ _)
  refine R_iconst dX12_forget_11 (?_ : RR _ _ _ _ 12 _ _ _ _)
  refine R_puti (zk := 40) dX12_forget_12 flX12_205 cok_12 (by decide) (fun q hq => by cases hq; rfl) rfl (?_ : RR _ _ _ _ 15 _ _ _ _)
  try simp (disch := omega) only [rup_rup, rup_sort, rupS_def, rup_s, rup_n, fup_fup, fup_s, fup_n]
  refine R_iload_n dX12_forget_15 rfl (?_ : RR _ _ _ _ 16 _ _ _ _)
  exact R_ireturn dX12_forget_16 trivial hQ
theorem b511 : ∀ c : Nat, c < 9 → (511 : Nat).testBit c = true := by decide
theorem A_forget (hs : SRx k h sem H np nc len) : AG mX11_forget mX12_forget 1 0 [] k h := by
  obtain ⟨N, n1, n2, n3, n4, n5, n6⟩ := hs.2.2.2.2.1
  have hc := T_X11_forget (h := h)
  rw [n1] at hc
  have hm := T_X12_forget (h := rup (rup h 138 (fup (fup (h 138) 0 0) 1 0)) 139 (fil 511 (h 139) 13))
  simp (disch := omega) only [rup_n] at hm
  rw [n2] at hm
  refine AG_det hc hm (SR_s hs ⟨fun a q1 q2 => by rw [rup_n (by omega), rup_n (by omega), rup_n (by omega)], fun j q1 q2 => by rw [rup_s, fup_n (by omega), fup_n (by omega)], fun q => by rw [rup_s, fup_n (by omega), fup_n (by omega)]; exact q, fun j q => by rw [rup_n (by omega), rup_n (by omega), rup_n (by omega)]⟩ ⟨0, ?_, ?_, by omega, fun i hi => by omega, ?_, fun c hc => ⟨511, by omega, ?_, fun c hc => b511 c hc⟩⟩ (SD_same hs.2.2.1 ?_ ?_ ?_ ?_))
  · simp (disch := omega) only [rup_n, rup_s, fup_n, fup_s]; rfl
  · simp (disch := omega) only [rup_s, fup_s]; rfl
  · simp (disch := omega) only [rup_n, rup_s, fup_n, fup_s]; rfl
  · simp (disch := omega) only [rup_n, rup_s]
    unfold fil
    rw [if_pos (by omega)]
    rfl
  · simp (disch := omega) only [rup_n]
  · simp (disch := omega) only [rup_s, fup_n]
  · simp (disch := omega) only [rup_n]
  · simp (disch := omega) only [rup_n]
/-! undo, keep, again -/
def sgm (b : Int) (r f : Int → Int) (n : Nat) : Int → Int := fun j => if 0 ≤ j ∧ j < n then r (b + j) else f j
theorem sgm_0 {b : Int} {r f : Int → Int} : sgm b r f 0 = f := by
  funext j
  unfold sgm
  rw [if_neg (by omega)]
theorem sgm_s {b : Int} {r f : Int → Int} {n : Nat} : fup (sgm b r f n) n (r (b + n)) = sgm b r f (n + 1) := by
  funext j
  unfold fup sgm
  by_cases hj : j = n
  · rw [if_pos hj, if_pos (by omega), hj]
  · rw [if_neg hj]
    by_cases h2 : 0 ≤ j ∧ j < n
    · rw [if_pos h2, if_pos (by omega)]
    · rw [if_neg h2, if_neg (by omega)]
theorem sgm_E {b : Int} {r f : Int → Int} : fE (sgm b r f 26) (fun z => r (b + z)) := fun i i0 i1 => if_pos (by omega)
/-- a row laid into another from b on -/
def put (b : Int) (r f : Int → Int) (n : Nat) : Int → Int := fun j => if b ≤ j ∧ j < b + n then r (j - b) else f j
theorem put_0 {b : Int} {r f : Int → Int} : put b r f 0 = f := by
  funext j
  unfold put
  rw [if_neg (by omega)]
theorem put_s {b : Int} {r f : Int → Int} {n : Nat} : fup (put b r f n) (b + n) (r n) = put b r f (n + 1) := by
  funext j
  unfold fup put
  by_cases hj : j = b + n
  · rw [if_pos hj, if_pos (by omega), hj]
    congr 1
    omega
  · rw [if_neg hj]
    by_cases h2 : b ≤ j ∧ j < b + n
    · rw [if_pos h2, if_pos (by omega)]
    · rw [if_neg h2, if_neg (by omega)]
theorem put_in {b : Int} {r f : Int → Int} {n : Nat} {i : Int} (h0 : 0 ≤ i) (h1 : i < n) : put b r f n (b + i) = r i := by
  unfold put
  rw [if_pos (by omega)]
  congr 1
  omega
theorem put_out {b : Int} {r f : Int → Int} {n : Nat} {j : Int} (hj : ¬ (b ≤ j ∧ j < b + n)) : put b r f n j = f j := if_neg hj
theorem T_X12_putsBy {U : Nat} (hU : h 147 28 = U) (hU15 : U ≤ 15) : MT mX12_putsBy 0 [pR 147] h none (rup h 163 (put (26 * U) (h 154) (h 163) 26)) := by
  refine MT.of (fun Q hQ => (?_ : RR mX12_putsBy _ _ _ _ [pR 147, pU] _ _ _))
  have L : ∀ k i : Nat, i + k = 26 → RR mX12_putsBy 0 0 0 2 [pR 147, pI i] [] (shp0, rf0, rup h 163 (put (26 * U) (h 154) (h 163) i)) Q := by
    intro k
    induction k with
    | zero =>
      intro i hi 
      obtain rfl : i = 26 := by omega
      refine R_iload_n dX12_putsBy_2 rfl (?_ : RR _ _ _ _ 3 _ _ _ _)
      refine R_bipush dX12_putsBy_3 rfl (?_ : RR _ _ _ _ 5 _ _ _ _)
      refine R_icmp_ge (t := 34) dX12_putsBy_5 rfl (fun c5 => ?_) (fun c5 => ?_)
      rotate_left
      · exfalso; omega
      exact R_return dX12_putsBy_34 trivial hQ
    | succ k ih =>
      intro i hi 
      refine R_iload_n dX12_putsBy_2 rfl (?_ : RR _ _ _ _ 3 _ _ _ _)
      refine R_bipush dX12_putsBy_3 rfl (?_ : RR _ _ _ _ 5 _ _ _ _)
      refine R_icmp_ge (t := 34) dX12_putsBy_5 rfl (fun c5 => ?_) (fun c5 => ?_)
      · exfalso; omega
      refine R_aload_n dX12_putsBy_8 rfl (?_ : RR _ _ _ _ 9 _ _ _ _)
      refine R_getr dX12_putsBy_9 flX12_60 cok_12 rfl (by decide) (?_ : RR _ _ _ _ 12 _ _ _ _)
      refine R_bipush dX12_putsBy_12 rfl (?_ : RR _ _ _ _ 14 _ _ _ _)
      refine R_aload_n dX12_putsBy_14 rfl (?_ : RR _ _ _ _ 15 _ _ _ _)
      refine R_geti (z := 28) dX12_putsBy_15 flX12_208 cok_12 rfl (by decide) rfl (fun q15 => (?_ : RR _ _ _ _ 18 _ _ _ _))
      try simp (disch := omega) only [rup_rup, rup_sort, rupS_def, rup_s, rup_n, fup_fup, fup_s, fup_n] at q15 ⊢
      rw [hU] at q15 ⊢
      refine R_imul dX12_putsBy_18 (?_ : RR _ _ _ _ 19 _ _ _ _)
      refine R_iload_n dX12_putsBy_19 rfl (?_ : RR _ _ _ _ 20 _ _ _ _)
      refine R_iadd dX12_putsBy_20 (?_ : RR _ _ _ _ 21 _ _ _ _)
      refine R_aload_n dX12_putsBy_21 rfl (?_ : RR _ _ _ _ 22 _ _ _ _)
      refine R_getr dX12_putsBy_22 flX12_33 cok_12 rfl (by decide) (?_ : RR _ _ _ _ 25 _ _ _ _)
      refine R_iload_n dX12_putsBy_25 rfl (?_ : RR _ _ _ _ 26 _ _ _ _)
      refine R_iald dX12_putsBy_26 (fun q26 => (?_ : RR _ _ _ _ 27 _ _ _ _))
      try simp (disch := omega) only [rup_rup, rup_sort, rupS_def, rup_s, rup_n, fup_fup, fup_s, fup_n] at q26 ⊢
      refine R_iast dX12_putsBy_27 (?_ : RR _ _ _ _ 28 _ _ _ _)
      try simp (disch := omega) only [rup_rup, rup_sort, rupS_def, rup_s, rup_n, fup_fup, fup_s, fup_n]
      rw [put_s]
      refine R_iinc dX12_putsBy_28 rfl (Nat.le_of_ble_eq_true rfl) (?_ : RR _ _ _ _ 31 [_, _] _ _ _)
      refine R_goto (t := 2) dX12_putsBy_31 rfl (?_ : RR _ _ _ _ 2 _ _ _ _)
      exact ih (i + 1) (by omega)
  refine R_iconst dX12_putsBy_0 (?_ : RR _ _ _ _ 1 _ _ _ _)
  refine R_istore_n dX12_putsBy_1 (Nat.le_of_ble_eq_true rfl) (?_ : RR _ _ _ _ 2 [_, _] _ _ _)
  have L0 := L 26 0 (by omega)
  rw [put_0, rup_self] at L0
  exact L0
theorem T_X12_puts (hO : oor (h 155) (h 154)) : MT mX12_puts 0 [pR 147] h none (rup h 155 (h 154)) := by
  refine MT.of (fun Q hQ => (?_ : RR mX12_puts _ _ _ _ [pR 147, pU] _ _ _))
  have e : sgm 0 (h 154) (h 155) 26 = h 154 := by
    funext j
    unfold sgm
    by_cases q : 0 ≤ j ∧ j < 26
    · rw [if_pos (by omega)]
      congr 1
      omega
    · rw [if_neg (by omega)]
      exact hO j q
  rw [← e] at hQ
  have L : ∀ k i : Nat, i + k = 26 → RR mX12_puts 0 0 0 2 [pR 147, pI i] [] (shp0, rf0, rup h 155 (sgm 0 (h 154) (h 155) i)) Q := by
    intro k
    induction k with
    | zero =>
      intro i hi 
      obtain rfl : i = 26 := by omega
      refine R_iload_n dX12_puts_2 rfl (?_ : RR _ _ _ _ 3 _ _ _ _)
      refine R_bipush dX12_puts_3 rfl (?_ : RR _ _ _ _ 5 _ _ _ _)
      refine R_icmp_ge (t := 26) dX12_puts_5 rfl (fun c5 => ?_) (fun c5 => ?_)
      rotate_left
      · exfalso; omega
      exact R_return dX12_puts_26 trivial hQ
    | succ k ih =>
      intro i hi 
      refine R_iload_n dX12_puts_2 rfl (?_ : RR _ _ _ _ 3 _ _ _ _)
      refine R_bipush dX12_puts_3 rfl (?_ : RR _ _ _ _ 5 _ _ _ _)
      refine R_icmp_ge (t := 26) dX12_puts_5 rfl (fun c5 => ?_) (fun c5 => ?_)
      · exfalso; omega
      refine R_aload_n dX12_puts_8 rfl (?_ : RR _ _ _ _ 9 _ _ _ _)
      refine R_getr dX12_puts_9 flX12_36 cok_12 rfl (by decide) (?_ : RR _ _ _ _ 12 _ _ _ _)
      refine R_iload_n dX12_puts_12 rfl (?_ : RR _ _ _ _ 13 _ _ _ _)
      refine R_aload_n dX12_puts_13 rfl (?_ : RR _ _ _ _ 14 _ _ _ _)
      refine R_getr dX12_puts_14 flX12_33 cok_12 rfl (by decide) (?_ : RR _ _ _ _ 17 _ _ _ _)
      refine R_iload_n dX12_puts_17 rfl (?_ : RR _ _ _ _ 18 _ _ _ _)
      refine R_iald dX12_puts_18 (fun q18 => (?_ : RR _ _ _ _ 19 _ _ _ _))
      try simp (disch := omega) only [rup_rup, rup_sort, rupS_def, rup_s, rup_n, fup_fup, fup_s, fup_n] at q18 ⊢
      refine R_iast dX12_puts_19 (?_ : RR _ _ _ _ 20 _ _ _ _)
      try simp (disch := omega) only [rup_rup, rup_sort, rupS_def, rup_s, rup_n, fup_fup, fup_s, fup_n]
      rw [show h 154 (i : Int) = h 154 (0 + (i : Int)) by rw [Int.zero_add], sgm_s]
      refine R_iinc dX12_puts_20 rfl (Nat.le_of_ble_eq_true rfl) (?_ : RR _ _ _ _ 23 [_, _] _ _ _)
      refine R_goto (t := 2) dX12_puts_23 rfl (?_ : RR _ _ _ _ 2 _ _ _ _)
      exact ih (i + 1) (by omega)
  refine R_iconst dX12_puts_0 (?_ : RR _ _ _ _ 1 _ _ _ _)
  refine R_istore_n dX12_puts_1 (Nat.le_of_ble_eq_true rfl) (?_ : RR _ _ _ _ 2 [_, _] _ _ _)
  have L0 := L 26 0 (by omega)
  rw [sgm_0, rup_self] at L0
  exact L0
end CT
