/-! by heads, along -/
def vcS (su : Int → Int) (c : Int) : Int := chS (su (3 * c)) (su (3 * c + 1)) (su (3 * c + 2))
theorem vcS_b {su : Int → Int} {c : Int} : 0 ≤ vcS su c ∧ vcS su c ≤ 2 := chS_b
theorem T_X10_voteOf2 {c : Int} {h : Nat → Int → Int} (hc : 0 ≤ c ∧ c < 6 := by omega) : MT mX10_voteOf 1 [pR 36, pI c] h (some (pI (vcS (h 39) c))) h := T_X10_voteOf
def hdF (su ord f : Int → Int) (n : Nat) : Int → Int := fun j => if 0 ≤ j ∧ j < 3 then sm (fun k => if vcS su (ord k) = j then 1 else 0) n else f j
theorem hdF_0 {su ord f : Int → Int} : hdF su ord f 0 = zr f 3 := rfl
theorem zr_3 {f : Int → Int} : fup (fup (fup f 0 0) 1 0) 2 0 = zr f 3 := by
  funext j
  unfold fup zr
  repeat' split
  all_goals first | rfl | omega
theorem hdF_s {su ord f : Int → Int} {n : Nat} {i : Int} (hi : i = vcS su (ord n)) : fup (hdF su ord f n) i (hdF su ord f n i + 1) = hdF su ord f (n + 1) := by
  have hb := chS_b (l := su (3 * ord n)) (r := su (3 * ord n + 1)) (s := su (3 * ord n + 2))
  have hb2 : 0 ≤ i ∧ i < 3 := by rw [hi]; unfold vcS; omega
  subst hi
  funext j
  unfold fup hdF
  by_cases hj : j = vcS su (ord n)
  · subst hj
    rw [if_pos rfl, if_pos hb2, if_pos hb2]
    show _ = sm _ n + (if vcS su (ord n) = vcS su (ord n) then 1 else 0)
    rw [if_pos rfl]
  · rw [if_neg hj]
    split
    · show _ = sm _ n + (if vcS su (ord n) = j then 1 else 0)
      rw [if_neg (fun q => hj q.symm)]
      omega
    · rfl
theorem hdF_b {su ord f : Int → Int} {n : Nat} {j : Int} (hj : 0 ≤ j ∧ j < 3) : 0 ≤ hdF su ord f n j ∧ hdF su ord f n j ≤ 1 * n := by
  unfold hdF
  rw [if_pos hj]
  exact sm_b (by omega) (fun p => by split <;> omega) n
theorem T_X10_voteOfHeads {t n : Nat} {h : Nat → Int → Int} (hn : h t 3 = n) (hor : ∀ j : Nat, j < n → 0 ≤ h (t + 1) j ∧ h (t + 1) j < 6) (ht : isTr t := by assumption) (htb : t + 4 < 29 := by omega) (h6 : n ≤ 6 := by omega) : MT mX10_voteOfHeads 2 [pR 36, pR t] h (some (pI (chS (hdF (h 39) (h (t + 1)) (h 42) n 0) (hdF (h 39) (h (t + 1)) (h 42) n 1) (hdF (h 39) (h (t + 1)) (h 42) n 2)))) (rup h 42 (hdF (h 39) (h (t + 1)) (h 42) n)) := by
  obtain ⟨t0, t1, t2, t3, t4, t5, t6, t7, t8⟩ := id ht
  refine MT.of (fun Q hQ => (?_ : RR mX10_voteOfHeads _ _ _ _ [pR 36, pR t, pU] _ _ _))
  have L : ∀ k i : Nat, i + k = n → RR mX10_voteOfHeads 2 0 0 6 [pR 36, pR t, pI i] [] (shp0, rf0, rup h 42 (hdF (h 39) (h (t + 1)) (h 42) i)) Q := by
    intro k
    induction k with
    | zero =>
      intro i hi 
      obtain rfl : i = n := by omega
      refine R_iload_n dX10_voteOfHeads_6 rfl (?_ : RR _ _ _ _ 7 _ _ _ _)
      refine R_aload_n dX10_voteOfHeads_7 rfl (?_ : RR _ _ _ _ 8 _ _ _ _)
      refine R_geti (z := 3) dX10_voteOfHeads_8 flX10_87 cok_9 rfl (by decide) rfl (fun q8 => (?_ : RR _ _ _ _ 11 _ _ _ _))
      try simp (disch := omega) only [rup_rup, rup_sort, rupS_def, rup_s, rup_n, fup_fup, fup_s, fup_n] at q8 ⊢
      rw [hn] at q8 ⊢
      refine R_icmp_ge (t := 39) dX10_voteOfHeads_11 rfl (fun c11 => ?_) (fun c11 => ?_)
      rotate_left
      · exfalso; omega
      refine R_aload_n dX10_voteOfHeads_39 rfl (?_ : RR _ _ _ _ 40 _ _ _ _)
      refine R_getr dX10_voteOfHeads_40 flX10_27 cok_10 rfl (by decide) (?_ : RR _ _ _ _ 43 _ _ _ _)
      refine R_iconst dX10_voteOfHeads_43 (?_ : RR _ _ _ _ 44 _ _ _ _)
      refine R_iald dX10_voteOfHeads_44 (fun q44 => (?_ : RR _ _ _ _ 45 _ _ _ _))
      try simp (disch := omega) only [rup_rup, rup_sort, rupS_def, rup_s, rup_n, fup_fup, fup_s, fup_n] at q44 ⊢
      refine R_aload_n dX10_voteOfHeads_45 rfl (?_ : RR _ _ _ _ 46 _ _ _ _)
      refine R_getr dX10_voteOfHeads_46 flX10_27 cok_10 rfl (by decide) (?_ : RR _ _ _ _ 49 _ _ _ _)
      refine R_iconst dX10_voteOfHeads_49 (?_ : RR _ _ _ _ 50 _ _ _ _)
      refine R_iald dX10_voteOfHeads_50 (fun q50 => (?_ : RR _ _ _ _ 51 _ _ _ _))
      try simp (disch := omega) only [rup_rup, rup_sort, rupS_def, rup_s, rup_n, fup_fup, fup_s, fup_n] at q50 ⊢
      refine R_aload_n dX10_voteOfHeads_51 rfl (?_ : RR _ _ _ _ 52 _ _ _ _)
      refine R_getr dX10_voteOfHeads_52 flX10_27 cok_10 rfl (by decide) (?_ : RR _ _ _ _ 55 _ _ _ _)
      refine R_iconst dX10_voteOfHeads_55 (?_ : RR _ _ _ _ 56 _ _ _ _)
      refine R_iald dX10_voteOfHeads_56 (fun q56 => (?_ : RR _ _ _ _ 57 _ _ _ _))
      try simp (disch := omega) only [rup_rup, rup_sort, rupS_def, rup_s, rup_n, fup_fup, fup_s, fup_n] at q56 ⊢
      refine R_cSi3 dX10_voteOfHeads_57 msX10_choice mlX10_80 (by decide) (Nat.le_of_ble_eq_true rfl) (Nat.le_of_ble_eq_true rfl) (T_X10_choice) (?_ : RR _ _ _ _ 60 _ _ _ _)
      try simp (disch := omega) only [rup_rup, rup_sort, rupS_def, rup_s, rup_n, fup_fup, fup_s, fup_n]
      exact R_ireturn dX10_voteOfHeads_60 trivial hQ
    | succ k ih =>
      intro i hi 
      have hoi := hor i (by omega)
      have hcb := vcS_b (su := h 39) (c := h (t + 1) i)
      have hhb := hdF_b (su := h 39) (ord := h (t + 1)) (f := h 42) (n := i) (j := vcS (h 39) (h (t + 1) i)) (by omega)
      refine R_iload_n dX10_voteOfHeads_6 rfl (?_ : RR _ _ _ _ 7 _ _ _ _)
      refine R_aload_n dX10_voteOfHeads_7 rfl (?_ : RR _ _ _ _ 8 _ _ _ _)
      refine R_geti (z := 3) dX10_voteOfHeads_8 flX10_87 cok_9 rfl (by decide) rfl (fun q8 => (?_ : RR _ _ _ _ 11 _ _ _ _))
      try simp (disch := omega) only [rup_rup, rup_sort, rupS_def, rup_s, rup_n, fup_fup, fup_s, fup_n] at q8 ⊢
      rw [hn] at q8 ⊢
      refine R_icmp_ge (t := 39) dX10_voteOfHeads_11 rfl (fun c11 => ?_) (fun c11 => ?_)
      · exfalso; omega
      refine R_aload_n dX10_voteOfHeads_14 rfl (?_ : RR _ _ _ _ 15 _ _ _ _)
      refine R_getr dX10_voteOfHeads_15 flX10_27 cok_10 rfl (by decide) (?_ : RR _ _ _ _ 18 _ _ _ _)
      refine R_aload_n dX10_voteOfHeads_18 rfl (?_ : RR _ _ _ _ 19 _ _ _ _)
      refine R_aload_n dX10_voteOfHeads_19 rfl (?_ : RR _ _ _ _ 20 _ _ _ _)
      refine R_getr dX10_voteOfHeads_20 flX10_90 cok_9 rfl (by decide) (?_ : RR _ _ _ _ 23 _ _ _ _)
      refine R_iload_n dX10_voteOfHeads_23 rfl (?_ : RR _ _ _ _ 24 _ _ _ _)
      refine R_iald dX10_voteOfHeads_24 (fun q24 => (?_ : RR _ _ _ _ 25 _ _ _ _))
      try simp (disch := omega) only [rup_rup, rup_sort, rupS_def, rup_s, rup_n, fup_fup, fup_s, fup_n] at q24 ⊢
      refine R_cVi1 dX10_voteOfHeads_25 mvX10_voteOf mlX10_93 (by decide) (by decide) (Nat.le_of_ble_eq_true rfl) (Nat.le_of_ble_eq_true rfl) (T_X10_voteOf2) (?_ : RR _ _ _ _ 28 _ _ _ _)
      try simp (disch := omega) only [rup_rup, rup_sort, rupS_def, rup_s, rup_n, fup_fup, fup_s, fup_n]
      refine R_dup2 dX10_voteOfHeads_28 (fun _ => rfl) (fun _ => rfl) (?_ : RR _ _ _ _ 29 _ _ _ _)
      refine R_iald dX10_voteOfHeads_29 (fun q29 => (?_ : RR _ _ _ _ 30 _ _ _ _))
      try simp (disch := omega) only [rup_rup, rup_sort, rupS_def, rup_s, rup_n, fup_fup, fup_s, fup_n] at q29 ⊢
      refine R_iconst dX10_voteOfHeads_30 (?_ : RR _ _ _ _ 31 _ _ _ _)
      refine R_iadd dX10_voteOfHeads_31 (?_ : RR _ _ _ _ 32 _ _ _ _)
      refine R_iast dX10_voteOfHeads_32 (?_ : RR _ _ _ _ 33 _ _ _ _)
      try simp (disch := omega) only [rup_rup, rup_sort, rupS_def, rup_s, rup_n, fup_fup, fup_s, fup_n]
      rw [hdF_s rfl]
      refine R_iinc dX10_voteOfHeads_33 rfl (Nat.le_of_ble_eq_true rfl) (?_ : RR _ _ _ _ 36 [_, _, _] _ _ _)
      refine R_goto (t := 6) dX10_voteOfHeads_36 rfl (?_ : RR _ _ _ _ 6 _ _ _ _)
      exact ih (i + 1) (by omega)
  refine R_aload_n dX10_voteOfHeads_0 rfl (?_ : RR _ _ _ _ 1 _ _ _ _)
  refine R_cVv0 dX10_voteOfHeads_1 mvX10_clearSome mlX10_84 (by decide) (by decide) (Nat.le_of_ble_eq_true rfl) (Nat.le_of_ble_eq_true rfl) (T_X10_clearSome) (?_ : RR _ _ _ _ 4 _ _ _ _)
  try simp (disch := omega) only [rup_rup, rup_sort, rupS_def, rup_s, rup_n, fup_fup, fup_s, fup_n]
  rw [zr_3]
  refine R_iconst dX10_voteOfHeads_4 (?_ : RR _ _ _ _ 5 _ _ _ _)
  refine R_istore_n dX10_voteOfHeads_5 (Nat.le_of_ble_eq_true rfl) (?_ : RR _ _ _ _ 6 [_, _, _] _ _ _)
  exact L n 0 (by omega)
def algS (P : Nat → Bool) : Nat → Nat → Nat
  | 0, i => i
  | k + 1, i => if P i then algS P k (i + 1) else i
theorem algS_s {P : Nat → Bool} {k i : Nat} : algS P (k + 1) i = if P i then algS P k (i + 1) else i := rfl
theorem algS_b (P : Nat → Bool) : ∀ k i, i ≤ algS P k i ∧ algS P k i ≤ i + k
  | 0, i => ⟨Nat.le_refl _, Nat.le_refl _⟩
  | k + 1, i => by
    unfold algS
    have := algS_b P k (i + 1)
    split <;> omega
theorem T_X10_alongBy {t n : Nat} {c : Int} {h : Nat → Int → Int} (hn : h t 3 = n) (hor : ∀ j : Nat, j < n → 0 ≤ h (t + 1) j ∧ h (t + 1) j < 6) (ht : isTr t := by assumption) (h6 : n ≤ 6 := by omega) (hc : r32 c := by omega) : MT mX10_alongBy 2 [pR 36, pR t, pI c] h (some (pI (algS (fun i => decide (vcS (h 39) (h (t + 1) i) = c)) n 0))) h := by
  obtain ⟨t0, t1, t2, t3, t4, t5, t6, t7, t8⟩ := id ht
  refine MT.of (fun Q hQ => (?_ : RR mX10_alongBy _ _ _ _ [pR 36, pR t, pI c, pU] _ _ _))
  generalize hP : (fun i : Nat => decide (vcS (h 39) (h (t + 1) i) = c)) = P at hQ
  have L : ∀ (k i : Nat), i + k = n → algS P n 0 = algS P k i → RR mX10_alongBy 2 0 0 2 [pR 36, pR t, pI c, pI i] [] (shp0, rf0, h) Q := by
    intro k
    induction k with
    | zero =>
      intro i hi e
      obtain rfl : i = n := by omega
      rw [e] at hQ
      refine R_iload_n dX10_alongBy_2 rfl (?_ : RR _ _ _ _ 3 _ _ _ _)
      refine R_aload_n dX10_alongBy_3 rfl (?_ : RR _ _ _ _ 4 _ _ _ _)
      refine R_geti (z := 3) dX10_alongBy_4 flX10_87 cok_9 rfl (by decide) rfl (fun q4 => (?_ : RR _ _ _ _ 7 _ _ _ _))
      rw [hn] at q4 ⊢
      refine R_icmp_ge (t := 32) dX10_alongBy_7 rfl (fun c7 => ?_) (fun c7 => ?_)
      rotate_left
      · exfalso; omega
      refine R_aload_n dX10_alongBy_32 rfl (?_ : RR _ _ _ _ 33 _ _ _ _)
      refine R_geti (z := 3) dX10_alongBy_33 flX10_87 cok_9 rfl (by decide) rfl (fun q33 => (?_ : RR _ _ _ _ 36 _ _ _ _))
      rw [hn]
      exact R_ireturn dX10_alongBy_36 trivial hQ
    | succ k ih =>
      intro i hi e
      have hoi := hor i (by omega)
      have hcb := vcS_b (su := h 39) (c := h (t + 1) i)
      rw [algS_s] at e
      refine R_iload_n dX10_alongBy_2 rfl (?_ : RR _ _ _ _ 3 _ _ _ _)
      refine R_aload_n dX10_alongBy_3 rfl (?_ : RR _ _ _ _ 4 _ _ _ _)
      refine R_geti (z := 3) dX10_alongBy_4 flX10_87 cok_9 rfl (by decide) rfl (fun q4 => (?_ : RR _ _ _ _ 7 _ _ _ _))
      rw [hn] at q4 ⊢
      refine R_icmp_ge (t := 32) dX10_alongBy_7 rfl (fun c7 => ?_) (fun c7 => ?_)
      · exfalso; omega
      refine R_aload_n dX10_alongBy_10 rfl (?_ : RR _ _ _ _ 11 _ _ _ _)
      refine R_aload_n dX10_alongBy_11 rfl (?_ : RR _ _ _ _ 12 _ _ _ _)
      refine R_getr dX10_alongBy_12 flX10_90 cok_9 rfl (by decide) (?_ : RR _ _ _ _ 15 _ _ _ _)
      refine R_iload_n dX10_alongBy_15 rfl (?_ : RR _ _ _ _ 16 _ _ _ _)
      refine R_iald dX10_alongBy_16 (fun q16 => (?_ : RR _ _ _ _ 17 _ _ _ _))
      refine R_cVi1 dX10_alongBy_17 mvX10_voteOf mlX10_93 (by decide) (by decide) (Nat.le_of_ble_eq_true rfl) (Nat.le_of_ble_eq_true rfl) (T_X10_voteOf2) (?_ : RR _ _ _ _ 20 _ _ _ _)
      refine R_iload_n dX10_alongBy_20 rfl (?_ : RR _ _ _ _ 21 _ _ _ _)
      refine R_icmp_eq (t := 26) dX10_alongBy_21 rfl (fun c21 => ?_) (fun c21 => ?_)
      · rw [if_pos (by rw [← hP]; simpa using c21)] at e
        refine R_iinc dX10_alongBy_26 rfl (Nat.le_of_ble_eq_true rfl) (?_ : RR _ _ _ _ 29 [_, _, _, _] _ _ _)
        refine R_goto (t := 2) dX10_alongBy_29 rfl (?_ : RR _ _ _ _ 2 _ _ _ _)
        exact ih (i + 1) (by omega) e
      · rw [if_neg (by rw [← hP]; simpa using c21)] at e
        rw [e] at hQ
        refine R_iload_n dX10_alongBy_24 rfl (?_ : RR _ _ _ _ 25 _ _ _ _)
        exact R_ireturn dX10_alongBy_25 trivial hQ
  refine R_iconst dX10_alongBy_0 (?_ : RR _ _ _ _ 1 _ _ _ _)
  refine R_istore_n dX10_alongBy_1 (Nat.le_of_ble_eq_true rfl) (?_ : RR _ _ _ _ 2 [_, _, _, _] _ _ _)
  exact L n 0 (by omega) rfl
/-! one run -/
/-- sums of votes by coaches, and in all -/
def onSu (sem : Sem) (h : Nat → Int → Int) (n t np : Nat) : Int → Int := suF (h (t + 4)) (vtS sem (h 13) (h 12) (h (n + 3)) (h (t + 4)) (h (t + 2)) (h (t + 3)) (h t 0) (h t 1) np) (wiS (h (n + 1)) (h (n + 2)) (h (n + 3)) (h 12) (h (t + 4)) (h (t + 2)) (h (t + 3)) (h t 0)) (h 39) np
def onAl (sem : Sem) (h : Nat → Int → Int) (n t np : Nat) : Int → Int := alF (h (t + 4)) (h (t + 2)) (vtS sem (h 13) (h 12) (h (n + 3)) (h (t + 4)) (h (t + 2)) (h (t + 3)) (h t 0) (h t 1) np) (wiS (h (n + 1)) (h (n + 2)) (h (n + 3)) (h 12) (h (t + 4)) (h (t + 2)) (h (t + 3)) (h t 0)) (h 40) np
def onCrs (sem : Sem) (h : Nat → Int → Int) (n t np len : Nat) (bh : Int) : Int := if bh = 0 then chS (onAl sem h n t np 0) (onAl sem h n t np 1) (onAl sem h n t np 2) else chS (hdF (onSu sem h n t np) (h (t + 1)) (h 42) len 0) (hdF (onSu sem h n t np) (h (t + 1)) (h 42) len 1) (hdF (onSu sem h n t np) (h (t + 1)) (h 42) len 2)
def onAlong (sem : Sem) (h : Nat → Int → Int) (n t np len : Nat) (c : Int) : Nat := algS (fun i => decide (vcS (onSu sem h n t np) (h (t + 1) i) = c)) len 0
/-- behind a run: which rows are as they were, the voting's, the runner's -/
def onP (sem : Sem) (h : Nat → Int → Int) (n t r np len : Nat) (bh : Int) (r' : Option PV) (h' : Nat → Int → Int) : Prop :=
  (∀ a, a ≠ t → a ≠ t + 2 → a ≠ t + 3 → a ≠ t + 4 → a ≠ 35 → ¬ (37 ≤ a ∧ a ≤ 43) → a ≠ r + 2 → h' a = h a) ∧
  h' 40 = onAl sem h n t np ∧
  ((onCrs sem h n t np len bh = 2 ∨ h (n + 1) (2 * h t 0 + onCrs sem h n t np len bh) = -1) → r' = some (pI 2) ∧ h' t = fup (h t) 1 (h t 1 + 1) ∧ h' (t + 2) = h (t + 2) ∧ h' (t + 3) = h (t + 3) ∧ h' (t + 4) = h (t + 4) ∧ h' 35 1 = 0 ∧ h' 35 2 = 0 ∧ h' 35 3 = 1) ∧
  (¬ (onCrs sem h n t np len bh = 2 ∨ h (n + 1) (2 * h t 0 + onCrs sem h n t np len bh) = -1) → ∀ (c e : Int) (a : Nat), c = onCrs sem h n t np len bh → e = 2 * h t 0 + c → a = onAlong sem h n t np len c → r' = some (pI c) ∧
    h' t = fup (fup (fup (h t) 3 a) 0 (h (n + 1) e)) 1 (h t 1 + h (n + 2) e) ∧ h' (t + 2) = shF (h (t + 1)) (-1) (h (t + 2)) a (len - a) ∧ h' (t + 3) = shF (h (t + 1)) (h t 0) (h (t + 3)) a (len - a) ∧
    h' (t + 4) = outF (h 12) (halS (h (n + 1) e) (h' (t + 2)) (h' (t + 3))) (h (t + 4)) np ∧ h' 35 1 = (shB (h (t + 1)) a (len - a) : Int) ∧ h' 35 2 = (bset (fun j => decide (h (t + 4) j ≠ -1 ∧ halS (h (n + 1) e) (h' (t + 2)) (h' (t + 3)) (h (t + 4) j) = h 12 j)) np : Int) ∧ h' 35 3 = h (n + 2) e)
