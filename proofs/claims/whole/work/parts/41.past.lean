/-! signs, earlier states, sightings -/
theorem trC_n {h : Nat → Int → Int} {t o b : Nat} (hb : b < t ∨ t + 4 < b) : trC h t o b = h b := by
  unfold trC
  rw [rup_n (by omega), rup_n (by omega), rup_n (by omega), rup_n (by omega), rup_n (by omega)]
theorem trC_t {h : Nat → Int → Int} {t o : Nat} : trC h t o t = fup (fup (fup (fup (h t) 0 (h o 0)) 1 (h o 1)) 2 (h o 2)) 3 (h o 3) := by
  unfold trC
  rw [rup_n (by omega), rup_n (by omega), rup_n (by omega), rup_n (by omega), rup_s]
theorem trC_1 {h : Nat → Int → Int} {t o : Nat} : trC h t o (t + 1) = cpy (h (o + 1)) (h (t + 1)) 6 := by
  unfold trC
  rw [rup_n (by omega), rup_n (by omega), rup_n (by omega), rup_s]
theorem trC_2 {h : Nat → Int → Int} {t o : Nat} : trC h t o (t + 2) = cpy (h (o + 2)) (h (t + 2)) 6 := by
  unfold trC
  rw [rup_n (by omega), rup_n (by omega), rup_s]
theorem trC_3 {h : Nat → Int → Int} {t o : Nat} : trC h t o (t + 3) = cpy (h (o + 3)) (h (t + 3)) 6 := by
  unfold trC
  rw [rup_n (by omega), rup_s]
theorem trC_4 {h : Nat → Int → Int} {t o : Nat} : trC h t o (t + 4) = cpy (h (o + 4)) (h (t + 4)) 12 := by
  unfold trC
  rw [rup_s]
theorem iAnd_r {a b : Int} : r32 (iAnd a b) := ⟨Int32.le_toInt _, by have := Int32.toInt_lt (Int32.ofInt a &&& Int32.ofInt b); unfold iAnd; omega⟩
theorem T_X7_addFour {v : Int} {n : Nat} {h : Nat → Int → Int} (hn : h 1 1 = n) (h80 : n ≤ 76) (hv : r32 v := by omega) : MT mX7_addFour 0 [pR 1, pI v] h none (rup (rup h 1 (fup (h 1) 1 (n + 1 + 1 + 1 + 1))) 2 (fup (fup (fup (fup (h 2) n (iAnd (iUshr v 24) 255)) (n + 1) (iAnd (iUshr v 16) 255)) (n + 1 + 1) (iAnd (iUshr v 8) 255)) (n + 1 + 1 + 1) (iAnd (iUshr v 0) 255))) := by
  refine MT.of (fun Q hQ => (?_ : RR mX7_addFour _ _ _ _ [pR 1, pI v, pU] _ _ _))
  refine R_bipush dX7_addFour_0 rfl (?_ : RR _ _ _ _ 2 _ _ _ _)
  refine R_istore_n dX7_addFour_2 (Nat.le_of_ble_eq_true rfl) (?_ : RR _ _ _ _ 3 [_, _, _] _ _ _)
  refine R_iload_n dX7_addFour_3 rfl (?_ : RR _ _ _ _ 4 _ _ _ _)
  refine R_if_lt (t := 48) dX7_addFour_4 rfl (fun c4 => ?_) (fun c4 => ?_)
  · exfalso; omega
  refine R_aload_n dX7_addFour_7 rfl (?_ : RR _ _ _ _ 8 _ _ _ _)
  refine R_geti (z := 1) dX7_addFour_8 flX7_15 cok_7 rfl (by decide) rfl (fun q8 => (?_ : RR _ _ _ _ 11 _ _ _ _))
  try simp (disch := omega) only [rup_rup, rup_sort, rupS_def, rup_s, rup_n, fup_fup, fup_s, fup_n, hn] at q8 ⊢
  refine R_bipush dX7_addFour_11 rfl (?_ : RR _ _ _ _ 13 _ _ _ _)
  refine R_icmp_ge (t := 48) dX7_addFour_13 rfl (fun c13 => ?_) (fun c13 => ?_)
  · exfalso; omega
  refine R_aload_n dX7_addFour_16 rfl (?_ : RR _ _ _ _ 17 _ _ _ _)
  refine R_getr dX7_addFour_17 flX7_9 cok_7 rfl (by decide) (?_ : RR _ _ _ _ 20 _ _ _ _)
  refine R_aload_n dX7_addFour_20 rfl (?_ : RR _ _ _ _ 21 _ _ _ _)
  refine R_geti (z := 1) dX7_addFour_21 flX7_15 cok_7 rfl (by decide) rfl (fun q21 => (?_ : RR _ _ _ _ 24 _ _ _ _))
  try simp (disch := omega) only [rup_rup, rup_sort, rupS_def, rup_s, rup_n, fup_fup, fup_s, fup_n, hn] at q21 ⊢
  refine R_iload_n dX7_addFour_24 rfl (?_ : RR _ _ _ _ 25 _ _ _ _)
  refine R_iload_n dX7_addFour_25 rfl (?_ : RR _ _ _ _ 26 _ _ _ _)
  refine R_iushr dX7_addFour_26 (?_ : RR _ _ _ _ 27 _ _ _ _)
  refine R_sipush dX7_addFour_27 rfl (?_ : RR _ _ _ _ 30 _ _ _ _)
  refine R_iand dX7_addFour_30 (?_ : RR _ _ _ _ 31 _ _ _ _)
  refine R_iast (hz := iAnd_r) dX7_addFour_31 (?_ : RR _ _ _ _ 32 _ _ _ _)
  try simp (disch := omega) only [rup_rup, rup_sort, rupS_def, rup_s, rup_n, fup_fup, fup_s, fup_n, hn]
  refine R_aload_n dX7_addFour_32 rfl (?_ : RR _ _ _ _ 33 _ _ _ _)
  refine R_dup dX7_addFour_33 (fun _ => rfl) (?_ : RR _ _ _ _ 34 _ _ _ _)
  refine R_geti (z := 1) dX7_addFour_34 flX7_15 cok_7 rfl (by decide) rfl (fun q34 => (?_ : RR _ _ _ _ 37 _ _ _ _))
  try simp (disch := omega) only [rup_rup, rup_sort, rupS_def, rup_s, rup_n, fup_fup, fup_s, fup_n, hn] at q34 ⊢
  refine R_iconst dX7_addFour_37 (?_ : RR _ _ _ _ 38 _ _ _ _)
  refine R_iadd dX7_addFour_38 (?_ : RR _ _ _ _ 39 _ _ _ _)
  refine R_puti (zk := 1) dX7_addFour_39 flX7_15 cok_7 (by decide) (fun q hq => by cases hq; rfl) rfl (?_ : RR _ _ _ _ 42 _ _ _ _)
  try simp (disch := omega) only [rup_rup, rup_sort, rupS_def, rup_s, rup_n, fup_fup, fup_s, fup_n, hn]
  refine R_iinc dX7_addFour_42 rfl (Nat.le_of_ble_eq_true rfl) (?_ : RR _ _ _ _ 45 [_, _, _] _ _ _)
  refine R_goto (t := 3) dX7_addFour_45 rfl (?_ : RR _ _ _ _ 3 _ _ _ _)
  refine R_iload_n dX7_addFour_3 rfl (?_ : RR _ _ _ _ 4 _ _ _ _)
  refine R_if_lt (t := 48) dX7_addFour_4 rfl (fun c4 => ?_) (fun c4 => ?_)
  · exfalso; omega
  refine R_aload_n dX7_addFour_7 rfl (?_ : RR _ _ _ _ 8 _ _ _ _)
  refine R_geti (z := 1) dX7_addFour_8 flX7_15 cok_7 rfl (by decide) rfl (fun q8 => (?_ : RR _ _ _ _ 11 _ _ _ _))
  try simp (disch := omega) only [rup_rup, rup_sort, rupS_def, rup_s, rup_n, fup_fup, fup_s, fup_n, hn] at q8 ⊢
  refine R_bipush dX7_addFour_11 rfl (?_ : RR _ _ _ _ 13 _ _ _ _)
  refine R_icmp_ge (t := 48) dX7_addFour_13 rfl (fun c13 => ?_) (fun c13 => ?_)
  · exfalso; omega
  refine R_aload_n dX7_addFour_16 rfl (?_ : RR _ _ _ _ 17 _ _ _ _)
  refine R_getr dX7_addFour_17 flX7_9 cok_7 rfl (by decide) (?_ : RR _ _ _ _ 20 _ _ _ _)
  refine R_aload_n dX7_addFour_20 rfl (?_ : RR _ _ _ _ 21 _ _ _ _)
  refine R_geti (z := 1) dX7_addFour_21 flX7_15 cok_7 rfl (by decide) rfl (fun q21 => (?_ : RR _ _ _ _ 24 _ _ _ _))
  try simp (disch := omega) only [rup_rup, rup_sort, rupS_def, rup_s, rup_n, fup_fup, fup_s, fup_n, hn] at q21 ⊢
  refine R_iload_n dX7_addFour_24 rfl (?_ : RR _ _ _ _ 25 _ _ _ _)
  refine R_iload_n dX7_addFour_25 rfl (?_ : RR _ _ _ _ 26 _ _ _ _)
  refine R_iushr dX7_addFour_26 (?_ : RR _ _ _ _ 27 _ _ _ _)
  refine R_sipush dX7_addFour_27 rfl (?_ : RR _ _ _ _ 30 _ _ _ _)
  refine R_iand dX7_addFour_30 (?_ : RR _ _ _ _ 31 _ _ _ _)
  refine R_iast (hz := iAnd_r) dX7_addFour_31 (?_ : RR _ _ _ _ 32 _ _ _ _)
  try simp (disch := omega) only [rup_rup, rup_sort, rupS_def, rup_s, rup_n, fup_fup, fup_s, fup_n, hn]
  refine R_aload_n dX7_addFour_32 rfl (?_ : RR _ _ _ _ 33 _ _ _ _)
  refine R_dup dX7_addFour_33 (fun _ => rfl) (?_ : RR _ _ _ _ 34 _ _ _ _)
  refine R_geti (z := 1) dX7_addFour_34 flX7_15 cok_7 rfl (by decide) rfl (fun q34 => (?_ : RR _ _ _ _ 37 _ _ _ _))
  try simp (disch := omega) only [rup_rup, rup_sort, rupS_def, rup_s, rup_n, fup_fup, fup_s, fup_n, hn] at q34 ⊢
  refine R_iconst dX7_addFour_37 (?_ : RR _ _ _ _ 38 _ _ _ _)
  refine R_iadd dX7_addFour_38 (?_ : RR _ _ _ _ 39 _ _ _ _)
  refine R_puti (zk := 1) dX7_addFour_39 flX7_15 cok_7 (by decide) (fun q hq => by cases hq; rfl) rfl (?_ : RR _ _ _ _ 42 _ _ _ _)
  try simp (disch := omega) only [rup_rup, rup_sort, rupS_def, rup_s, rup_n, fup_fup, fup_s, fup_n, hn]
  refine R_iinc dX7_addFour_42 rfl (Nat.le_of_ble_eq_true rfl) (?_ : RR _ _ _ _ 45 [_, _, _] _ _ _)
  refine R_goto (t := 3) dX7_addFour_45 rfl (?_ : RR _ _ _ _ 3 _ _ _ _)
  refine R_iload_n dX7_addFour_3 rfl (?_ : RR _ _ _ _ 4 _ _ _ _)
  refine R_if_lt (t := 48) dX7_addFour_4 rfl (fun c4 => ?_) (fun c4 => ?_)
  · exfalso; omega
  refine R_aload_n dX7_addFour_7 rfl (?_ : RR _ _ _ _ 8 _ _ _ _)
  refine R_geti (z := 1) dX7_addFour_8 flX7_15 cok_7 rfl (by decide) rfl (fun q8 => (?_ : RR _ _ _ _ 11 _ _ _ _))
  try simp (disch := omega) only [rup_rup, rup_sort, rupS_def, rup_s, rup_n, fup_fup, fup_s, fup_n, hn] at q8 ⊢
  refine R_bipush dX7_addFour_11 rfl (?_ : RR _ _ _ _ 13 _ _ _ _)
  refine R_icmp_ge (t := 48) dX7_addFour_13 rfl (fun c13 => ?_) (fun c13 => ?_)
  · exfalso; omega
  refine R_aload_n dX7_addFour_16 rfl (?_ : RR _ _ _ _ 17 _ _ _ _)
  refine R_getr dX7_addFour_17 flX7_9 cok_7 rfl (by decide) (?_ : RR _ _ _ _ 20 _ _ _ _)
  refine R_aload_n dX7_addFour_20 rfl (?_ : RR _ _ _ _ 21 _ _ _ _)
  refine R_geti (z := 1) dX7_addFour_21 flX7_15 cok_7 rfl (by decide) rfl (fun q21 => (?_ : RR _ _ _ _ 24 _ _ _ _))
  try simp (disch := omega) only [rup_rup, rup_sort, rupS_def, rup_s, rup_n, fup_fup, fup_s, fup_n, hn] at q21 ⊢
  refine R_iload_n dX7_addFour_24 rfl (?_ : RR _ _ _ _ 25 _ _ _ _)
  refine R_iload_n dX7_addFour_25 rfl (?_ : RR _ _ _ _ 26 _ _ _ _)
  refine R_iushr dX7_addFour_26 (?_ : RR _ _ _ _ 27 _ _ _ _)
  refine R_sipush dX7_addFour_27 rfl (?_ : RR _ _ _ _ 30 _ _ _ _)
  refine R_iand dX7_addFour_30 (?_ : RR _ _ _ _ 31 _ _ _ _)
  refine R_iast (hz := iAnd_r) dX7_addFour_31 (?_ : RR _ _ _ _ 32 _ _ _ _)
  try simp (disch := omega) only [rup_rup, rup_sort, rupS_def, rup_s, rup_n, fup_fup, fup_s, fup_n, hn]
  refine R_aload_n dX7_addFour_32 rfl (?_ : RR _ _ _ _ 33 _ _ _ _)
  refine R_dup dX7_addFour_33 (fun _ => rfl) (?_ : RR _ _ _ _ 34 _ _ _ _)
  refine R_geti (z := 1) dX7_addFour_34 flX7_15 cok_7 rfl (by decide) rfl (fun q34 => (?_ : RR _ _ _ _ 37 _ _ _ _))
  try simp (disch := omega) only [rup_rup, rup_sort, rupS_def, rup_s, rup_n, fup_fup, fup_s, fup_n, hn] at q34 ⊢
  refine R_iconst dX7_addFour_37 (?_ : RR _ _ _ _ 38 _ _ _ _)
  refine R_iadd dX7_addFour_38 (?_ : RR _ _ _ _ 39 _ _ _ _)
  refine R_puti (zk := 1) dX7_addFour_39 flX7_15 cok_7 (by decide) (fun q hq => by cases hq; rfl) rfl (?_ : RR _ _ _ _ 42 _ _ _ _)
  try simp (disch := omega) only [rup_rup, rup_sort, rupS_def, rup_s, rup_n, fup_fup, fup_s, fup_n, hn]
  refine R_iinc dX7_addFour_42 rfl (Nat.le_of_ble_eq_true rfl) (?_ : RR _ _ _ _ 45 [_, _, _] _ _ _)
  refine R_goto (t := 3) dX7_addFour_45 rfl (?_ : RR _ _ _ _ 3 _ _ _ _)
  refine R_iload_n dX7_addFour_3 rfl (?_ : RR _ _ _ _ 4 _ _ _ _)
  refine R_if_lt (t := 48) dX7_addFour_4 rfl (fun c4 => ?_) (fun c4 => ?_)
  · exfalso; omega
  refine R_aload_n dX7_addFour_7 rfl (?_ : RR _ _ _ _ 8 _ _ _ _)
  refine R_geti (z := 1) dX7_addFour_8 flX7_15 cok_7 rfl (by decide) rfl (fun q8 => (?_ : RR _ _ _ _ 11 _ _ _ _))
  try simp (disch := omega) only [rup_rup, rup_sort, rupS_def, rup_s, rup_n, fup_fup, fup_s, fup_n, hn] at q8 ⊢
  refine R_bipush dX7_addFour_11 rfl (?_ : RR _ _ _ _ 13 _ _ _ _)
  refine R_icmp_ge (t := 48) dX7_addFour_13 rfl (fun c13 => ?_) (fun c13 => ?_)
  · exfalso; omega
  refine R_aload_n dX7_addFour_16 rfl (?_ : RR _ _ _ _ 17 _ _ _ _)
  refine R_getr dX7_addFour_17 flX7_9 cok_7 rfl (by decide) (?_ : RR _ _ _ _ 20 _ _ _ _)
  refine R_aload_n dX7_addFour_20 rfl (?_ : RR _ _ _ _ 21 _ _ _ _)
  refine R_geti (z := 1) dX7_addFour_21 flX7_15 cok_7 rfl (by decide) rfl (fun q21 => (?_ : RR _ _ _ _ 24 _ _ _ _))
  try simp (disch := omega) only [rup_rup, rup_sort, rupS_def, rup_s, rup_n, fup_fup, fup_s, fup_n, hn] at q21 ⊢
  refine R_iload_n dX7_addFour_24 rfl (?_ : RR _ _ _ _ 25 _ _ _ _)
  refine R_iload_n dX7_addFour_25 rfl (?_ : RR _ _ _ _ 26 _ _ _ _)
  refine R_iushr dX7_addFour_26 (?_ : RR _ _ _ _ 27 _ _ _ _)
  refine R_sipush dX7_addFour_27 rfl (?_ : RR _ _ _ _ 30 _ _ _ _)
  refine R_iand dX7_addFour_30 (?_ : RR _ _ _ _ 31 _ _ _ _)
  refine R_iast (hz := iAnd_r) dX7_addFour_31 (?_ : RR _ _ _ _ 32 _ _ _ _)
  try simp (disch := omega) only [rup_rup, rup_sort, rupS_def, rup_s, rup_n, fup_fup, fup_s, fup_n, hn]
  refine R_aload_n dX7_addFour_32 rfl (?_ : RR _ _ _ _ 33 _ _ _ _)
  refine R_dup dX7_addFour_33 (fun _ => rfl) (?_ : RR _ _ _ _ 34 _ _ _ _)
  refine R_geti (z := 1) dX7_addFour_34 flX7_15 cok_7 rfl (by decide) rfl (fun q34 => (?_ : RR _ _ _ _ 37 _ _ _ _))
  try simp (disch := omega) only [rup_rup, rup_sort, rupS_def, rup_s, rup_n, fup_fup, fup_s, fup_n, hn] at q34 ⊢
  refine R_iconst dX7_addFour_37 (?_ : RR _ _ _ _ 38 _ _ _ _)
  refine R_iadd dX7_addFour_38 (?_ : RR _ _ _ _ 39 _ _ _ _)
  refine R_puti (zk := 1) dX7_addFour_39 flX7_15 cok_7 (by decide) (fun q hq => by cases hq; rfl) rfl (?_ : RR _ _ _ _ 42 _ _ _ _)
  try simp (disch := omega) only [rup_rup, rup_sort, rupS_def, rup_s, rup_n, fup_fup, fup_s, fup_n, hn]
  refine R_iinc dX7_addFour_42 rfl (Nat.le_of_ble_eq_true rfl) (?_ : RR _ _ _ _ 45 [_, _, _] _ _ _)
  refine R_goto (t := 3) dX7_addFour_45 rfl (?_ : RR _ _ _ _ 3 _ _ _ _)
  refine R_iload_n dX7_addFour_3 rfl (?_ : RR _ _ _ _ 4 _ _ _ _)
  refine R_if_lt (t := 48) dX7_addFour_4 rfl (fun c4 => ?_) (fun c4 => ?_)
  rotate_left
  · exfalso; omega
  exact R_return dX7_addFour_48 trivial hQ
theorem rf45 : ∀ x : Nat, x < 15 → rf0 45 x = some (48 + 5 * x) := by decide +kernel
theorem rf46 : ∀ x : Nat, x < 3 → rf0 46 x = some (123 + 5 * x) := by decide +kernel
theorem T_X1_forgetActs {h : Nat → Int → Int} : MT mX1_forgetActs 0 [pR 44] h none (rup h 44 (fup (h 44) 3 0)) := by
  refine MT.of (fun Q hQ => (?_ : RR mX1_forgetActs _ _ _ _ [pR 44] _ _ _))
  refine R_aload_n dX1_forgetActs_0 rfl (?_ : RR _ _ _ _ 1 _ _ _ _)
  refine R_iconst dX1_forgetActs_1 (?_ : RR _ _ _ _ 2 _ _ _ _)
  refine R_puti (zk := 3) dX1_forgetActs_2 flX1_25 cok_1 (by decide) (fun q hq => by cases hq; rfl) rfl (?_ : RR _ _ _ _ 5 _ _ _ _)
  exact R_return dX1_forgetActs_5 trivial hQ
theorem T_X1_forgetAll {h : Nat → Int → Int} : MT mX1_forgetAll 1 [pR 44] h none (rup (rup h 44 (fup (h 44) 3 0)) 47 (fup (fup (fup (h 47) 0 0) 1 0) 2 0)) := by
  refine MT.of (fun Q hQ => (?_ : RR mX1_forgetAll _ _ _ _ [pR 44, pU] _ _ _))
  refine R_aload_n dX1_forgetAll_0 rfl (?_ : RR _ _ _ _ 1 _ _ _ _)
  refine R_cVv0 dX1_forgetAll_1 mvX1_forgetActs mlX1_29 (by decide) (by decide) (Nat.le_of_ble_eq_true rfl) (Nat.le_of_ble_eq_true rfl) (T_X1_forgetActs) (?_ : RR _ _ _ _ 4 _ _ _ _)
  try simp (disch := omega) only [rup_rup, rup_sort, rupS_def, rup_s, rup_n, fup_fup, fup_s, fup_n]
  refine R_iconst dX1_forgetAll_4 (?_ : RR _ _ _ _ 5 _ _ _ _)
  refine R_istore_n dX1_forgetAll_5 (Nat.le_of_ble_eq_true rfl) (?_ : RR _ _ _ _ 6 [_, _] _ _ _)
  refine R_iload_n dX1_forgetAll_6 rfl (?_ : RR _ _ _ _ 7 _ _ _ _)
  refine R_iconst dX1_forgetAll_7 (?_ : RR _ _ _ _ 8 _ _ _ _)
  refine R_icmp_ge (t := 24) dX1_forgetAll_8 rfl (fun c8 => ?_) (fun c8 => ?_)
  · exfalso; omega
  refine R_aload_n dX1_forgetAll_11 rfl (?_ : RR _ _ _ _ 12 _ _ _ _)
  refine R_getr dX1_forgetAll_12 flX1_20 cok_1 rfl (by decide) (?_ : RR _ _ _ _ 15 _ _ _ _)
  refine R_iload_n dX1_forgetAll_15 rfl (?_ : RR _ _ _ _ 16 _ _ _ _)
  refine R_iconst dX1_forgetAll_16 (?_ : RR _ _ _ _ 17 _ _ _ _)
  refine R_zast dX1_forgetAll_17 (?_ : RR _ _ _ _ 18 _ _ _ _)
  try simp (disch := omega) only [rup_rup, rup_sort, rupS_def, rup_s, rup_n, fup_fup, fup_s, fup_n]
  refine R_iinc dX1_forgetAll_18 rfl (Nat.le_of_ble_eq_true rfl) (?_ : RR _ _ _ _ 21 [_, _] _ _ _)
  refine R_goto (t := 6) dX1_forgetAll_21 rfl (?_ : RR _ _ _ _ 6 _ _ _ _)
  refine R_iload_n dX1_forgetAll_6 rfl (?_ : RR _ _ _ _ 7 _ _ _ _)
  refine R_iconst dX1_forgetAll_7 (?_ : RR _ _ _ _ 8 _ _ _ _)
  refine R_icmp_ge (t := 24) dX1_forgetAll_8 rfl (fun c8 => ?_) (fun c8 => ?_)
  · exfalso; omega
  refine R_aload_n dX1_forgetAll_11 rfl (?_ : RR _ _ _ _ 12 _ _ _ _)
  refine R_getr dX1_forgetAll_12 flX1_20 cok_1 rfl (by decide) (?_ : RR _ _ _ _ 15 _ _ _ _)
  refine R_iload_n dX1_forgetAll_15 rfl (?_ : RR _ _ _ _ 16 _ _ _ _)
  refine R_iconst dX1_forgetAll_16 (?_ : RR _ _ _ _ 17 _ _ _ _)
  refine R_zast dX1_forgetAll_17 (?_ : RR _ _ _ _ 18 _ _ _ _)
  try simp (disch := omega) only [rup_rup, rup_sort, rupS_def, rup_s, rup_n, fup_fup, fup_s, fup_n]
  refine R_iinc dX1_forgetAll_18 rfl (Nat.le_of_ble_eq_true rfl) (?_ : RR _ _ _ _ 21 [_, _] _ _ _)
  refine R_goto (t := 6) dX1_forgetAll_21 rfl (?_ : RR _ _ _ _ 6 _ _ _ _)
  refine R_iload_n dX1_forgetAll_6 rfl (?_ : RR _ _ _ _ 7 _ _ _ _)
  refine R_iconst dX1_forgetAll_7 (?_ : RR _ _ _ _ 8 _ _ _ _)
  refine R_icmp_ge (t := 24) dX1_forgetAll_8 rfl (fun c8 => ?_) (fun c8 => ?_)
  · exfalso; omega
  refine R_aload_n dX1_forgetAll_11 rfl (?_ : RR _ _ _ _ 12 _ _ _ _)
  refine R_getr dX1_forgetAll_12 flX1_20 cok_1 rfl (by decide) (?_ : RR _ _ _ _ 15 _ _ _ _)
  refine R_iload_n dX1_forgetAll_15 rfl (?_ : RR _ _ _ _ 16 _ _ _ _)
  refine R_iconst dX1_forgetAll_16 (?_ : RR _ _ _ _ 17 _ _ _ _)
  refine R_zast dX1_forgetAll_17 (?_ : RR _ _ _ _ 18 _ _ _ _)
  try simp (disch := omega) only [rup_rup, rup_sort, rupS_def, rup_s, rup_n, fup_fup, fup_s, fup_n]
  refine R_iinc dX1_forgetAll_18 rfl (Nat.le_of_ble_eq_true rfl) (?_ : RR _ _ _ _ 21 [_, _] _ _ _)
  refine R_goto (t := 6) dX1_forgetAll_21 rfl (?_ : RR _ _ _ _ 6 _ _ _ _)
  refine R_iload_n dX1_forgetAll_6 rfl (?_ : RR _ _ _ _ 7 _ _ _ _)
  refine R_iconst dX1_forgetAll_7 (?_ : RR _ _ _ _ 8 _ _ _ _)
  refine R_icmp_ge (t := 24) dX1_forgetAll_8 rfl (fun c8 => ?_) (fun c8 => ?_)
  rotate_left
  · exfalso; omega
  exact R_return dX1_forgetAll_24 trivial hQ
theorem T_X1_add {t x U : Nat} {h : Nat → Int → Int} (hx : h 44 4 = x) (hU : h 44 3 = U) (hx15 : x < 15) (hU15 : U ≤ 15) (ht : isTr t := by assumption) (htb : t + 4 < 44 := by omega) : MT mX1_add 2 [pR 44, pR t] h none (rup (trC h (48 + 5 * x) t) 44 (fup (fup (h 44) 4 (((x + 1) % 15 : Nat) : Int)) 3 (min 15 (U + 1)))) := by
  have hTr := isTr_a x (by omega)
  have hT0 := hTr.1
  refine MT.of (fun Q hQ => (?_ : RR mX1_add _ _ _ _ [pR 44, pR t] _ _ _))
  refine R_aload_n dX1_add_0 rfl (?_ : RR _ _ _ _ 1 _ _ _ _)
  refine R_getr dX1_add_1 flX1_11 cok_1 rfl (by decide) (?_ : RR _ _ _ _ 4 _ _ _ _)
  refine R_aload_n dX1_add_4 rfl (?_ : RR _ _ _ _ 5 _ _ _ _)
  refine R_geti (z := 4) dX1_add_5 flX1_32 cok_1 rfl (by decide) rfl (fun q5 => (?_ : RR _ _ _ _ 8 _ _ _ _))
  try simp (disch := omega) only [rup_rup, rup_sort, rupS_def, rup_s, rup_n, fup_fup, fup_s, fup_n, trC_n] at q5 ⊢
  rw [hx] at q5 ⊢
  refine R_aald dX1_add_8 (?_ : RR _ _ _ _ 9 _ _ _ _) (rf45 x hx15)
  refine R_aload_n dX1_add_9 rfl (?_ : RR _ _ _ _ 10 _ _ _ _)
  refine R_cVv1 dX1_add_10 mvX9_copyFrom mlX1_35 (by decide) (by decide) (Nat.le_of_ble_eq_true rfl) (Nat.le_of_ble_eq_true rfl) (T_X9_copyFrom) (?_ : RR _ _ _ _ 13 _ _ _ _)
  try simp (disch := omega) only [rup_rup, rup_sort, rupS_def, rup_s, rup_n, fup_fup, fup_s, fup_n, trC_n]
  refine R_aload_n dX1_add_13 rfl (?_ : RR _ _ _ _ 14 _ _ _ _)
  refine R_aload_n dX1_add_14 rfl (?_ : RR _ _ _ _ 15 _ _ _ _)
  refine R_geti (z := 4) dX1_add_15 flX1_32 cok_1 rfl (by decide) rfl (fun q15 => (?_ : RR _ _ _ _ 18 _ _ _ _))
  try simp (disch := omega) only [rup_rup, rup_sort, rupS_def, rup_s, rup_n, fup_fup, fup_s, fup_n, trC_n] at q15 ⊢
  rw [hx] at q15 ⊢
  refine R_iconst dX1_add_18 (?_ : RR _ _ _ _ 19 _ _ _ _)
  refine R_iadd dX1_add_19 (?_ : RR _ _ _ _ 20 _ _ _ _)
  refine R_bipush dX1_add_20 rfl (?_ : RR _ _ _ _ 22 _ _ _ _)
  refine R_irem dX1_add_22 (by omega) (by omega) (?_ : RR _ _ _ _ 23 _ _ _ _)
  rw [iRem_pos (by omega) (by omega) (by omega) (by omega)]
  refine R_puti (zk := 4) dX1_add_23 flX1_32 cok_1 (by decide) (fun q hq => by cases hq; rfl) rfl (?_ : RR _ _ _ _ 26 _ _ _ _)
  try simp (disch := omega) only [rup_rup, rup_sort, rupS_def, rup_s, rup_n, fup_fup, fup_s, fup_n, trC_n]
  refine R_aload_n dX1_add_26 rfl (?_ : RR _ _ _ _ 27 _ _ _ _)
  refine R_bipush dX1_add_27 rfl (?_ : RR _ _ _ _ 29 _ _ _ _)
  refine R_aload_n dX1_add_29 rfl (?_ : RR _ _ _ _ 30 _ _ _ _)
  refine R_geti (z := 3) dX1_add_30 flX1_25 cok_1 rfl (by decide) rfl (fun q30 => (?_ : RR _ _ _ _ 33 _ _ _ _))
  try simp (disch := omega) only [rup_rup, rup_sort, rupS_def, rup_s, rup_n, fup_fup, fup_s, fup_n, trC_n] at q30 ⊢
  rw [hU] at q30 ⊢
  refine R_iconst dX1_add_33 (?_ : RR _ _ _ _ 34 _ _ _ _)
  refine R_iadd dX1_add_34 (?_ : RR _ _ _ _ 35 _ _ _ _)
  refine R_min dX1_add_35 mmX1_39 (by decide) (Nat.le_of_ble_eq_true rfl) (?_ : RR _ _ _ _ 38 _ _ _ _)
  try simp (disch := omega) only [rup_rup, rup_sort, rupS_def, rup_s, rup_n, fup_fup, fup_s, fup_n, trC_n]
  refine R_puti (zk := 3) dX1_add_38 flX1_25 cok_1 (by decide) (fun q hq => by cases hq; rfl) rfl (?_ : RR _ _ _ _ 41 _ _ _ _)
  try simp (disch := omega) only [rup_rup, rup_sort, rupS_def, rup_s, rup_n, fup_fup, fup_s, fup_n, trC_n]
  exact R_return dX1_add_41 trivial hQ
theorem T_X1_back {t x U : Nat} {h : Nat → Int → Int} (hx : h 44 4 = x) (hU : h 44 3 = U) (hx15 : x < 15) (hU15 : 1 ≤ U ∧ U ≤ 15) (ht : isTr t := by assumption) (htb : t + 4 < 44 := by omega) : MT mX1_back 2 [pR 44, pR t] h none (trC (rup h 44 (fup (fup (h 44) 4 (((x + 14) % 15 : Nat) : Int)) 3 (U - 1))) t (48 + 5 * ((x + 14) % 15))) := by
  have hTr := isTr_a ((x + 14) % 15) (by omega)
  have hT0 := ht.1
  refine MT.of (fun Q hQ => (?_ : RR mX1_back _ _ _ _ [pR 44, pR t] _ _ _))
  refine R_aload_n dX1_back_0 rfl (?_ : RR _ _ _ _ 1 _ _ _ _)
  refine R_aload_n dX1_back_1 rfl (?_ : RR _ _ _ _ 2 _ _ _ _)
  refine R_geti (z := 4) dX1_back_2 flX1_32 cok_1 rfl (by decide) rfl (fun q2 => (?_ : RR _ _ _ _ 5 _ _ _ _))
  try simp (disch := omega) only [rup_rup, rup_sort, rupS_def, rup_s, rup_n, fup_fup, fup_s, fup_n] at q2 ⊢
  rw [hx] at q2 ⊢
  refine R_bipush dX1_back_5 rfl (?_ : RR _ _ _ _ 7 _ _ _ _)
  refine R_iadd dX1_back_7 (?_ : RR _ _ _ _ 8 _ _ _ _)
  refine R_iconst dX1_back_8 (?_ : RR _ _ _ _ 9 _ _ _ _)
  refine R_isub dX1_back_9 (?_ : RR _ _ _ _ 10 _ _ _ _)
  refine R_bipush dX1_back_10 rfl (?_ : RR _ _ _ _ 12 _ _ _ _)
  refine R_irem dX1_back_12 (by omega) (by omega) (?_ : RR _ _ _ _ 13 _ _ _ _)
  rw [iRem_pos (by omega) (by omega) (by omega) (by omega), show ((x : Int) + 15 - 1) % 15 = (((x + 14) % 15 : Nat) : Int) by omega]
  refine R_puti (zk := 4) dX1_back_13 flX1_32 cok_1 (by decide) (fun q hq => by cases hq; rfl) rfl (?_ : RR _ _ _ _ 16 _ _ _ _)
  try simp (disch := omega) only [rup_rup, rup_sort, rupS_def, rup_s, rup_n, fup_fup, fup_s, fup_n]
  refine R_aload_n dX1_back_16 rfl (?_ : RR _ _ _ _ 17 _ _ _ _)
  refine R_iconst dX1_back_17 (?_ : RR _ _ _ _ 18 _ _ _ _)
  refine R_aload_n dX1_back_18 rfl (?_ : RR _ _ _ _ 19 _ _ _ _)
  refine R_geti (z := 3) dX1_back_19 flX1_25 cok_1 rfl (by decide) rfl (fun q19 => (?_ : RR _ _ _ _ 22 _ _ _ _))
  try simp (disch := omega) only [rup_rup, rup_sort, rupS_def, rup_s, rup_n, fup_fup, fup_s, fup_n] at q19 ⊢
  rw [hU] at q19 ⊢
  refine R_iconst dX1_back_22 (?_ : RR _ _ _ _ 23 _ _ _ _)
  refine R_isub dX1_back_23 (?_ : RR _ _ _ _ 24 _ _ _ _)
  refine R_max dX1_back_24 mmX1_45 (by decide) (Nat.le_of_ble_eq_true rfl) (?_ : RR _ _ _ _ 27 _ _ _ _)
  try simp (disch := omega) only [rup_rup, rup_sort, rupS_def, rup_s, rup_n, fup_fup, fup_s, fup_n]
  rw [show max 0 ((U : Int) - 1) = U - 1 by omega]
  refine R_puti (zk := 3) dX1_back_27 flX1_25 cok_1 (by decide) (fun q hq => by cases hq; rfl) rfl (?_ : RR _ _ _ _ 30 _ _ _ _)
  try simp (disch := omega) only [rup_rup, rup_sort, rupS_def, rup_s, rup_n, fup_fup, fup_s, fup_n]
  refine R_aload_n dX1_back_30 rfl (?_ : RR _ _ _ _ 31 _ _ _ _)
  refine R_aload_n dX1_back_31 rfl (?_ : RR _ _ _ _ 32 _ _ _ _)
  refine R_getr dX1_back_32 flX1_11 cok_1 rfl (by decide) (?_ : RR _ _ _ _ 35 _ _ _ _)
  refine R_aload_n dX1_back_35 rfl (?_ : RR _ _ _ _ 36 _ _ _ _)
  refine R_geti (z := 4) dX1_back_36 flX1_32 cok_1 rfl (by decide) rfl (fun q36 => (?_ : RR _ _ _ _ 39 _ _ _ _))
  try simp (disch := omega) only [rup_rup, rup_sort, rupS_def, rup_s, rup_n, fup_fup, fup_s, fup_n] at q36 ⊢
  refine R_aald dX1_back_39 (?_ : RR _ _ _ _ 40 _ _ _ _) (rf45 ((x + 14) % 15) (by omega))
  refine R_cVv1 dX1_back_40 mvX9_copyFrom mlX1_35 (by decide) (by decide) (Nat.le_of_ble_eq_true rfl) (Nat.le_of_ble_eq_true rfl) (T_X9_copyFrom) (?_ : RR _ _ _ _ 43 _ _ _ _)
  try simp (disch := omega) only [rup_rup, rup_sort, rupS_def, rup_s, rup_n, fup_fup, fup_s, fup_n]
  exact R_return dX1_back_43 trivial hQ
theorem T_X1_keepUnder {t i : Nat} {h : Nat → Int → Int} (hi : i < 3) (ht : isTr t := by assumption) (htb : t + 4 < 44 := by omega) : MT mX1_keepUnder 2 [pR 44, pI i, pR t] h none (rup (trC h (123 + 5 * i) t) 47 (fup (h 47) i 1)) := by
  have hTr := isTr_a (15 + i) (by omega)
  rw [show 48 + 5 * (15 + i) = 123 + 5 * i by omega] at hTr
  have hT0 := hTr.1
  refine MT.of (fun Q hQ => (?_ : RR mX1_keepUnder _ _ _ _ [pR 44, pI i, pR t] _ _ _))
  refine R_aload_n dX1_keepUnder_0 rfl (?_ : RR _ _ _ _ 1 _ _ _ _)
  refine R_getr dX1_keepUnder_1 flX1_17 cok_1 rfl (by decide) (?_ : RR _ _ _ _ 4 _ _ _ _)
  refine R_iload_n dX1_keepUnder_4 rfl (?_ : RR _ _ _ _ 5 _ _ _ _)
  refine R_aald dX1_keepUnder_5 (?_ : RR _ _ _ _ 6 _ _ _ _) (rf46 i hi)
  refine R_aload_n dX1_keepUnder_6 rfl (?_ : RR _ _ _ _ 7 _ _ _ _)
  refine R_cVv1 dX1_keepUnder_7 mvX9_copyFrom mlX1_35 (by decide) (by decide) (Nat.le_of_ble_eq_true rfl) (Nat.le_of_ble_eq_true rfl) (T_X9_copyFrom) (?_ : RR _ _ _ _ 10 _ _ _ _)
  try simp (disch := omega) only [rup_rup, rup_sort, rupS_def, rup_s, rup_n, fup_fup, fup_s, fup_n, trC_n]
  refine R_aload_n dX1_keepUnder_10 rfl (?_ : RR _ _ _ _ 11 _ _ _ _)
  refine R_getr dX1_keepUnder_11 flX1_20 cok_1 rfl (by decide) (?_ : RR _ _ _ _ 14 _ _ _ _)
  refine R_iload_n dX1_keepUnder_14 rfl (?_ : RR _ _ _ _ 15 _ _ _ _)
  refine R_iconst dX1_keepUnder_15 (?_ : RR _ _ _ _ 16 _ _ _ _)
  refine R_zast dX1_keepUnder_16 (?_ : RR _ _ _ _ 17 _ _ _ _)
  try simp (disch := omega) only [rup_rup, rup_sort, rupS_def, rup_s, rup_n, fup_fup, fup_s, fup_n, trC_n]
  exact R_return dX1_keepUnder_17 trivial hQ
/-! where it was seen -/
def fil (z : Int) (f : Int → Int) (n : Nat) : Int → Int := fun j => if 0 ≤ j ∧ j < n then z else f j
theorem fil_0 {z : Int} {f : Int → Int} : fil z f 0 = f := by
  funext j
  unfold fil
  rw [if_neg (by omega)]
theorem fil_s {z : Int} {f : Int → Int} {n : Nat} : fup (fil z f n) n z = fil z f (n + 1) := by
  funext j
  unfold fup fil
  by_cases hj : j = n
  · rw [if_pos hj, if_pos (by omega)]
  · rw [if_neg hj]
    by_cases h2 : 0 ≤ j ∧ j < n
    · rw [if_pos h2, if_pos (by omega)]
    · rw [if_neg h2, if_neg (by omega)]
theorem T_X6_clear {h : Nat → Int → Int} : MT mX6_clear 0 [pR 138] h none (rup (rup h 138 (fup (fup (h 138) 0 0) 1 0)) 139 (fil 511 (h 139) 13)) := by
  refine MT.of (fun Q hQ => (?_ : RR mX6_clear _ _ _ _ [pR 138, pU] _ _ _))
  have L : ∀ k i : Nat, i + k = 13 → RR mX6_clear 0 0 0 12 [pR 138, pI i] [] (shp0, rf0, rup (rup h 138 (fup (fup (h 138) 0 0) 1 0)) 139 (fil 511 (h 139) i)) Q := by
    intro k
    induction k with
    | zero =>
      intro i hi 
      obtain rfl : i = 13 := by omega
      refine R_iload_n dX6_clear_12 rfl (?_ : RR _ _ _ _ 13 _ _ _ _)
      refine R_bipush dX6_clear_13 rfl (?_ : RR _ _ _ _ 15 _ _ _ _)
      refine R_icmp_ge (t := 33) dX6_clear_15 rfl (fun c15 => ?_) (fun c15 => ?_)
      rotate_left
      · exfalso; omega
      exact R_return dX6_clear_33 trivial hQ
    | succ k ih =>
      intro i hi 
      refine R_iload_n dX6_clear_12 rfl (?_ : RR _ _ _ _ 13 _ _ _ _)
      refine R_bipush dX6_clear_13 rfl (?_ : RR _ _ _ _ 15 _ _ _ _)
      refine R_icmp_ge (t := 33) dX6_clear_15 rfl (fun c15 => ?_) (fun c15 => ?_)
      · exfalso; omega
      refine R_aload_n dX6_clear_18 rfl (?_ : RR _ _ _ _ 19 _ _ _ _)
      refine R_getr dX6_clear_19 flX6_11 cok_6 rfl (by decide) (?_ : RR _ _ _ _ 22 _ _ _ _)
      refine R_iload_n dX6_clear_22 rfl (?_ : RR _ _ _ _ 23 _ _ _ _)
      refine R_sipush dX6_clear_23 rfl (?_ : RR _ _ _ _ 26 _ _ _ _)
      refine R_iast dX6_clear_26 (?_ : RR _ _ _ _ 27 _ _ _ _)
      try simp (disch := omega) only [rup_rup, rup_sort, rupS_def, rup_s, rup_n, fup_fup, fup_s, fup_n]
      rw [fil_s]
      refine R_iinc dX6_clear_27 rfl (Nat.le_of_ble_eq_true rfl) (?_ : RR _ _ _ _ 30 [_, _] _ _ _)
      refine R_goto (t := 12) dX6_clear_30 rfl (?_ : RR _ _ _ _ 12 _ _ _ _)
      exact ih (i + 1) (by omega)
  refine R_aload_n dX6_clear_0 rfl (?_ : RR _ _ _ _ 1 _ _ _ _)
  refine R_iconst dX6_clear_1 (?_ : RR _ _ _ _ 2 _ _ _ _)
  refine R_puti (zk := 0) dX6_clear_2 flX6_21 cok_6 (by decide) (fun q hq => by cases hq; rfl) rfl (?_ : RR _ _ _ _ 5 _ _ _ _)
  try simp (disch := omega) only [rup_rup, rup_sort, rupS_def, rup_s, rup_n, fup_fup, fup_s, fup_n]
  refine R_aload_n dX6_clear_5 rfl (?_ : RR _ _ _ _ 6 _ _ _ _)
  refine R_iconst dX6_clear_6 (?_ : RR _ _ _ _ 7 _ _ _ _)
  refine R_puti (zk := 1) dX6_clear_7 flX6_25 cok_6 (by decide) (fun q hq => by cases hq; rfl) rfl (?_ : RR _ _ _ _ 10 _ _ _ _)
  try simp (disch := omega) only [rup_rup, rup_sort, rupS_def, rup_s, rup_n, fup_fup, fup_s, fup_n]
  refine R_iconst dX6_clear_10 (?_ : RR _ _ _ _ 11 _ _ _ _)
  refine R_istore_n dX6_clear_11 (Nat.le_of_ble_eq_true rfl) (?_ : RR _ _ _ _ 12 [_, _] _ _ _)
  have L0 := L 13 0 (by omega)
  rw [fil_0] at L0
  rw [show rup (rup h 138 (fup (fup (h 138) 0 0) 1 0)) 139 (h 139) = rup h 138 (fup (fup (h 138) 0 0) 1 0) by rw [← rup_n (h := h) (a := 138) (b := 139) (f := fup (fup (h 138) 0 0) 1 0) (by decide), rup_self]] at L0
  exact L0
theorem T_X6_add {k c y : Int} {n : Nat} {h : Nat → Int → Int} (hk : 0 ≤ k ∧ k ≤ 12) (hc : 0 ≤ c ∧ c ≤ 8) (hy : y = 0 ∨ y = 1) (hn : h 138 0 = n) (hn12 : n < 12) : MT mX6_add 1 [pR 138, pI k, pI c, pI y] h none (rup (rup h 138 (fup (fup (h 138) 1 (max (h 138 1) k)) 0 (n + 1))) 139 (fup (h 139) k (if y = 0 then w32 (iAnd (h 139 k) (iXor (iShl 1 c) (-1))) else w32 (iAnd (h 139 k) (iShl 1 c))))) := by
  refine MT.of (fun Q hQ => (?_ : RR mX6_add _ _ _ _ [pR 138, pI k, pI c, pI y] _ _ _))
  refine R_aload_n dX6_add_0 rfl (?_ : RR _ _ _ _ 1 _ _ _ _)
  refine R_getr dX6_add_1 flX6_11 cok_6 rfl (by decide) (?_ : RR _ _ _ _ 4 _ _ _ _)
  refine R_iload_n dX6_add_4 rfl (?_ : RR _ _ _ _ 5 _ _ _ _)
  refine R_dup2 dX6_add_5 (fun _ => rfl) (fun _ => rfl) (?_ : RR _ _ _ _ 6 _ _ _ _)
  refine R_iald dX6_add_6 (fun q6 => (?_ : RR _ _ _ _ 7 _ _ _ _))
  try simp (disch := omega) only [rup_rup, rup_sort, rupS_def, rup_s, rup_n, fup_fup, fup_s, fup_n, hn] at q6 ⊢
  refine R_iload_n dX6_add_7 rfl (?_ : RR _ _ _ _ 8 _ _ _ _)
  refine R_if_eq (t := 17) dX6_add_8 rfl (fun c8 => ?_) (fun c8 => ?_)
  · rw [if_pos c8] at hQ
    refine R_iconst dX6_add_17 (?_ : RR _ _ _ _ 18 _ _ _ _)
    refine R_iload_n dX6_add_18 rfl (?_ : RR _ _ _ _ 19 _ _ _ _)
    refine R_ishl dX6_add_19 (?_ : RR _ _ _ _ 20 _ _ _ _)
    refine R_iconst dX6_add_20 (?_ : RR _ _ _ _ 21 _ _ _ _)
    refine R_ixor dX6_add_21 (?_ : RR _ _ _ _ 22 _ _ _ _)
    refine R_iand dX6_add_22 (?_ : RR _ _ _ _ 23 _ _ _ _)
    refine R_wrap ?_
    refine R_iast (hz := w32_r _) dX6_add_23 (?_ : RR _ _ _ _ 24 _ _ _ _)
    try simp (disch := omega) only [rup_rup, rup_sort, rupS_def, rup_s, rup_n, fup_fup, fup_s, fup_n, hn]
    refine R_aload_n dX6_add_24 rfl (?_ : RR _ _ _ _ 25 _ _ _ _)
    refine R_aload_n dX6_add_25 rfl (?_ : RR _ _ _ _ 26 _ _ _ _)
    refine R_geti (z := 1) dX6_add_26 flX6_25 cok_6 rfl (by decide) rfl (fun q26 => (?_ : RR _ _ _ _ 29 _ _ _ _))
    try simp (disch := omega) only [rup_rup, rup_sort, rupS_def, rup_s, rup_n, fup_fup, fup_s, fup_n, hn] at q26 ⊢
    refine R_iload_n dX6_add_29 rfl (?_ : RR _ _ _ _ 30 _ _ _ _)
    refine R_max dX6_add_30 mmX6_28 (by decide) (Nat.le_of_ble_eq_true rfl) (?_ : RR _ _ _ _ 33 _ _ _ _)
    try simp (disch := omega) only [rup_rup, rup_sort, rupS_def, rup_s, rup_n, fup_fup, fup_s, fup_n, hn]
    refine R_puti (zk := 1) dX6_add_33 flX6_25 cok_6 (by decide) (fun q hq => by cases hq; rfl) rfl (?_ : RR _ _ _ _ 36 _ _ _ _)
    try simp (disch := omega) only [rup_rup, rup_sort, rupS_def, rup_s, rup_n, fup_fup, fup_s, fup_n, hn]
    refine R_aload_n dX6_add_36 rfl (?_ : RR _ _ _ _ 37 _ _ _ _)
    refine R_dup dX6_add_37 (fun _ => rfl) (?_ : RR _ _ _ _ 38 _ _ _ _)
    refine R_geti (z := 0) dX6_add_38 flX6_21 cok_6 rfl (by decide) rfl (fun q38 => (?_ : RR _ _ _ _ 41 _ _ _ _))
    try simp (disch := omega) only [rup_rup, rup_sort, rupS_def, rup_s, rup_n, fup_fup, fup_s, fup_n, hn] at q38 ⊢
    refine R_iconst dX6_add_41 (?_ : RR _ _ _ _ 42 _ _ _ _)
    refine R_iadd dX6_add_42 (?_ : RR _ _ _ _ 43 _ _ _ _)
    refine R_puti (zk := 0) dX6_add_43 flX6_21 cok_6 (by decide) (fun q hq => by cases hq; rfl) rfl (?_ : RR _ _ _ _ 46 _ _ _ _)
    try simp (disch := omega) only [rup_rup, rup_sort, rupS_def, rup_s, rup_n, fup_fup, fup_s, fup_n, hn]
    exact R_return dX6_add_46 trivial hQ
  · rw [if_neg c8] at hQ
    refine R_iconst dX6_add_11 (?_ : RR _ _ _ _ 12 _ _ _ _)
    refine R_iload_n dX6_add_12 rfl (?_ : RR _ _ _ _ 13 _ _ _ _)
    refine R_ishl dX6_add_13 (?_ : RR _ _ _ _ 14 _ _ _ _)
    refine R_goto (t := 22) dX6_add_14 rfl (?_ : RR _ _ _ _ 22 _ _ _ _)
    refine R_iand dX6_add_22 (?_ : RR _ _ _ _ 23 _ _ _ _)
    refine R_wrap ?_
    refine R_iast (hz := w32_r _) dX6_add_23 (?_ : RR _ _ _ _ 24 _ _ _ _)
    try simp (disch := omega) only [rup_rup, rup_sort, rupS_def, rup_s, rup_n, fup_fup, fup_s, fup_n, hn]
    refine R_aload_n dX6_add_24 rfl (?_ : RR _ _ _ _ 25 _ _ _ _)
    refine R_aload_n dX6_add_25 rfl (?_ : RR _ _ _ _ 26 _ _ _ _)
    refine R_geti (z := 1) dX6_add_26 flX6_25 cok_6 rfl (by decide) rfl (fun q26 => (?_ : RR _ _ _ _ 29 _ _ _ _))
    try simp (disch := omega) only [rup_rup, rup_sort, rupS_def, rup_s, rup_n, fup_fup, fup_s, fup_n, hn] at q26 ⊢
    refine R_iload_n dX6_add_29 rfl (?_ : RR _ _ _ _ 30 _ _ _ _)
    refine R_max dX6_add_30 mmX6_28 (by decide) (Nat.le_of_ble_eq_true rfl) (?_ : RR _ _ _ _ 33 _ _ _ _)
    try simp (disch := omega) only [rup_rup, rup_sort, rupS_def, rup_s, rup_n, fup_fup, fup_s, fup_n, hn]
    refine R_puti (zk := 1) dX6_add_33 flX6_25 cok_6 (by decide) (fun q hq => by cases hq; rfl) rfl (?_ : RR _ _ _ _ 36 _ _ _ _)
    try simp (disch := omega) only [rup_rup, rup_sort, rupS_def, rup_s, rup_n, fup_fup, fup_s, fup_n, hn]
    refine R_aload_n dX6_add_36 rfl (?_ : RR _ _ _ _ 37 _ _ _ _)
    refine R_dup dX6_add_37 (fun _ => rfl) (?_ : RR _ _ _ _ 38 _ _ _ _)
    refine R_geti (z := 0) dX6_add_38 flX6_21 cok_6 rfl (by decide) rfl (fun q38 => (?_ : RR _ _ _ _ 41 _ _ _ _))
    try simp (disch := omega) only [rup_rup, rup_sort, rupS_def, rup_s, rup_n, fup_fup, fup_s, fup_n, hn] at q38 ⊢
    refine R_iconst dX6_add_41 (?_ : RR _ _ _ _ 42 _ _ _ _)
    refine R_iadd dX6_add_42 (?_ : RR _ _ _ _ 43 _ _ _ _)
    refine R_puti (zk := 0) dX6_add_43 flX6_21 cok_6 (by decide) (fun q hq => by cases hq; rfl) rfl (?_ : RR _ _ _ _ 46 _ _ _ _)
    try simp (disch := omega) only [rup_rup, rup_sort, rupS_def, rup_s, rup_n, fup_fup, fup_s, fup_n, hn]
    exact R_return dX6_add_46 trivial hQ
theorem T_X6_waysFrom {k c : Int} {h : Nat → Int → Int} (hk : 0 ≤ k ∧ k ≤ 12 := by omega) (hc : 0 ≤ c ∧ c ≤ 8 := by omega) : MT mX6_waysFrom 0 [pR 138, pI k, pI c] h (some (pI (h 141 (k * 9 + c)))) h := by
  refine MT.of (fun Q hQ => (?_ : RR mX6_waysFrom _ _ _ _ [pR 138, pI k, pI c] _ _ _))
  refine R_aload_n dX6_waysFrom_0 rfl (?_ : RR _ _ _ _ 1 _ _ _ _)
  refine R_getr dX6_waysFrom_1 flX6_18 cok_6 rfl (by decide) (?_ : RR _ _ _ _ 4 _ _ _ _)
  refine R_iload_n dX6_waysFrom_4 rfl (?_ : RR _ _ _ _ 5 _ _ _ _)
  refine R_bipush dX6_waysFrom_5 rfl (?_ : RR _ _ _ _ 7 _ _ _ _)
  refine R_imul dX6_waysFrom_7 (?_ : RR _ _ _ _ 8 _ _ _ _)
  refine R_iload_n dX6_waysFrom_8 rfl (?_ : RR _ _ _ _ 9 _ _ _ _)
  refine R_iadd dX6_waysFrom_9 (?_ : RR _ _ _ _ 10 _ _ _ _)
  refine R_iald dX6_waysFrom_10 (fun q10 => (?_ : RR _ _ _ _ 11 _ _ _ _))
  exact R_ireturn dX6_waysFrom_11 trivial hQ
theorem T_X6_haltsBehind {k : Int} {h : Nat → Int → Int} (hk : 0 ≤ k ∧ k ≤ 12 := by omega) : MT mX6_haltsBehind 0 [pR 138, pI k] h (some (pI (h 140 k))) h := by
  refine MT.of (fun Q hQ => (?_ : RR mX6_haltsBehind _ _ _ _ [pR 138, pI k] _ _ _))
  refine R_aload_n dX6_haltsBehind_0 rfl (?_ : RR _ _ _ _ 1 _ _ _ _)
  refine R_getr dX6_haltsBehind_1 flX6_15 cok_6 rfl (by decide) (?_ : RR _ _ _ _ 4 _ _ _ _)
  refine R_iload_n dX6_haltsBehind_4 rfl (?_ : RR _ _ _ _ 5 _ _ _ _)
  refine R_iald dX6_haltsBehind_5 (fun q5 => (?_ : RR _ _ _ _ 6 _ _ _ _))
  exact R_ireturn dX6_haltsBehind_6 trivial hQ
theorem T_X0_shut {t H : Nat} {e : Int} {h : Nat → Int → Int} (hH : h t 0 = H) (hE : exB (h (t + 1))) (hM : miB (h (t + 2))) (hB : bnd (h (t + 3))) (ht : isNet t := by assumption) (hH9 : H ≤ 9 := by omega) (he : 0 ≤ e ∧ e < 18 := by omega) : MT mX0_shut 3 [pR t, pI e] h none (rup (rup (rup h (t + 1) (fup (h (t + 1)) e (-1))) (t + 2) (fup (h (t + 2)) e 0)) (t + 3) (wAll H (fup (h (t + 1)) e (-1)) (fup (h (t + 2)) e 0) (h (t + 3)))) := by
  obtain ⟨t0, t1, t2, t3, t4, t5, t6⟩ := id ht
  have hE2 : exB (fup (h (t + 1)) e (-1)) := fun z z0 z1 => by
    unfold fup
    split
    · omega
    · exact hE z z0 z1
  have hM2 : miB (fup (h (t + 2)) e 0) := fun z z0 z1 => by
    unfold fup
    split
    · omega
    · exact hM z z0 z1
  refine MT.of (fun Q hQ => (?_ : RR mX0_shut _ _ _ _ [pR t, pI e] _ _ _))
  refine R_aload_n dX0_shut_0 rfl (?_ : RR _ _ _ _ 1 _ _ _ _)
  refine R_getr dX0_shut_1 flX0_15 cok_0 rfl (by decide) (?_ : RR _ _ _ _ 4 _ _ _ _)
  refine R_iload_n dX0_shut_4 rfl (?_ : RR _ _ _ _ 5 _ _ _ _)
  refine R_iconst dX0_shut_5 (?_ : RR _ _ _ _ 6 _ _ _ _)
  refine R_iast dX0_shut_6 (?_ : RR _ _ _ _ 7 _ _ _ _)
  try simp (disch := omega) only [rup_rup, rup_sort, rupS_def, rup_s, rup_n, fup_fup, fup_s, fup_n]
  refine R_aload_n dX0_shut_7 rfl (?_ : RR _ _ _ _ 8 _ _ _ _)
  refine R_getr dX0_shut_8 flX0_19 cok_0 rfl (by decide) (?_ : RR _ _ _ _ 11 _ _ _ _)
  refine R_iload_n dX0_shut_11 rfl (?_ : RR _ _ _ _ 12 _ _ _ _)
  refine R_iconst dX0_shut_12 (?_ : RR _ _ _ _ 13 _ _ _ _)
  refine R_iast dX0_shut_13 (?_ : RR _ _ _ _ 14 _ _ _ _)
  try simp (disch := omega) only [rup_rup, rup_sort, rupS_def, rup_s, rup_n, fup_fup, fup_s, fup_n]
  refine R_aload_n dX0_shut_14 rfl (?_ : RR _ _ _ _ 15 _ _ _ _)
  refine R_cVv0 dX0_shut_15 mvX0_measure mlX0_48 (by decide) (by decide) (Nat.le_of_ble_eq_true rfl) (Nat.le_of_ble_eq_true rfl) (T_X0_measure (H := H) (by simp (disch := omega) only [rup_n]; exact hH) (by simp (disch := omega) only [rup_n, rup_s]; exact hE2) (by simp (disch := omega) only [rup_n, rup_s]; exact hM2) (by simp (disch := omega) only [rup_n]; exact hB)) (?_ : RR _ _ _ _ 18 _ _ _ _)
  try simp (disch := omega) only [rup_rup, rup_sort, rupS_def, rup_s, rup_n, fup_fup, fup_s, fup_n]
  exact R_return dX0_shut_18 trivial hQ
