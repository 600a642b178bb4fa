section CS
variable {k : Nat} {h : Nat → Int → Int} {sem : Sem} {H np nc len n : Nat} {v : Int}
theorem m255 : ∀ i : Nat, i < 32 → ¬ i < 8 → (Int32.ofInt 255).toBitVec.getLsbD i = false := by decide +kernel
theorem by_s {v s : Int} (hs : s = 24 ∨ s = 16 ∨ s = 8 ∨ s = 0) : iAnd (iUshr v s) 255 = iAnd (iShr v s) 255 := by
  unfold iAnd iUshr iShr
  rw [Int32.ofInt_toInt, Int32.ofInt_toInt]
  congr 1
  generalize Int32.ofInt v = x
  apply Int32.toBitVec_inj.mp
  rw [Int32.toBitVec_and, Int32.toBitVec_and]
  apply BitVec.eq_of_getLsbD_eq
  intro i hi
  rw [BitVec.getLsbD_and, BitVec.getLsbD_and]
  by_cases q : i < 8
  · congr 1
    have key : ∀ s : Nat, s ≤ 24 → (x.toBitVec >>> s).getLsbD i = (x.toBitVec.sshiftRight s).getLsbD i := fun s hs => by
      rw [BitVec.getLsbD_ushiftRight, BitVec.getLsbD_sshiftRight]
      simp [show i < 32 from hi, show s + i < 32 by omega]
    rcases hs with rfl | rfl | rfl | rfl
    · exact key 24 (by omega)
    · exact key 16 (by omega)
    · exact key 8 (by omega)
    · exact key 0 (by omega)
  · rw [m255 i hi q]
    simp
theorem by_b {v : Int} : 0 ≤ iAnd v 255 ∧ iAnd v 255 ≤ 255 := by
  obtain ⟨j, hj, e⟩ := pk_andE (Int32.ofInt v) (m := 255) 8 (by decide)
  have e1 : iAnd v 255 = (nI j).toInt := by
    unfold iAnd
    rw [← e]
    rfl
  rw [e1, nI_toInt (by omega)]
  omega
theorem T_X11_sign_no (hn : 76 < h 1 1 ∧ h 1 1 ≤ 80) : MT mX11_sign 1 [pR 0, pI v] h (some (pI (-1))) h := by
  refine MT.of (fun Q hQ => (?_ : RR mX11_sign _ _ _ _ [pR 0, pI v] _ _ _))
  refine R_aload_n dX11_sign_0 rfl (?_ : RR _ _ _ _ 1 _ _ _ _)
  refine R_getr dX11_sign_1 flX11_10 cok_11 rfl (by decide) (?_ : RR _ _ _ _ 4 _ _ _ _)
  refine R_geti (z := 1) dX11_sign_4 flX11_91 cok_7 rfl (by decide) rfl (fun q4 => (?_ : RR _ _ _ _ 7 _ _ _ _))
  refine R_iconst dX11_sign_7 (?_ : RR _ _ _ _ 8 _ _ _ _)
  refine R_iadd dX11_sign_8 (?_ : RR _ _ _ _ 9 _ _ _ _)
  refine R_bipush dX11_sign_9 rfl (?_ : RR _ _ _ _ 11 _ _ _ _)
  refine R_icmp_le (t := 16) dX11_sign_11 rfl (fun c11 => ?_) (fun c11 => ?_)
  · exfalso; omega
  refine R_iconst dX11_sign_14 (?_ : RR _ _ _ _ 15 _ _ _ _)
  exact R_ireturn dX11_sign_15 trivial hQ
theorem T_X11_sign_yes (hn : h 1 1 = n) (h76 : n ≤ 76) (hv : r32 v) : MT mX11_sign 1 [pR 0, pI v] h (some (pI (n + 1 + 1 + 1 + 1))) (rup (rup h 1 (fup (h 1) 1 (n + 1 + 1 + 1 + 1))) 2 (fup (fup (fup (fup (h 2) n (iAnd (iUshr v 24) 255)) (n + 1) (iAnd (iUshr v 16) 255)) (n + 1 + 1) (iAnd (iUshr v 8) 255)) (n + 1 + 1 + 1) (iAnd (iUshr v 0) 255))) := by
  refine MT.of (fun Q hQ => (?_ : RR mX11_sign _ _ _ _ [pR 0, pI v] _ _ _))
  refine R_aload_n dX11_sign_0 rfl (?_ : RR _ _ _ _ 1 _ _ _ _)
  refine R_getr dX11_sign_1 flX11_10 cok_11 rfl (by decide) (?_ : RR _ _ _ _ 4 _ _ _ _)
  refine R_geti (z := 1) dX11_sign_4 flX11_91 cok_7 rfl (by decide) rfl (fun q4 => (?_ : RR _ _ _ _ 7 _ _ _ _))
  try simp (disch := omega) only [rup_rup, rup_sort, rupS_def, rup_s, rup_n, fup_fup, fup_s, fup_n, hn] at q4 ⊢
  refine R_iconst dX11_sign_7 (?_ : RR _ _ _ _ 8 _ _ _ _)
  refine R_iadd dX11_sign_8 (?_ : RR _ _ _ _ 9 _ _ _ _)
  refine R_bipush dX11_sign_9 rfl (?_ : RR _ _ _ _ 11 _ _ _ _)
  refine R_icmp_le (t := 16) dX11_sign_11 rfl (fun c11 => ?_) (fun c11 => ?_)
  rotate_left
  · exfalso; omega
  refine R_aload_n dX11_sign_16 rfl (?_ : RR _ _ _ _ 17 _ _ _ _)
  refine R_getr dX11_sign_17 flX11_10 cok_11 rfl (by decide) (?_ : RR _ _ _ _ 20 _ _ _ _)
  refine R_iload_n dX11_sign_20 rfl (?_ : RR _ _ _ _ 21 _ _ _ _)
  refine R_cVv1 dX11_sign_21 mvX7_addFour mlX11_95 (by decide) (by decide) (Nat.le_of_ble_eq_true rfl) (Nat.le_of_ble_eq_true rfl) (T_X7_addFour hn h76) (?_ : RR _ _ _ _ 24 _ _ _ _)
  try simp (disch := omega) only [rup_rup, rup_sort, rupS_def, rup_s, rup_n, fup_fup, fup_s, fup_n, hn]
  refine R_aload_n dX11_sign_24 rfl (?_ : RR _ _ _ _ 25 _ _ _ _)
  refine R_getr dX11_sign_25 flX11_10 cok_11 rfl (by decide) (?_ : RR _ _ _ _ 28 _ _ _ _)
  refine R_geti (z := 1) dX11_sign_28 flX11_91 cok_7 rfl (by decide) rfl (fun q28 => (?_ : RR _ _ _ _ 31 _ _ _ _))
  try simp (disch := omega) only [rup_rup, rup_sort, rupS_def, rup_s, rup_n, fup_fup, fup_s, fup_n, hn] at q28 ⊢
  exact R_ireturn dX11_sign_31 trivial hQ
theorem T_X12_sign_no (hn : 76 < h 147 15 ∧ h 147 15 ≤ 80) : MT mX12_sign 0 [pR 147, pI v] h (some (pI (-1))) (rup h 147 (fup (h 147) 0 0)) := by
  refine MT.of (fun Q hQ => (?_ : RR mX12_sign _ _ _ _ [pR 147, pI v, pU] _ _ _))
  refine R_aload_n dX12_sign_0 rfl (?_ : RR _ _ _ _ 1 _ _ _ _)
  refine R_iconst dX12_sign_1 (?_ : RR _ _ _ _ 2 _ _ _ _)
  refine R_puti (zk := 0) dX12_sign_2 flX12_106 cok_12 (by decide) (fun q hq => by cases hq; rfl) rfl (?_ : RR _ _ _ _ 5 _ _ _ _)
  try simp (disch := omega) only [rup_rup, rup_sort, rupS_def, rup_s, rup_n, fup_fup, fup_s, fup_n]
  refine R_aload_n dX12_sign_5 rfl (?_ : RR _ _ _ _ 6 _ _ _ _)
  refine R_geti (z := 15) dX12_sign_6 flX12_148 cok_12 rfl (by decide) rfl (fun q6 => (?_ : RR _ _ _ _ 9 _ _ _ _))
  try simp (disch := omega) only [rup_rup, rup_sort, rupS_def, rup_s, rup_n, fup_fup, fup_s, fup_n] at q6 ⊢
  refine R_bipush dX12_sign_9 rfl (?_ : RR _ _ _ _ 11 _ _ _ _)
  refine R_icmp_le (t := 16) dX12_sign_11 rfl (fun c11 => ?_) (fun c11 => ?_)
  · exfalso; omega
  refine R_iconst dX12_sign_14 (?_ : RR _ _ _ _ 15 _ _ _ _)
  exact R_ireturn dX12_sign_15 trivial hQ
theorem T_X12_sign_yes (hn : h 147 15 = n) (h76 : n ≤ 76) (hv : r32 v) : MT mX12_sign 0 [pR 147, pI v] h (some (pI (n + 4))) (rup (rup h 147 (fup (fup (h 147) 0 0) 15 (n + 4))) 156 (fup (fup (fup (fup (h 156) (n + 0) (iAnd (iShr v (24 - 8 * 0)) 255)) (n + (0 + 1)) (iAnd (iShr v (24 - 8 * (0 + 1))) 255)) (n + (0 + 1 + 1)) (iAnd (iShr v (24 - 8 * (0 + 1 + 1))) 255)) (n + (0 + 1 + 1 + 1)) (iAnd (iShr v (24 - 8 * (0 + 1 + 1 + 1))) 255))) := by
  refine MT.of (fun Q hQ => (?_ : RR mX12_sign _ _ _ _ [pR 147, pI v, pU] _ _ _))
  refine R_aload_n dX12_sign_0 rfl (?_ : RR _ _ _ _ 1 _ _ _ _)
  refine R_iconst dX12_sign_1 (?_ : RR _ _ _ _ 2 _ _ _ _)
  refine R_puti (zk := 0) dX12_sign_2 flX12_106 cok_12 (by decide) (fun q hq => by cases hq; rfl) rfl (?_ : RR _ _ _ _ 5 _ _ _ _)
  try simp (disch := omega) only [rup_rup, rup_sort, rupS_def, rup_s, rup_n, fup_fup, fup_s, fup_n, hn]
  refine R_aload_n dX12_sign_5 rfl (?_ : RR _ _ _ _ 6 _ _ _ _)
  refine R_geti (z := 15) dX12_sign_6 flX12_148 cok_12 rfl (by decide) rfl (fun q6 => (?_ : RR _ _ _ _ 9 _ _ _ _))
  try simp (disch := omega) only [rup_rup, rup_sort, rupS_def, rup_s, rup_n, fup_fup, fup_s, fup_n, hn] at q6 ⊢
  refine R_bipush dX12_sign_9 rfl (?_ : RR _ _ _ _ 11 _ _ _ _)
  refine R_icmp_le (t := 16) dX12_sign_11 rfl (fun c11 => ?_) (fun c11 => ?_)
  rotate_left
  · exfalso; omega
  refine R_iconst dX12_sign_16 (?_ : RR _ _ _ _ 17 _ _ _ _)
  refine R_istore_n dX12_sign_17 (Nat.le_of_ble_eq_true rfl) (?_ : RR _ _ _ _ 18 [_, _, _] _ _ _)
  refine R_iload_n dX12_sign_18 rfl (?_ : RR _ _ _ _ 19 _ _ _ _)
  refine R_iconst dX12_sign_19 (?_ : RR _ _ _ _ 20 _ _ _ _)
  refine R_icmp_ge (t := 53) dX12_sign_20 rfl (fun c20 => ?_) (fun c20 => ?_)
  · exfalso; omega
  refine R_aload_n dX12_sign_23 rfl (?_ : RR _ _ _ _ 24 _ _ _ _)
  refine R_getr dX12_sign_24 flX12_39 cok_12 rfl (by decide) (?_ : RR _ _ _ _ 27 _ _ _ _)
  refine R_aload_n dX12_sign_27 rfl (?_ : RR _ _ _ _ 28 _ _ _ _)
  refine R_geti (z := 15) dX12_sign_28 flX12_148 cok_12 rfl (by decide) rfl (fun q28 => (?_ : RR _ _ _ _ 31 _ _ _ _))
  try simp (disch := omega) only [rup_rup, rup_sort, rupS_def, rup_s, rup_n, fup_fup, fup_s, fup_n, hn] at q28 ⊢
  refine R_iload_n dX12_sign_31 rfl (?_ : RR _ _ _ _ 32 _ _ _ _)
  refine R_iadd dX12_sign_32 (?_ : RR _ _ _ _ 33 _ _ _ _)
  refine R_iload_n dX12_sign_33 rfl (?_ : RR _ _ _ _ 34 _ _ _ _)
  refine R_bipush dX12_sign_34 rfl (?_ : RR _ _ _ _ 36 _ _ _ _)
  refine R_bipush dX12_sign_36 rfl (?_ : RR _ _ _ _ 38 _ _ _ _)
  refine R_iload_n dX12_sign_38 rfl (?_ : RR _ _ _ _ 39 _ _ _ _)
  refine R_imul dX12_sign_39 (?_ : RR _ _ _ _ 40 _ _ _ _)
  refine R_isub dX12_sign_40 (?_ : RR _ _ _ _ 41 _ _ _ _)
  refine R_ishr dX12_sign_41 (?_ : RR _ _ _ _ 42 _ _ _ _)
  refine R_sipush dX12_sign_42 rfl (?_ : RR _ _ _ _ 45 _ _ _ _)
  refine R_iand dX12_sign_45 (?_ : RR _ _ _ _ 46 _ _ _ _)
  refine R_iast (hz := iAnd_r) dX12_sign_46 (?_ : RR _ _ _ _ 47 _ _ _ _)
  try simp (disch := omega) only [rup_rup, rup_sort, rupS_def, rup_s, rup_n, fup_fup, fup_s, fup_n, hn]
  refine R_iinc dX12_sign_47 rfl (Nat.le_of_ble_eq_true rfl) (?_ : RR _ _ _ _ 50 [_, _, _] _ _ _)
  refine R_goto (t := 18) dX12_sign_50 rfl (?_ : RR _ _ _ _ 18 _ _ _ _)
  refine R_iload_n dX12_sign_18 rfl (?_ : RR _ _ _ _ 19 _ _ _ _)
  refine R_iconst dX12_sign_19 (?_ : RR _ _ _ _ 20 _ _ _ _)
  refine R_icmp_ge (t := 53) dX12_sign_20 rfl (fun c20 => ?_) (fun c20 => ?_)
  · exfalso; omega
  refine R_aload_n dX12_sign_23 rfl (?_ : RR _ _ _ _ 24 _ _ _ _)
  refine R_getr dX12_sign_24 flX12_39 cok_12 rfl (by decide) (?_ : RR _ _ _ _ 27 _ _ _ _)
  refine R_aload_n dX12_sign_27 rfl (?_ : RR _ _ _ _ 28 _ _ _ _)
  refine R_geti (z := 15) dX12_sign_28 flX12_148 cok_12 rfl (by decide) rfl (fun q28 => (?_ : RR _ _ _ _ 31 _ _ _ _))
  try simp (disch := omega) only [rup_rup, rup_sort, rupS_def, rup_s, rup_n, fup_fup, fup_s, fup_n, hn] at q28 ⊢
  refine R_iload_n dX12_sign_31 rfl (?_ : RR _ _ _ _ 32 _ _ _ _)
  refine R_iadd dX12_sign_32 (?_ : RR _ _ _ _ 33 _ _ _ _)
  refine R_iload_n dX12_sign_33 rfl (?_ : RR _ _ _ _ 34 _ _ _ _)
  refine R_bipush dX12_sign_34 rfl (?_ : RR _ _ _ _ 36 _ _ _ _)
  refine R_bipush dX12_sign_36 rfl (?_ : RR _ _ _ _ 38 _ _ _ _)
  refine R_iload_n dX12_sign_38 rfl (?_ : RR _ _ _ _ 39 _ _ _ _)
  refine R_imul dX12_sign_39 (?_ : RR _ _ _ _ 40 _ _ _ _)
  refine R_isub dX12_sign_40 (?_ : RR _ _ _ _ 41 _ _ _ _)
  refine R_ishr dX12_sign_41 (?_ : RR _ _ _ _ 42 _ _ _ _)
  refine R_sipush dX12_sign_42 rfl (?_ : RR _ _ _ _ 45 _ _ _ _)
  refine R_iand dX12_sign_45 (?_ : RR _ _ _ _ 46 _ _ _ _)
  refine R_iast (hz := iAnd_r) dX12_sign_46 (?_ : RR _ _ _ _ 47 _ _ _ _)
  try simp (disch := omega) only [rup_rup, rup_sort, rupS_def, rup_s, rup_n, fup_fup, fup_s, fup_n, hn]
  refine R_iinc dX12_sign_47 rfl (Nat.le_of_ble_eq_true rfl) (?_ : RR _ _ _ _ 50 [_, _, _] _ _ _)
  refine R_goto (t := 18) dX12_sign_50 rfl (?_ : RR _ _ _ _ 18 _ _ _ _)
  refine R_iload_n dX12_sign_18 rfl (?_ : RR _ _ _ _ 19 _ _ _ _)
  refine R_iconst dX12_sign_19 (?_ : RR _ _ _ _ 20 _ _ _ _)
  refine R_icmp_ge (t := 53) dX12_sign_20 rfl (fun c20 => ?_) (fun c20 => ?_)
  · exfalso; omega
  refine R_aload_n dX12_sign_23 rfl (?_ : RR _ _ _ _ 24 _ _ _ _)
  refine R_getr dX12_sign_24 flX12_39 cok_12 rfl (by decide) (?_ : RR _ _ _ _ 27 _ _ _ _)
  refine R_aload_n dX12_sign_27 rfl (?_ : RR _ _ _ _ 28 _ _ _ _)
  refine R_geti (z := 15) dX12_sign_28 flX12_148 cok_12 rfl (by decide) rfl (fun q28 => (?_ : RR _ _ _ _ 31 _ _ _ _))
  try simp (disch := omega) only [rup_rup, rup_sort, rupS_def, rup_s, rup_n, fup_fup, fup_s, fup_n, hn] at q28 ⊢
  refine R_iload_n dX12_sign_31 rfl (?_ : RR _ _ _ _ 32 _ _ _ _)
  refine R_iadd dX12_sign_32 (?_ : RR _ _ _ _ 33 _ _ _ _)
  refine R_iload_n dX12_sign_33 rfl (?_ : RR _ _ _ _ 34 _ _ _ _)
  refine R_bipush dX12_sign_34 rfl (?_ : RR _ _ _ _ 36 _ _ _ _)
  refine R_bipush dX12_sign_36 rfl (?_ : RR _ _ _ _ 38 _ _ _ _)
  refine R_iload_n dX12_sign_38 rfl (?_ : RR _ _ _ _ 39 _ _ _ _)
  refine R_imul dX12_sign_39 (?_ : RR _ _ _ _ 40 _ _ _ _)
  refine R_isub dX12_sign_40 (?_ : RR _ _ _ _ 41 _ _ _ _)
  refine R_ishr dX12_sign_41 (?_ : RR _ _ _ _ 42 _ _ _ _)
  refine R_sipush dX12_sign_42 rfl (?_ : RR _ _ _ _ 45 _ _ _ _)
  refine R_iand dX12_sign_45 (?_ : RR _ _ _ _ 46 _ _ _ _)
  refine R_iast (hz := iAnd_r) dX12_sign_46 (?_ : RR _ _ _ _ 47 _ _ _ _)
  try simp (disch := omega) only [rup_rup, rup_sort, rupS_def, rup_s, rup_n, fup_fup, fup_s, fup_n, hn]
  refine R_iinc dX12_sign_47 rfl (Nat.le_of_ble_eq_true rfl) (?_ : RR _ _ _ _ 50 [_, _, _] _ _ _)
  refine R_goto (t := 18) dX12_sign_50 rfl (?_ : RR _ _ _ _ 18 _ _ _ _)
  refine R_iload_n dX12_sign_18 rfl (?_ : RR _ _ _ _ 19 _ _ _ _)
  refine R_iconst dX12_sign_19 (?_ : RR _ _ _ _ 20 _ _ _ _)
  refine R_icmp_ge (t := 53) dX12_sign_20 rfl (fun c20 => ?_) (fun c20 => ?_)
  · exfalso; omega
  refine R_aload_n dX12_sign_23 rfl (?_ : RR _ _ _ _ 24 _ _ _ _)
  refine R_getr dX12_sign_24 flX12_39 cok_12 rfl (by decide) (?_ : RR _ _ _ _ 27 _ _ _ _)
  refine R_aload_n dX12_sign_27 rfl (?_ : RR _ _ _ _ 28 _ _ _ _)
  refine R_geti (z := 15) dX12_sign_28 flX12_148 cok_12 rfl (by decide) rfl (fun q28 => (?_ : RR _ _ _ _ 31 _ _ _ _))
  try simp (disch := omega) only [rup_rup, rup_sort, rupS_def, rup_s, rup_n, fup_fup, fup_s, fup_n, hn] at q28 ⊢
  refine R_iload_n dX12_sign_31 rfl (?_ : RR _ _ _ _ 32 _ _ _ _)
  refine R_iadd dX12_sign_32 (?_ : RR _ _ _ _ 33 _ _ _ _)
  refine R_iload_n dX12_sign_33 rfl (?_ : RR _ _ _ _ 34 _ _ _ _)
  refine R_bipush dX12_sign_34 rfl (?_ : RR _ _ _ _ 36 _ _ _ _)
  refine R_bipush dX12_sign_36 rfl (?_ : RR _ _ _ _ 38 _ _ _ _)
  refine R_iload_n dX12_sign_38 rfl (?_ : RR _ _ _ _ 39 _ _ _ _)
  refine R_imul dX12_sign_39 (?_ : RR _ _ _ _ 40 _ _ _ _)
  refine R_isub dX12_sign_40 (?_ : RR _ _ _ _ 41 _ _ _ _)
  refine R_ishr dX12_sign_41 (?_ : RR _ _ _ _ 42 _ _ _ _)
  refine R_sipush dX12_sign_42 rfl (?_ : RR _ _ _ _ 45 _ _ _ _)
  refine R_iand dX12_sign_45 (?_ : RR _ _ _ _ 46 _ _ _ _)
  refine R_iast (hz := iAnd_r) dX12_sign_46 (?_ : RR _ _ _ _ 47 _ _ _ _)
  try simp (disch := omega) only [rup_rup, rup_sort, rupS_def, rup_s, rup_n, fup_fup, fup_s, fup_n, hn]
  refine R_iinc dX12_sign_47 rfl (Nat.le_of_ble_eq_true rfl) (?_ : RR _ _ _ _ 50 [_, _, _] _ _ _)
  refine R_goto (t := 18) dX12_sign_50 rfl (?_ : RR _ _ _ _ 18 _ _ _ _)
  refine R_iload_n dX12_sign_18 rfl (?_ : RR _ _ _ _ 19 _ _ _ _)
  refine R_iconst dX12_sign_19 (?_ : RR _ _ _ _ 20 _ _ _ _)
  refine R_icmp_ge (t := 53) dX12_sign_20 rfl (fun c20 => ?_) (fun c20 => ?_)
  rotate_left
  · exfalso; omega
  refine R_aload_n dX12_sign_53 rfl (?_ : RR _ _ _ _ 54 _ _ _ _)
  refine R_dup dX12_sign_54 (fun _ => rfl) (?_ : RR _ _ _ _ 55 _ _ _ _)
  refine R_geti (z := 15) dX12_sign_55 flX12_148 cok_12 rfl (by decide) rfl (fun q55 => (?_ : RR _ _ _ _ 58 _ _ _ _))
  try simp (disch := omega) only [rup_rup, rup_sort, rupS_def, rup_s, rup_n, fup_fup, fup_s, fup_n, hn] at q55 ⊢
  refine R_iconst dX12_sign_58 (?_ : RR _ _ _ _ 59 _ _ _ _)
  refine R_iadd dX12_sign_59 (?_ : RR _ _ _ _ 60 _ _ _ _)
  refine R_puti (zk := 15) dX12_sign_60 flX12_148 cok_12 (by decide) (fun q hq => by cases hq; rfl) rfl (?_ : RR _ _ _ _ 63 _ _ _ _)
  try simp (disch := omega) only [rup_rup, rup_sort, rupS_def, rup_s, rup_n, fup_fup, fup_s, fup_n, hn]
  refine R_aload_n dX12_sign_63 rfl (?_ : RR _ _ _ _ 64 _ _ _ _)
  refine R_geti (z := 15) dX12_sign_64 flX12_148 cok_12 rfl (by decide) rfl (fun q64 => (?_ : RR _ _ _ _ 67 _ _ _ _))
  try simp (disch := omega) only [rup_rup, rup_sort, rupS_def, rup_s, rup_n, fup_fup, fup_s, fup_n, hn] at q64 ⊢
  exact R_ireturn dX12_sign_67 trivial hQ
end CS
