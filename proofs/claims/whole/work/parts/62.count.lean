section CN
variable {k : Nat} {h : Nat → Int → Int} {sem : Sem} {H np nc len : Nat} {v : Int}
theorem cpl_tb {X : Cx} {t : Nat} {f : Int → Int} (hc : Cpl X H h t f len) : shB (h (t + 1)) 0 len = bset (fun c => decide (0 ≤ mP f c)) (xC X) := by
  have hf := hc.1
  have hsb : ∀ k : Nat, k ≤ len → shB (h (t + 1)) 0 k = bset (fun c' => decide (0 ≤ mP f c' ∧ mP f c' < (k : Int))) (xC X) := by
    intro k
    induction k with
    | zero =>
      intro _
      have : bset (fun c' : Nat => decide (0 ≤ mP f c' ∧ mP f c' < ((0 : Nat) : Int))) (xC X) = 0 := by
        apply Nat.eq_of_testBit_eq
        intro i
        rw [bset_bit, Nat.zero_testBit]
        rw [decide_eq_false (p := 0 ≤ mP f i ∧ mP f i < ((0 : Nat) : Int)) (by omega), Bool.and_false]
      rw [this]
      rfl
    | succ k ih =>
      intro hk
      show shB (h (t + 1)) 0 k ||| 2 ^ (h (t + 1) ((0 + k : Nat) : Int)).toNat = _
      rw [ih (by omega), Nat.zero_add]
      have ho := hf.2.2.2.1 k (by omega)
      apply Nat.eq_of_testBit_eq
      intro i
      rw [Nat.testBit_or, bset_bit, bset_bit, Nat.testBit_two_pow]
      by_cases hi : i < xC X
      · have hpi := hf.2.2.2.2.1 i hi
        by_cases y : (h (t + 1) (k : Int)).toNat = i
        · have y2 : mP f i = (k : Int) := by
            have := ho.2.2
            rw [show h (t + 1) (k : Int) = (i : Int) by omega] at this
            exact this
          rw [decide_eq_true y, decide_eq_true (p := 0 ≤ mP f i ∧ mP f i < ((k + 1 : Nat) : Int)) (by omega), decide_eq_true hi]
          simp
        · have y2 : mP f i ≠ (k : Int) := fun z => y (by rw [z] at hpi; omega)
          rw [decide_eq_false y, Bool.or_false]
          congr 1
          apply decide_eq_decide.mpr
          omega
      · rw [decide_eq_false hi, decide_eq_false (p := (h (t + 1) (k : Int)).toNat = i) (by omega)]
        simp
  rw [hsb len (Nat.le_refl _)]
  refine bset_congr (fun i hi => ?_)
  have hpi := hf.2.2.2.2.1 i hi
  apply decide_eq_decide.mpr
  omega
theorem A_count (hs : SRx k h sem H np nc len) (hv : r32 v) : AG mX11_count mX12_count 2 2 [pI v] k h := by
  obtain ⟨b1, b2, b3, b4, hX, -, hCO, -⟩ := hs.1
  obtain ⟨M, a1, a2, -⟩ := hs.2.1
  obtain ⟨T, d1, d2, -⟩ := hs.2.2.1
  obtain ⟨U, x, u4, u5, -⟩ := SU_un hs.2.2.2.1
  obtain ⟨N, n1, n2, -⟩ := hs.2.2.2.2.1
  have h11 : h 11 0 = np := hCO.2.1.1
  have hc := hs.2.2.2.1.1
  obtain ⟨hf, e0, e1, e2, e3, -⟩ := id hc
  have e2 : h 14 2 = nc := e2
  have x6 := sR6 hs
  have x12 := sR12 hs
  have fl : len ≤ nc := hf.2.2.1
  have t14 := isTr_14
  have r154 := isRw_154
  have htb : shB (h (14 + 1)) 0 len = bset (fun c => decide (0 ≤ mP (h 154) c)) nc := cpl_tb hc
  have ho : ∀ j : Nat, j < len → 0 ≤ h (14 + 1) j ∧ h (14 + 1) j < 6 := fun j hj => by
    have := hf.2.2.2.1 j hj
    omega
  by_cases q0 : v = 0
  · subst q0
    refine AG_det (h1 := h) (h2 := rup h 147 (fup (h 147) 0 0)) (r := some (pI (H))) (MT.of (fun Q hQ => (?_ : RR mX11_count _ _ _ _ [pR 0, pI 0] _ _ _))) (MT.of (fun Q hQ => (?_ : RR mX12_count _ _ _ _ [pR 147, pI 0] _ _ _))) (SR_thr hs)
    · refine R_iload_n dX11_count_0 rfl (?_ : RR _ _ _ _ 1 _ _ _ _)
      refine R_tabIn (t := 64) (off := 63) dX11_count_1 (by omega) (by omega) rfl rfl (?_ : RR _ _ _ _ 64 _ _ _ _)
      refine R_aload_n dX11_count_64 rfl (?_ : RR _ _ _ _ 65 _ _ _ _)
      refine R_getr dX11_count_65 flX11_19 cok_11 rfl (by decide) (?_ : RR _ _ _ _ 68 _ _ _ _)
      refine R_geti (z := 0) dX11_count_68 flX11_129 cok_0 rfl (by decide) rfl (fun q68 => (?_ : RR _ _ _ _ 71 _ _ _ _))
      rw [b4] at q68 ⊢
      exact R_ireturn dX11_count_71 trivial hQ
    · refine R_aload_n dX12_count_0 rfl (?_ : RR _ _ _ _ 1 _ _ _ _)
      refine R_iconst dX12_count_1 (?_ : RR _ _ _ _ 2 _ _ _ _)
      refine R_puti (zk := 0) dX12_count_2 flX12_106 cok_12 (by decide) (fun q hq => by cases hq; rfl) rfl (?_ : RR _ _ _ _ 5 _ _ _ _)
      try simp (disch := omega) only [rup_rup, rup_sort, rupS_def, rup_s, rup_n, fup_fup, fup_s, fup_n, b1]
      refine R_iload_n dX12_count_5 rfl (?_ : RR _ _ _ _ 6 _ _ _ _)
      refine R_tabIn (t := 68) (off := 62) dX12_count_6 (by omega) (by omega) rfl rfl (?_ : RR _ _ _ _ 68 _ _ _ _)
      refine R_aload_n dX12_count_68 rfl (?_ : RR _ _ _ _ 69 _ _ _ _)
      refine R_geti (z := 3) dX12_count_69 flX12_13 cok_12 rfl (by decide) rfl (fun q69 => (?_ : RR _ _ _ _ 72 _ _ _ _))
      try simp (disch := omega) only [rup_rup, rup_sort, rupS_def, rup_s, rup_n, fup_fup, fup_s, fup_n, b1] at q69 ⊢
      exact R_ireturn dX12_count_72 trivial hQ
  by_cases q1 : v = 1
  · subst q1
    refine AG_det (h1 := h) (h2 := rup h 147 (fup (h 147) 0 0)) (r := some (pI (nc))) (MT.of (fun Q hQ => (?_ : RR mX11_count _ _ _ _ [pR 0, pI 1] _ _ _))) (MT.of (fun Q hQ => (?_ : RR mX12_count _ _ _ _ [pR 147, pI 1] _ _ _))) (SR_thr hs)
    · refine R_iload_n dX11_count_0 rfl (?_ : RR _ _ _ _ 1 _ _ _ _)
      refine R_tabIn (t := 72) (off := 71) dX11_count_1 (by omega) (by omega) rfl rfl (?_ : RR _ _ _ _ 72 _ _ _ _)
      refine R_aload_n dX11_count_72 rfl (?_ : RR _ _ _ _ 73 _ _ _ _)
      refine R_getr dX11_count_73 flX11_36 cok_11 rfl (by decide) (?_ : RR _ _ _ _ 76 _ _ _ _)
      refine R_geti (z := 2) dX11_count_76 flX11_349 cok_9 rfl (by decide) rfl (fun q76 => (?_ : RR _ _ _ _ 79 _ _ _ _))
      rw [e2] at q76 ⊢
      exact R_ireturn dX11_count_79 trivial hQ
    · refine R_aload_n dX12_count_0 rfl (?_ : RR _ _ _ _ 1 _ _ _ _)
      refine R_iconst dX12_count_1 (?_ : RR _ _ _ _ 2 _ _ _ _)
      refine R_puti (zk := 0) dX12_count_2 flX12_106 cok_12 (by decide) (fun q hq => by cases hq; rfl) rfl (?_ : RR _ _ _ _ 5 _ _ _ _)
      try simp (disch := omega) only [rup_rup, rup_sort, rupS_def, rup_s, rup_n, fup_fup, fup_s, fup_n, b2]
      refine R_iload_n dX12_count_5 rfl (?_ : RR _ _ _ _ 6 _ _ _ _)
      refine R_tabIn (t := 73) (off := 67) dX12_count_6 (by omega) (by omega) rfl rfl (?_ : RR _ _ _ _ 73 _ _ _ _)
      refine R_aload_n dX12_count_73 rfl (?_ : RR _ _ _ _ 74 _ _ _ _)
      refine R_geti (z := 4) dX12_count_74 flX12_124 cok_12 rfl (by decide) rfl (fun q74 => (?_ : RR _ _ _ _ 77 _ _ _ _))
      try simp (disch := omega) only [rup_rup, rup_sort, rupS_def, rup_s, rup_n, fup_fup, fup_s, fup_n, b2] at q74 ⊢
      exact R_ireturn dX12_count_77 trivial hQ
  by_cases q2 : v = 2
  · subst q2
    refine AG_det (h1 := h) (h2 := rup h 147 (fup (h 147) 0 0)) (r := some (pI (np))) (MT.of (fun Q hQ => (?_ : RR mX11_count _ _ _ _ [pR 0, pI 2] _ _ _))) (MT.of (fun Q hQ => (?_ : RR mX12_count _ _ _ _ [pR 147, pI 2] _ _ _))) (SR_thr hs)
    · refine R_iload_n dX11_count_0 rfl (?_ : RR _ _ _ _ 1 _ _ _ _)
      refine R_tabIn (t := 80) (off := 79) dX11_count_1 (by omega) (by omega) rfl rfl (?_ : RR _ _ _ _ 80 _ _ _ _)
      refine R_aload_n dX11_count_80 rfl (?_ : RR _ _ _ _ 81 _ _ _ _)
      refine R_getr dX11_count_81 flX11_29 cok_11 rfl (by decide) (?_ : RR _ _ _ _ 84 _ _ _ _)
      refine R_geti (z := 0) dX11_count_84 flX11_116 cok_2 rfl (by decide) rfl (fun q84 => (?_ : RR _ _ _ _ 87 _ _ _ _))
      rw [h11] at q84 ⊢
      exact R_ireturn dX11_count_87 trivial hQ
    · refine R_aload_n dX12_count_0 rfl (?_ : RR _ _ _ _ 1 _ _ _ _)
      refine R_iconst dX12_count_1 (?_ : RR _ _ _ _ 2 _ _ _ _)
      refine R_puti (zk := 0) dX12_count_2 flX12_106 cok_12 (by decide) (fun q hq => by cases hq; rfl) rfl (?_ : RR _ _ _ _ 5 _ _ _ _)
      try simp (disch := omega) only [rup_rup, rup_sort, rupS_def, rup_s, rup_n, fup_fup, fup_s, fup_n, b3]
      refine R_iload_n dX12_count_5 rfl (?_ : RR _ _ _ _ 6 _ _ _ _)
      refine R_tabIn (t := 78) (off := 72) dX12_count_6 (by omega) (by omega) rfl rfl (?_ : RR _ _ _ _ 78 _ _ _ _)
      refine R_aload_n dX12_count_78 rfl (?_ : RR _ _ _ _ 79 _ _ _ _)
      refine R_geti (z := 5) dX12_count_79 flX12_127 cok_12 rfl (by decide) rfl (fun q79 => (?_ : RR _ _ _ _ 82 _ _ _ _))
      try simp (disch := omega) only [rup_rup, rup_sort, rupS_def, rup_s, rup_n, fup_fup, fup_s, fup_n, b3] at q79 ⊢
      exact R_ireturn dX12_count_82 trivial hQ
  by_cases q3 : v = 3
  · subst q3
    refine AG_det (h1 := h) (h2 := rup h 147 (fup (h 147) 0 0)) (r := some (pI (h 154 1))) (MT.of (fun Q hQ => (?_ : RR mX11_count _ _ _ _ [pR 0, pI 3] _ _ _))) (MT.of (fun Q hQ => (?_ : RR mX12_count _ _ _ _ [pR 147, pI 3] _ _ _))) (SR_thr hs)
    · refine R_iload_n dX11_count_0 rfl (?_ : RR _ _ _ _ 1 _ _ _ _)
      refine R_tabIn (t := 88) (off := 87) dX11_count_1 (by omega) (by omega) rfl rfl (?_ : RR _ _ _ _ 88 _ _ _ _)
      refine R_aload_n dX11_count_88 rfl (?_ : RR _ _ _ _ 89 _ _ _ _)
      refine R_getr dX11_count_89 flX11_36 cok_11 rfl (by decide) (?_ : RR _ _ _ _ 92 _ _ _ _)
      refine R_geti (z := 1) dX11_count_92 flX11_312 cok_9 rfl (by decide) rfl (fun q92 => (?_ : RR _ _ _ _ 95 _ _ _ _))
      rw [e1] at q92 ⊢
      exact R_ireturn dX11_count_95 trivial hQ
    · refine R_aload_n dX12_count_0 rfl (?_ : RR _ _ _ _ 1 _ _ _ _)
      refine R_iconst dX12_count_1 (?_ : RR _ _ _ _ 2 _ _ _ _)
      refine R_puti (zk := 0) dX12_count_2 flX12_106 cok_12 (by decide) (fun q hq => by cases hq; rfl) rfl (?_ : RR _ _ _ _ 5 _ _ _ _)
      try simp (disch := omega) only [rup_rup, rup_sort, rupS_def, rup_s, rup_n, fup_fup, fup_s, fup_n]
      refine R_iload_n dX12_count_5 rfl (?_ : RR _ _ _ _ 6 _ _ _ _)
      refine R_tabIn (t := 83) (off := 77) dX12_count_6 (by omega) (by omega) rfl rfl (?_ : RR _ _ _ _ 83 _ _ _ _)
      refine R_aload_n dX12_count_83 rfl (?_ : RR _ _ _ _ 84 _ _ _ _)
      refine R_getr dX12_count_84 flX12_33 cok_12 rfl (by decide) (?_ : RR _ _ _ _ 87 _ _ _ _)
      refine R_iconst dX12_count_87 (?_ : RR _ _ _ _ 88 _ _ _ _)
      refine R_iald dX12_count_88 (fun q88 => (?_ : RR _ _ _ _ 89 _ _ _ _))
      try simp (disch := omega) only [rup_rup, rup_sort, rupS_def, rup_s, rup_n, fup_fup, fup_s, fup_n] at q88 ⊢
      exact R_ireturn dX12_count_89 trivial hQ
  by_cases q4 : v = 4
  · subst q4
    refine AG_det (h1 := h) (h2 := rup h 147 (fup (h 147) 0 0)) (r := some (pI (h 154 0))) (MT.of (fun Q hQ => (?_ : RR mX11_count _ _ _ _ [pR 0, pI 4] _ _ _))) (MT.of (fun Q hQ => (?_ : RR mX12_count _ _ _ _ [pR 147, pI 4] _ _ _))) (SR_thr hs)
    · refine R_iload_n dX11_count_0 rfl (?_ : RR _ _ _ _ 1 _ _ _ _)
      refine R_tabIn (t := 96) (off := 95) dX11_count_1 (by omega) (by omega) rfl rfl (?_ : RR _ _ _ _ 96 _ _ _ _)
      refine R_aload_n dX11_count_96 rfl (?_ : RR _ _ _ _ 97 _ _ _ _)
      refine R_getr dX11_count_97 flX11_36 cok_11 rfl (by decide) (?_ : RR _ _ _ _ 100 _ _ _ _)
      refine R_geti (z := 0) dX11_count_100 flX11_171 cok_9 rfl (by decide) rfl (fun q100 => (?_ : RR _ _ _ _ 103 _ _ _ _))
      rw [e0] at q100 ⊢
      exact R_ireturn dX11_count_103 trivial hQ
    · refine R_aload_n dX12_count_0 rfl (?_ : RR _ _ _ _ 1 _ _ _ _)
      refine R_iconst dX12_count_1 (?_ : RR _ _ _ _ 2 _ _ _ _)
      refine R_puti (zk := 0) dX12_count_2 flX12_106 cok_12 (by decide) (fun q hq => by cases hq; rfl) rfl (?_ : RR _ _ _ _ 5 _ _ _ _)
      try simp (disch := omega) only [rup_rup, rup_sort, rupS_def, rup_s, rup_n, fup_fup, fup_s, fup_n]
      refine R_iload_n dX12_count_5 rfl (?_ : RR _ _ _ _ 6 _ _ _ _)
      refine R_tabIn (t := 90) (off := 84) dX12_count_6 (by omega) (by omega) rfl rfl (?_ : RR _ _ _ _ 90 _ _ _ _)
      refine R_aload_n dX12_count_90 rfl (?_ : RR _ _ _ _ 91 _ _ _ _)
      refine R_getr dX12_count_91 flX12_33 cok_12 rfl (by decide) (?_ : RR _ _ _ _ 94 _ _ _ _)
      refine R_iconst dX12_count_94 (?_ : RR _ _ _ _ 95 _ _ _ _)
      refine R_iald dX12_count_95 (fun q95 => (?_ : RR _ _ _ _ 96 _ _ _ _))
      try simp (disch := omega) only [rup_rup, rup_sort, rupS_def, rup_s, rup_n, fup_fup, fup_s, fup_n] at q95 ⊢
      exact R_ireturn dX12_count_96 trivial hQ
  by_cases q5 : v = 5
  · subst q5
    refine AG_det (h1 := h) (h2 := rup h 147 (fup (h 147) 0 0)) (r := some (pI (bset (fun c => decide (0 ≤ mP (h 154) c)) nc))) (MT.of (fun Q hQ => (?_ : RR mX11_count _ _ _ _ [pR 0, pI 5] _ _ _))) (MT.of (fun Q hQ => (?_ : RR mX12_count _ _ _ _ [pR 147, pI 5] _ _ _))) (SR_thr hs)
    · refine R_iload_n dX11_count_0 rfl (?_ : RR _ _ _ _ 1 _ _ _ _)
      refine R_tabIn (t := 104) (off := 103) dX11_count_1 (by omega) (by omega) rfl rfl (?_ : RR _ _ _ _ 104 _ _ _ _)
      refine R_aload_n dX11_count_104 rfl (?_ : RR _ _ _ _ 105 _ _ _ _)
      refine R_getr dX11_count_105 flX11_36 cok_11 rfl (by decide) (?_ : RR _ _ _ _ 108 _ _ _ _)
      refine R_cVi0 dX11_count_108 mvX9_trainBits mlX11_315 (by decide) (by decide) (Nat.le_of_ble_eq_true rfl) (Nat.le_of_ble_eq_true rfl) (T_X9_trainBits (n := len) e3 ho) (?_ : RR _ _ _ _ 111 _ _ _ _)
      rw [htb]
      exact R_ireturn dX11_count_111 trivial hQ
    · refine R_aload_n dX12_count_0 rfl (?_ : RR _ _ _ _ 1 _ _ _ _)
      refine R_iconst dX12_count_1 (?_ : RR _ _ _ _ 2 _ _ _ _)
      refine R_puti (zk := 0) dX12_count_2 flX12_106 cok_12 (by decide) (fun q hq => by cases hq; rfl) rfl (?_ : RR _ _ _ _ 5 _ _ _ _)
      try simp (disch := omega) only [rup_rup, rup_sort, rupS_def, rup_s, rup_n, fup_fup, fup_s, fup_n]
      refine R_iload_n dX12_count_5 rfl (?_ : RR _ _ _ _ 6 _ _ _ _)
      refine R_tabIn (t := 97) (off := 91) dX12_count_6 (by omega) (by omega) rfl rfl (?_ : RR _ _ _ _ 97 _ _ _ _)
      refine R_aload_n dX12_count_97 rfl (?_ : RR _ _ _ _ 98 _ _ _ _)
      refine R_aload_n dX12_count_98 rfl (?_ : RR _ _ _ _ 99 _ _ _ _)
      refine R_getr dX12_count_99 flX12_33 cok_12 rfl (by decide) (?_ : RR _ _ _ _ 102 _ _ _ _)
      refine R_cVi1 dX12_count_102 mvX12_train mlX12_418 (by decide) (by decide) (Nat.le_of_ble_eq_true rfl) (Nat.le_of_ble_eq_true rfl) (T_X12_train (nc := nc) (by simp (disch := omega) only [rup_s, fup_n]; exact b2)) (?_ : RR _ _ _ _ 105 _ _ _ _)
      try simp (disch := omega) only [rup_rup, rup_sort, rupS_def, rup_s, rup_n, fup_fup, fup_s, fup_n]
      exact R_ireturn dX12_count_105 trivial hQ
  by_cases q6 : v = 6
  · subst q6
    refine AG_det (h1 := h) (h2 := rup h 147 (fup (h 147) 0 0)) (r := some (pI (iAnd (iShl 1 nc - 1) (iXor (bset (fun c => decide (0 ≤ mP (h 154) c)) nc) (-1))))) (MT.of (fun Q hQ => (?_ : RR mX11_count _ _ _ _ [pR 0, pI 6] _ _ _))) (MT.of (fun Q hQ => (?_ : RR mX12_count _ _ _ _ [pR 147, pI 6] _ _ _))) (SR_thr hs)
    · refine R_iload_n dX11_count_0 rfl (?_ : RR _ _ _ _ 1 _ _ _ _)
      refine R_tabIn (t := 112) (off := 111) dX11_count_1 (by omega) (by omega) rfl rfl (?_ : RR _ _ _ _ 112 _ _ _ _)
      refine R_aload_n dX11_count_112 rfl (?_ : RR _ _ _ _ 113 _ _ _ _)
      refine R_getr dX11_count_113 flX11_36 cok_11 rfl (by decide) (?_ : RR _ _ _ _ 116 _ _ _ _)
      refine R_cVi0 dX11_count_116 mvX9_standingBits mlX11_426 (by decide) (by decide) (Nat.le_of_ble_eq_true rfl) (Nat.le_of_ble_eq_true rfl) (T_X9_standingBits (m := 0) (n := len) e3 ho) (?_ : RR _ _ _ _ 119 _ _ _ _)
      rw [htb, e2]
      exact R_ireturn dX11_count_119 trivial hQ
    · refine R_aload_n dX12_count_0 rfl (?_ : RR _ _ _ _ 1 _ _ _ _)
      refine R_iconst dX12_count_1 (?_ : RR _ _ _ _ 2 _ _ _ _)
      refine R_puti (zk := 0) dX12_count_2 flX12_106 cok_12 (by decide) (fun q hq => by cases hq; rfl) rfl (?_ : RR _ _ _ _ 5 _ _ _ _)
      try simp (disch := omega) only [rup_rup, rup_sort, rupS_def, rup_s, rup_n, fup_fup, fup_s, fup_n, b2]
      refine R_iload_n dX12_count_5 rfl (?_ : RR _ _ _ _ 6 _ _ _ _)
      refine R_tabIn (t := 106) (off := 100) dX12_count_6 (by omega) (by omega) rfl rfl (?_ : RR _ _ _ _ 106 _ _ _ _)
      refine R_iconst dX12_count_106 (?_ : RR _ _ _ _ 107 _ _ _ _)
      refine R_aload_n dX12_count_107 rfl (?_ : RR _ _ _ _ 108 _ _ _ _)
      refine R_geti (z := 4) dX12_count_108 flX12_124 cok_12 rfl (by decide) rfl (fun q108 => (?_ : RR _ _ _ _ 111 _ _ _ _))
      try simp (disch := omega) only [rup_rup, rup_sort, rupS_def, rup_s, rup_n, fup_fup, fup_s, fup_n, b2] at q108 ⊢
      refine R_ishl dX12_count_111 (?_ : RR _ _ _ _ 112 _ _ _ _)
      refine R_iconst dX12_count_112 (?_ : RR _ _ _ _ 113 _ _ _ _)
      refine R_isub dX12_count_113 (?_ : RR _ _ _ _ 114 _ _ _ _)
      refine R_aload_n dX12_count_114 rfl (?_ : RR _ _ _ _ 115 _ _ _ _)
      refine R_aload_n dX12_count_115 rfl (?_ : RR _ _ _ _ 116 _ _ _ _)
      refine R_getr dX12_count_116 flX12_33 cok_12 rfl (by decide) (?_ : RR _ _ _ _ 119 _ _ _ _)
      refine R_cVi1 dX12_count_119 mvX12_train mlX12_418 (by decide) (by decide) (Nat.le_of_ble_eq_true rfl) (Nat.le_of_ble_eq_true rfl) (T_X12_train (nc := nc) (by simp (disch := omega) only [rup_s, fup_n]; exact b2)) (?_ : RR _ _ _ _ 122 _ _ _ _)
      try simp (disch := omega) only [rup_rup, rup_sort, rupS_def, rup_s, rup_n, fup_fup, fup_s, fup_n, b2]
      refine R_iconst dX12_count_122 (?_ : RR _ _ _ _ 123 _ _ _ _)
      refine R_ixor dX12_count_123 (?_ : RR _ _ _ _ 124 _ _ _ _)
      refine R_iand dX12_count_124 (?_ : RR _ _ _ _ 125 _ _ _ _)
      exact R_ireturn dX12_count_125 trivial hQ
  by_cases q7 : v = 7
  · subst q7
    refine AG_det (h1 := h) (h2 := rup h 147 (fup (h 147) 0 0)) (r := some (pI (bset (fun p => decide (mS (h 154) p < 0)) np))) (MT.of (fun Q hQ => (?_ : RR mX11_count _ _ _ _ [pR 0, pI 7] _ _ _))) (MT.of (fun Q hQ => (?_ : RR mX12_count _ _ _ _ [pR 147, pI 7] _ _ _))) (SR_thr hs)
    · refine R_iload_n dX11_count_0 rfl (?_ : RR _ _ _ _ 1 _ _ _ _)
      refine R_tabIn (t := 120) (off := 119) dX11_count_1 (by omega) (by omega) rfl rfl (?_ : RR _ _ _ _ 120 _ _ _ _)
      refine R_aload_n dX11_count_120 rfl (?_ : RR _ _ _ _ 121 _ _ _ _)
      refine R_getr dX11_count_121 flX11_36 cok_11 rfl (by decide) (?_ : RR _ _ _ _ 124 _ _ _ _)
      refine R_aload_n dX11_count_124 rfl (?_ : RR _ _ _ _ 125 _ _ _ _)
      refine R_getr dX11_count_125 flX11_29 cok_11 rfl (by decide) (?_ : RR _ _ _ _ 128 _ _ _ _)
      refine R_geti (z := 0) dX11_count_128 flX11_116 cok_2 rfl (by decide) rfl (fun q128 => (?_ : RR _ _ _ _ 131 _ _ _ _))
      rw [h11] at q128 ⊢
      refine R_cVi1 dX11_count_131 mvX9_outBits mlX11_254 (by decide) (by decide) (Nat.le_of_ble_eq_true rfl) (Nat.le_of_ble_eq_true rfl) (T_X9_outBits (t := 14) (n := np)) (?_ : RR _ _ _ _ 134 _ _ _ _)
      rw [cpl_outs (n := np) hc rfl]
      exact R_ireturn dX11_count_134 trivial hQ
    · refine R_aload_n dX12_count_0 rfl (?_ : RR _ _ _ _ 1 _ _ _ _)
      refine R_iconst dX12_count_1 (?_ : RR _ _ _ _ 2 _ _ _ _)
      refine R_puti (zk := 0) dX12_count_2 flX12_106 cok_12 (by decide) (fun q hq => by cases hq; rfl) rfl (?_ : RR _ _ _ _ 5 _ _ _ _)
      try simp (disch := omega) only [rup_rup, rup_sort, rupS_def, rup_s, rup_n, fup_fup, fup_s, fup_n]
      refine R_iload_n dX12_count_5 rfl (?_ : RR _ _ _ _ 6 _ _ _ _)
      refine R_tabIn (t := 126) (off := 120) dX12_count_6 (by omega) (by omega) rfl rfl (?_ : RR _ _ _ _ 126 _ _ _ _)
      refine R_aload_n dX12_count_126 rfl (?_ : RR _ _ _ _ 127 _ _ _ _)
      refine R_aload_n dX12_count_127 rfl (?_ : RR _ _ _ _ 128 _ _ _ _)
      refine R_getr dX12_count_128 flX12_33 cok_12 rfl (by decide) (?_ : RR _ _ _ _ 131 _ _ _ _)
      refine R_cVi1 dX12_count_131 mvX12_outs mlX12_370 (by decide) (by decide) (Nat.le_of_ble_eq_true rfl) (Nat.le_of_ble_eq_true rfl) (T_X12_outs (np := np) (by simp (disch := omega) only [rup_s, fup_n]; exact b3)) (?_ : RR _ _ _ _ 134 _ _ _ _)
      try simp (disch := omega) only [rup_rup, rup_sort, rupS_def, rup_s, rup_n, fup_fup, fup_s, fup_n]
      exact R_ireturn dX12_count_134 trivial hQ
  by_cases q8 : v = 8
  · subst q8
    refine AG_det (h1 := h) (h2 := rup h 147 (fup (h 147) 0 0)) (r := some (pI (N))) (MT.of (fun Q hQ => (?_ : RR mX11_count _ _ _ _ [pR 0, pI 8] _ _ _))) (MT.of (fun Q hQ => (?_ : RR mX12_count _ _ _ _ [pR 147, pI 8] _ _ _))) (SR_thr hs)
    · refine R_iload_n dX11_count_0 rfl (?_ : RR _ _ _ _ 1 _ _ _ _)
      refine R_tabIn (t := 135) (off := 134) dX11_count_1 (by omega) (by omega) rfl rfl (?_ : RR _ _ _ _ 135 _ _ _ _)
      refine R_aload_n dX11_count_135 rfl (?_ : RR _ _ _ _ 136 _ _ _ _)
      refine R_getr dX11_count_136 flX11_73 cok_11 rfl (by decide) (?_ : RR _ _ _ _ 139 _ _ _ _)
      refine R_geti (z := 0) dX11_count_139 flX11_369 cok_6 rfl (by decide) rfl (fun q139 => (?_ : RR _ _ _ _ 142 _ _ _ _))
      rw [n1] at q139 ⊢
      exact R_ireturn dX11_count_142 trivial hQ
    · refine R_aload_n dX12_count_0 rfl (?_ : RR _ _ _ _ 1 _ _ _ _)
      refine R_iconst dX12_count_1 (?_ : RR _ _ _ _ 2 _ _ _ _)
      refine R_puti (zk := 0) dX12_count_2 flX12_106 cok_12 (by decide) (fun q hq => by cases hq; rfl) rfl (?_ : RR _ _ _ _ 5 _ _ _ _)
      try simp (disch := omega) only [rup_rup, rup_sort, rupS_def, rup_s, rup_n, fup_fup, fup_s, fup_n, n2]
      refine R_iload_n dX12_count_5 rfl (?_ : RR _ _ _ _ 6 _ _ _ _)
      refine R_tabIn (t := 135) (off := 129) dX12_count_6 (by omega) (by omega) rfl rfl (?_ : RR _ _ _ _ 135 _ _ _ _)
      refine R_aload_n dX12_count_135 rfl (?_ : RR _ _ _ _ 136 _ _ _ _)
      refine R_geti (z := 40) dX12_count_136 flX12_205 cok_12 rfl (by decide) rfl (fun q136 => (?_ : RR _ _ _ _ 139 _ _ _ _))
      try simp (disch := omega) only [rup_rup, rup_sort, rupS_def, rup_s, rup_n, fup_fup, fup_s, fup_n, n2] at q136 ⊢
      exact R_ireturn dX12_count_139 trivial hQ
  by_cases q9 : v = 9
  · subst q9
    refine AG_det (h1 := h) (h2 := rup h 147 (fup (h 147) 0 0)) (r := some (pI (U))) (MT.of (fun Q hQ => (?_ : RR mX11_count _ _ _ _ [pR 0, pI 9] _ _ _))) (MT.of (fun Q hQ => (?_ : RR mX12_count _ _ _ _ [pR 147, pI 9] _ _ _))) (SR_thr hs)
    · refine R_iload_n dX11_count_0 rfl (?_ : RR _ _ _ _ 1 _ _ _ _)
      refine R_tabIn (t := 143) (off := 142) dX11_count_1 (by omega) (by omega) rfl rfl (?_ : RR _ _ _ _ 143 _ _ _ _)
      refine R_aload_n dX11_count_143 rfl (?_ : RR _ _ _ _ 144 _ _ _ _)
      refine R_getr dX11_count_144 flX11_66 cok_11 rfl (by decide) (?_ : RR _ _ _ _ 147 _ _ _ _)
      refine R_geti (z := 3) dX11_count_147 flX11_285 cok_1 rfl (by decide) rfl (fun q147 => (?_ : RR _ _ _ _ 150 _ _ _ _))
      rw [u4] at q147 ⊢
      exact R_ireturn dX11_count_150 trivial hQ
    · refine R_aload_n dX12_count_0 rfl (?_ : RR _ _ _ _ 1 _ _ _ _)
      refine R_iconst dX12_count_1 (?_ : RR _ _ _ _ 2 _ _ _ _)
      refine R_puti (zk := 0) dX12_count_2 flX12_106 cok_12 (by decide) (fun q hq => by cases hq; rfl) rfl (?_ : RR _ _ _ _ 5 _ _ _ _)
      try simp (disch := omega) only [rup_rup, rup_sort, rupS_def, rup_s, rup_n, fup_fup, fup_s, fup_n, u5]
      refine R_iload_n dX12_count_5 rfl (?_ : RR _ _ _ _ 6 _ _ _ _)
      refine R_tabIn (t := 140) (off := 134) dX12_count_6 (by omega) (by omega) rfl rfl (?_ : RR _ _ _ _ 140 _ _ _ _)
      refine R_aload_n dX12_count_140 rfl (?_ : RR _ _ _ _ 141 _ _ _ _)
      refine R_geti (z := 28) dX12_count_141 flX12_208 cok_12 rfl (by decide) rfl (fun q141 => (?_ : RR _ _ _ _ 144 _ _ _ _))
      try simp (disch := omega) only [rup_rup, rup_sort, rupS_def, rup_s, rup_n, fup_fup, fup_s, fup_n, u5] at q141 ⊢
      exact R_ireturn dX12_count_144 trivial hQ
  by_cases q10 : v = 10
  · subst q10
    refine AG_det (h1 := h) (h2 := rup h 147 (fup (h 147) 0 0)) (r := some (pI (T))) (MT.of (fun Q hQ => (?_ : RR mX11_count _ _ _ _ [pR 0, pI 10] _ _ _))) (MT.of (fun Q hQ => (?_ : RR mX12_count _ _ _ _ [pR 147, pI 10] _ _ _))) (SR_thr hs)
    · refine R_iload_n dX11_count_0 rfl (?_ : RR _ _ _ _ 1 _ _ _ _)
      refine R_tabIn (t := 151) (off := 150) dX11_count_1 (by omega) (by omega) rfl rfl (?_ : RR _ _ _ _ 151 _ _ _ _)
      refine R_aload_n dX11_count_151 rfl (?_ : RR _ _ _ _ 152 _ _ _ _)
      refine R_getr dX11_count_152 flX11_87 cok_11 rfl (by decide) (?_ : RR _ _ _ _ 155 _ _ _ _)
      refine R_geti (z := 1) dX11_count_155 flX11_429 cok_3 rfl (by decide) rfl (fun q155 => (?_ : RR _ _ _ _ 158 _ _ _ _))
      rw [d1] at q155 ⊢
      exact R_ireturn dX11_count_158 trivial hQ
    · refine R_aload_n dX12_count_0 rfl (?_ : RR _ _ _ _ 1 _ _ _ _)
      refine R_iconst dX12_count_1 (?_ : RR _ _ _ _ 2 _ _ _ _)
      refine R_puti (zk := 0) dX12_count_2 flX12_106 cok_12 (by decide) (fun q hq => by cases hq; rfl) rfl (?_ : RR _ _ _ _ 5 _ _ _ _)
      try simp (disch := omega) only [rup_rup, rup_sort, rupS_def, rup_s, rup_n, fup_fup, fup_s, fup_n, d2]
      refine R_iload_n dX12_count_5 rfl (?_ : RR _ _ _ _ 6 _ _ _ _)
      refine R_tabIn (t := 145) (off := 139) dX12_count_6 (by omega) (by omega) rfl rfl (?_ : RR _ _ _ _ 145 _ _ _ _)
      refine R_aload_n dX12_count_145 rfl (?_ : RR _ _ _ _ 146 _ _ _ _)
      refine R_geti (z := 1) dX12_count_146 flX12_113 cok_12 rfl (by decide) rfl (fun q146 => (?_ : RR _ _ _ _ 149 _ _ _ _))
      try simp (disch := omega) only [rup_rup, rup_sort, rupS_def, rup_s, rup_n, fup_fup, fup_s, fup_n, d2] at q146 ⊢
      exact R_ireturn dX12_count_149 trivial hQ
  by_cases q11 : v = 11
  · subst q11
    refine AG_det (h1 := h) (h2 := rup h 147 (fup (h 147) 0 0)) (r := some (pI (M))) (MT.of (fun Q hQ => (?_ : RR mX11_count _ _ _ _ [pR 0, pI 11] _ _ _))) (MT.of (fun Q hQ => (?_ : RR mX12_count _ _ _ _ [pR 147, pI 11] _ _ _))) (SR_thr hs)
    · refine R_iload_n dX11_count_0 rfl (?_ : RR _ _ _ _ 1 _ _ _ _)
      refine R_tabIn (t := 159) (off := 158) dX11_count_1 (by omega) (by omega) rfl rfl (?_ : RR _ _ _ _ 159 _ _ _ _)
      refine R_aload_n dX11_count_159 rfl (?_ : RR _ _ _ _ 160 _ _ _ _)
      refine R_getr dX11_count_160 flX11_10 cok_11 rfl (by decide) (?_ : RR _ _ _ _ 163 _ _ _ _)
      refine R_geti (z := 1) dX11_count_163 flX11_91 cok_7 rfl (by decide) rfl (fun q163 => (?_ : RR _ _ _ _ 166 _ _ _ _))
      rw [a1] at q163 ⊢
      exact R_ireturn dX11_count_166 trivial hQ
    · refine R_aload_n dX12_count_0 rfl (?_ : RR _ _ _ _ 1 _ _ _ _)
      refine R_iconst dX12_count_1 (?_ : RR _ _ _ _ 2 _ _ _ _)
      refine R_puti (zk := 0) dX12_count_2 flX12_106 cok_12 (by decide) (fun q hq => by cases hq; rfl) rfl (?_ : RR _ _ _ _ 5 _ _ _ _)
      try simp (disch := omega) only [rup_rup, rup_sort, rupS_def, rup_s, rup_n, fup_fup, fup_s, fup_n, a2]
      refine R_iload_n dX12_count_5 rfl (?_ : RR _ _ _ _ 6 _ _ _ _)
      refine R_tabIn (t := 150) (off := 144) dX12_count_6 (by omega) (by omega) rfl rfl (?_ : RR _ _ _ _ 150 _ _ _ _)
      refine R_aload_n dX12_count_150 rfl (?_ : RR _ _ _ _ 151 _ _ _ _)
      refine R_geti (z := 15) dX12_count_151 flX12_148 cok_12 rfl (by decide) rfl (fun q151 => (?_ : RR _ _ _ _ 154 _ _ _ _))
      try simp (disch := omega) only [rup_rup, rup_sort, rupS_def, rup_s, rup_n, fup_fup, fup_s, fup_n, a2] at q151 ⊢
      exact R_ireturn dX12_count_154 trivial hQ
  refine AG_det (h1 := h) (h2 := rup h 147 (fup (h 147) 0 0)) (r := some (pI (-100))) (MT.of (fun Q hQ => (?_ : RR mX11_count _ _ _ _ [pR 0, pI v] _ _ _))) (MT.of (fun Q hQ => (?_ : RR mX12_count _ _ _ _ [pR 147, pI v] _ _ _))) (SR_thr hs)
  · refine R_iload_n dX11_count_0 rfl (?_ : RR _ _ _ _ 1 _ _ _ _)
    refine R_tabOut (t := 167) dX11_count_1 rfl (by omega) (?_ : RR _ _ _ _ 167 _ _ _ _)
    refine R_bipush dX11_count_167 rfl (?_ : RR _ _ _ _ 169 _ _ _ _)
    exact R_ireturn dX11_count_169 trivial hQ
  · refine R_aload_n dX12_count_0 rfl (?_ : RR _ _ _ _ 1 _ _ _ _)
    refine R_iconst dX12_count_1 (?_ : RR _ _ _ _ 2 _ _ _ _)
    refine R_puti (zk := 0) dX12_count_2 flX12_106 cok_12 (by decide) (fun q hq => by cases hq; rfl) rfl (?_ : RR _ _ _ _ 5 _ _ _ _)
    try simp (disch := omega) only [rup_rup, rup_sort, rupS_def, rup_s, rup_n, fup_fup, fup_s, fup_n]
    refine R_iload_n dX12_count_5 rfl (?_ : RR _ _ _ _ 6 _ _ _ _)
    refine R_tabOut (t := 155) dX12_count_6 rfl (by omega) (?_ : RR _ _ _ _ 155 _ _ _ _)
    refine R_bipush dX12_count_155 rfl (?_ : RR _ _ _ _ 157 _ _ _ _)
    exact R_ireturn dX12_count_157 trivial hQ
end CN
