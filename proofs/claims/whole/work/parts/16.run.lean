abbrev isRule (r : Nat) : Prop := shp0[r]? = some (4, 0) ∧ rf0 r 0 = some (r + 1) ∧ rf0 r 1 = some (r + 2) ∧ shp0[r + 1]? = some (100, 40) ∧ shp0[r + 2]? = some (100, 40)
theorem isRule_29 : isRule 29 := ⟨rfl, rfl, rfl, rfl, rfl⟩
theorem isRule_32 : isRule 32 := ⟨rfl, rfl, rfl, rfl, rfl⟩
theorem T_X4_copyFrom {t o : Nat} {h : Nat → Int → Int} (hb : h o 4 = 0 ∨ h o 4 = 1) (ht : isRule t := by assumption) (ho : isRule o := by assumption) (hto : o + 3 ≤ t ∨ t + 3 ≤ o := by omega) : MT mX4_copyFrom 1 [pR t, pR o] h none (rup (rup h t (fup (fup (h t) 2 (h o 2)) 4 (h o 4))) (t + 1) (cpy (h (o + 1)) (h (t + 1)) 40)) := by
  obtain ⟨t0, t1, t2, t3, t4⟩ := ht
  obtain ⟨o0, o1, o2, o3, o4⟩ := ho
  refine MT.of (fun Q hQ => (?_ : RR mX4_copyFrom _ _ _ _ [pR t, pR o] _ _ _))
  refine R_aload_n dX4_copyFrom_0 rfl (?_ : RR _ _ _ _ 1 _ _ _ _)
  refine R_aload_n dX4_copyFrom_1 rfl (?_ : RR _ _ _ _ 2 _ _ _ _)
  refine R_geti (z := 2) dX4_copyFrom_2 flX4_18 cok_4 rfl (by decide) rfl (fun q2 => (?_ : RR _ _ _ _ 5 _ _ _ _))
  try simp (disch := omega) only [rup_rup, rup_sort, rupS_def, rup_s, rup_n, fup_fup, fup_s, fup_n] at q2 ⊢
  refine R_puti (zk := 2) dX4_copyFrom_5 flX4_18 cok_4 (by decide) (fun q hq => by cases hq; rfl) rfl (?_ : RR _ _ _ _ 8 _ _ _ _)
  try simp (disch := omega) only [rup_rup, rup_sort, rupS_def, rup_s, rup_n, fup_fup, fup_s, fup_n]
  refine R_aload_n dX4_copyFrom_8 rfl (?_ : RR _ _ _ _ 9 _ _ _ _)
  refine R_aload_n dX4_copyFrom_9 rfl (?_ : RR _ _ _ _ 10 _ _ _ _)
  refine R_geti (z := 4) dX4_copyFrom_10 flX4_22 cok_4 rfl (by decide) rfl (fun q10 => (?_ : RR _ _ _ _ 13 _ _ _ _))
  try simp (disch := omega) only [rup_rup, rup_sort, rupS_def, rup_s, rup_n, fup_fup, fup_s, fup_n] at q10 ⊢
  refine R_puti (zk := 4) dX4_copyFrom_13 flX4_22 cok_4 (by decide) (fun q hq => by cases hq; rfl) rfl (?_ : RR _ _ _ _ 16 _ _ _ _)
  try simp (disch := omega) only [rup_rup, rup_sort, rupS_def, rup_s, rup_n, fup_fup, fup_s, fup_n]
  refine R_aload_n dX4_copyFrom_16 rfl (?_ : RR _ _ _ _ 17 _ _ _ _)
  refine R_getr dX4_copyFrom_17 flX4_9 cok_4 rfl (by decide) (?_ : RR _ _ _ _ 20 _ _ _ _)
  refine R_iconst dX4_copyFrom_20 (?_ : RR _ _ _ _ 21 _ _ _ _)
  refine R_aload_n dX4_copyFrom_21 rfl (?_ : RR _ _ _ _ 22 _ _ _ _)
  refine R_getr dX4_copyFrom_22 flX4_9 cok_4 rfl (by decide) (?_ : RR _ _ _ _ 25 _ _ _ _)
  refine R_iconst dX4_copyFrom_25 (?_ : RR _ _ _ _ 26 _ _ _ _)
  refine R_bipush dX4_copyFrom_26 rfl (?_ : RR _ _ _ _ 28 _ _ _ _)
  refine R_copy dX4_copyFrom_28 maX4_26 (by decide) (Nat.le_of_ble_eq_true rfl) (?_ : RR _ _ _ _ 31 _ _ _ _)
  try simp (disch := omega) only [rup_rup, rup_sort, rupS_def, rup_s, rup_n, fup_fup, fup_s, fup_n]
  exact R_return dX4_copyFrom_31 trivial hQ
theorem T_X4_add {r n : Nat} {z : Int} {h : Nat → Int → Int} (hn : h r 2 = n) (hr : isRule r := by assumption) (hn40 : n < 40 := by omega) (hz : r32 z := by omega) : MT mX4_add 0 [pR r, pI z] h none (rup (rup h r (fup (h r) 2 (n + 1))) (r + 1) (fup (h (r + 1)) n z)) := by
  obtain ⟨t0, t1, t2, t3, t4⟩ := hr
  refine MT.of (fun Q hQ => (?_ : RR mX4_add _ _ _ _ [pR r, pI z] _ _ _))
  refine R_aload_n dX4_add_0 rfl (?_ : RR _ _ _ _ 1 _ _ _ _)
  refine R_geti (z := 2) dX4_add_1 flX4_18 cok_4 rfl (by decide) rfl (fun q1 => (?_ : RR _ _ _ _ 4 _ _ _ _))
  try simp (disch := omega) only [rup_rup, rup_sort, rupS_def, rup_s, rup_n, fup_fup, fup_s, fup_n] at q1 ⊢
  refine R_bipush dX4_add_4 rfl (?_ : RR _ _ _ _ 6 _ _ _ _)
  rw [hn] at q1
  rw [hn]
  refine R_icmp_ge (t := 29) dX4_add_6 rfl (fun c6 => ?_) (fun c6 => ?_)
  · exfalso; omega
  refine R_aload_n dX4_add_9 rfl (?_ : RR _ _ _ _ 10 _ _ _ _)
  refine R_getr dX4_add_10 flX4_9 cok_4 rfl (by decide) (?_ : RR _ _ _ _ 13 _ _ _ _)
  refine R_aload_n dX4_add_13 rfl (?_ : RR _ _ _ _ 14 _ _ _ _)
  refine R_geti (z := 2) dX4_add_14 flX4_18 cok_4 rfl (by decide) rfl (fun q14 => (?_ : RR _ _ _ _ 17 _ _ _ _))
  try simp (disch := omega) only [rup_rup, rup_sort, rupS_def, rup_s, rup_n, fup_fup, fup_s, fup_n] at q14 ⊢
  rw [hn]
  refine R_iload_n dX4_add_17 rfl (?_ : RR _ _ _ _ 18 _ _ _ _)
  refine R_iast dX4_add_18 (?_ : RR _ _ _ _ 19 _ _ _ _)
  try simp (disch := omega) only [rup_rup, rup_sort, rupS_def, rup_s, rup_n, fup_fup, fup_s, fup_n]
  refine R_aload_n dX4_add_19 rfl (?_ : RR _ _ _ _ 20 _ _ _ _)
  refine R_dup dX4_add_20 (fun _ => rfl) (?_ : RR _ _ _ _ 21 _ _ _ _)
  refine R_geti (z := 2) dX4_add_21 flX4_18 cok_4 rfl (by decide) rfl (fun q21 => (?_ : RR _ _ _ _ 24 _ _ _ _))
  try simp (disch := omega) only [rup_rup, rup_sort, rupS_def, rup_s, rup_n, fup_fup, fup_s, fup_n] at q21 ⊢
  rw [hn]
  refine R_iconst dX4_add_24 (?_ : RR _ _ _ _ 25 _ _ _ _)
  refine R_iadd dX4_add_25 (?_ : RR _ _ _ _ 26 _ _ _ _)
  refine R_puti (zk := 2) dX4_add_26 flX4_18 cok_4 (by decide) (fun q hq => by cases hq; rfl) rfl (?_ : RR _ _ _ _ 29 _ _ _ _)
  try simp (disch := omega) only [rup_rup, rup_sort, rupS_def, rup_s, rup_n, fup_fup, fup_s, fup_n]
  exact R_return dX4_add_29 trivial hQ
/-- one code on the stack -/
def vbR (cod th : Int → Int) (i : Nat) (s : (Int → Int) × Int) : (Int → Int) × Int :=
  if 0 ≤ cod i ∧ s.2 < 40 then (fup s.1 s.2 (if cod i < 1000 then cod i else th (cod i - 1000)), s.2 + 1)
  else if cod i = -1 ∧ 0 < s.2 then (fup s.1 (s.2 - 1) (w32 (-(s.1 (s.2 - 1)))), s.2)
  else if 1 < s.2 then (fup s.1 (s.2 + -1 - 1) (w32 (rk (-(cod i)) (s.1 (s.2 + -1 - 1)) (s.1 (s.2 + -1)))), s.2 + -1)
  else s
theorem vb_top {cod th sk : Int → Int} {n : Nat} : ∀ i, i ≤ n → 0 ≤ (it (vbR cod th) (sk, 0) i).2 ∧ (it (vbR cod th) (sk, 0) i).2 ≤ 40 :=
  it_inv (fun (_ : Nat) (s : (Int → Int) × Int) => 0 ≤ s.2 ∧ s.2 ≤ 40) ⟨by show (0 : Int) ≤ 0; omega, by show (0 : Int) ≤ 40; omega⟩ (fun i s _ hs => by
    unfold vbR
    repeat' split
    · exact ⟨by show 0 ≤ s.2 + 1; omega, by show s.2 + 1 ≤ 40; omega⟩
    · exact ⟨by show 0 ≤ s.2 + 1; omega, by show s.2 + 1 ≤ 40; omega⟩
    · exact hs
    · exact ⟨by show 0 ≤ s.2 + -1; omega, by show s.2 + -1 ≤ 40; omega⟩
    · exact hs)
/-- codes that the machine can go through -/
def codB (cod : Int → Int) (n : Nat) : Prop := ∀ i : Nat, i < n → -1000 ≤ cod i ∧ cod i < 1006
theorem T_X4_votesBy {r n : Nat} {h : Nat → Int → Int} (hn : h r 2 = n) (hcb : codB (h (r + 1)) n) (hr : isRule r := by assumption) (hr29 : 29 ≤ r ∧ r + 2 < 43 := by omega) (hn40 : n ≤ 40 := by omega) : MT mX4_votesBy 1 [pR r, pR 43] h (some (pI (max 0 (min 99 ((it (vbR (h (r + 1)) (h 43)) (h (r + 2), 0) n).1 0))))) (rup h (r + 2) (it (vbR (h (r + 1)) (h 43)) (h (r + 2), 0) n).1) := by
  obtain ⟨t0, t1, t2, t3, t4⟩ := hr
  refine MT.of (fun Q hQ => (?_ : RR mX4_votesBy _ _ _ _ [pR r, pR 43, pU, pU, pU] _ _ _))
  have L : ∀ (k i : Nat) (w : PV), i + k = n → RR mX4_votesBy 1 0 0 4 [pR r, pR 43, pI (it (vbR (h (r + 1)) (h 43)) (h (r + 2), 0) i).2, pI i, w] [] (shp0, rf0, rup h (r + 2) (it (vbR (h (r + 1)) (h 43)) (h (r + 2), 0) i).1) Q := by
    intro k
    induction k with
    | zero =>
      intro i w hi
      obtain rfl : i = n := by omega
      refine R_iload_n dX4_votesBy_4 rfl (?_ : RR _ _ _ _ 5 _ _ _ _)
      refine R_aload_n dX4_votesBy_5 rfl (?_ : RR _ _ _ _ 6 _ _ _ _)
      refine R_geti (z := 2) dX4_votesBy_6 flX4_18 cok_4 rfl (by decide) rfl (fun q6 => (?_ : RR _ _ _ _ 9 _ _ _ _))
      try simp (disch := omega) only [rup_rup, rup_sort, rupS_def, rup_s, rup_n, fup_fup, fup_s, fup_n] at q6 ⊢
      rw [hn] at q6 ⊢
      refine R_icmp_ge (t := 136) dX4_votesBy_9 rfl (fun c9 => ?_) (fun c9 => ?_)
      rotate_left
      · exfalso; omega
      refine R_iconst dX4_votesBy_136 (?_ : RR _ _ _ _ 137 _ _ _ _)
      refine R_bipush dX4_votesBy_137 rfl (?_ : RR _ _ _ _ 139 _ _ _ _)
      refine R_aload_n dX4_votesBy_139 rfl (?_ : RR _ _ _ _ 140 _ _ _ _)
      refine R_getr dX4_votesBy_140 flX4_15 cok_4 rfl (by decide) (?_ : RR _ _ _ _ 143 _ _ _ _)
      refine R_iconst dX4_votesBy_143 (?_ : RR _ _ _ _ 144 _ _ _ _)
      refine R_iald dX4_votesBy_144 (fun q144 => (?_ : RR _ _ _ _ 145 _ _ _ _))
      try simp (disch := omega) only [rup_rup, rup_sort, rupS_def, rup_s, rup_n, fup_fup, fup_s, fup_n] at q144 ⊢
      refine R_min dX4_votesBy_145 mmX4_36 (by decide) (Nat.le_of_ble_eq_true rfl) (?_ : RR _ _ _ _ 148 _ _ _ _)
      try simp (disch := omega) only [rup_rup, rup_sort, rupS_def, rup_s, rup_n, fup_fup, fup_s, fup_n]
      refine R_max dX4_votesBy_148 mmX4_42 (by decide) (Nat.le_of_ble_eq_true rfl) (?_ : RR _ _ _ _ 151 _ _ _ _)
      try simp (disch := omega) only [rup_rup, rup_sort, rupS_def, rup_s, rup_n, fup_fup, fup_s, fup_n]
      exact R_ireturn dX4_votesBy_151 trivial hQ
    | succ k ih =>
      intro i w hi
      have hc := hcb i (by omega)
      have hb := vb_top (cod := h (r + 1)) (th := h 43) (sk := h (r + 2)) (n := n) i (by omega)
      have e9 : it (vbR (h (r + 1)) (h 43)) (h (r + 2), 0) (i + 1) = vbR (h (r + 1)) (h 43) i (it (vbR (h (r + 1)) (h 43)) (h (r + 2), 0) i) := rfl
      have IH := fun w => ih (i + 1) w (by omega)
      rw [e9] at IH
      generalize it (vbR (h (r + 1)) (h 43)) (h (r + 2), 0) i = s at hb IH ⊢
      obtain ⟨sk, top⟩ := s
      simp only [vbR] at IH
      simp only at hb
      refine R_iload_n dX4_votesBy_4 rfl (?_ : RR _ _ _ _ 5 _ _ _ _)
      refine R_aload_n dX4_votesBy_5 rfl (?_ : RR _ _ _ _ 6 _ _ _ _)
      refine R_geti (z := 2) dX4_votesBy_6 flX4_18 cok_4 rfl (by decide) rfl (fun q6 => (?_ : RR _ _ _ _ 9 _ _ _ _))
      try simp (disch := omega) only [rup_rup, rup_sort, rupS_def, rup_s, rup_n, fup_fup, fup_s, fup_n] at q6 ⊢
      rw [hn] at q6 ⊢
      refine R_icmp_ge (t := 136) dX4_votesBy_9 rfl (fun c9 => ?_) (fun c9 => ?_)
      · exfalso; omega
      refine R_aload_n dX4_votesBy_12 rfl (?_ : RR _ _ _ _ 13 _ _ _ _)
      refine R_getr dX4_votesBy_13 flX4_9 cok_4 rfl (by decide) (?_ : RR _ _ _ _ 16 _ _ _ _)
      refine R_iload_n dX4_votesBy_16 rfl (?_ : RR _ _ _ _ 17 _ _ _ _)
      refine R_iald dX4_votesBy_17 (fun q17 => (?_ : RR _ _ _ _ 18 _ _ _ _))
      try simp (disch := omega) only [rup_rup, rup_sort, rupS_def, rup_s, rup_n, fup_fup, fup_s, fup_n] at q17 ⊢
      refine R_istore dX4_votesBy_18 (Nat.le_of_ble_eq_true rfl) (?_ : RR _ _ _ _ 20 [_, _, _, _, _] _ _ _)
      refine R_iload dX4_votesBy_20 rfl (?_ : RR _ _ _ _ 22 _ _ _ _)
      refine R_if_lt (t := 64) dX4_votesBy_22 rfl (fun c22 => ?_) (fun c22 => ?_)
      · rw [if_neg (by omega)] at IH
        refine R_iload dX4_votesBy_64 rfl (?_ : RR _ _ _ _ 66 _ _ _ _)
        refine R_iconst dX4_votesBy_66 (?_ : RR _ _ _ _ 67 _ _ _ _)
        refine R_icmp_ne (t := 94) dX4_votesBy_67 rfl (fun c67 => ?_) (fun c67 => ?_)
        · rw [if_neg (by omega)] at IH
          refine R_iload_n dX4_votesBy_94 rfl (?_ : RR _ _ _ _ 95 _ _ _ _)
          refine R_iconst dX4_votesBy_95 (?_ : RR _ _ _ _ 96 _ _ _ _)
          refine R_icmp_le (t := 130) dX4_votesBy_96 rfl (fun c96 => ?_) (fun c96 => ?_)
          · rw [if_neg (by omega)] at IH
            refine R_iinc dX4_votesBy_130 rfl (Nat.le_of_ble_eq_true rfl) (?_ : RR _ _ _ _ 133 [_, _, _, _, _] _ _ _)
            refine R_goto (t := 4) dX4_votesBy_133 rfl (?_ : RR _ _ _ _ 4 _ _ _ _)
            exact IH _
          · rw [if_pos (by omega)] at IH
            refine R_iinc dX4_votesBy_99 rfl (Nat.le_of_ble_eq_true rfl) (?_ : RR _ _ _ _ 102 [_, _, _, _, _] _ _ _)
            refine R_aload_n dX4_votesBy_102 rfl (?_ : RR _ _ _ _ 103 _ _ _ _)
            refine R_getr dX4_votesBy_103 flX4_15 cok_4 rfl (by decide) (?_ : RR _ _ _ _ 106 _ _ _ _)
            refine R_iload_n dX4_votesBy_106 rfl (?_ : RR _ _ _ _ 107 _ _ _ _)
            refine R_iconst dX4_votesBy_107 (?_ : RR _ _ _ _ 108 _ _ _ _)
            refine R_isub dX4_votesBy_108 (?_ : RR _ _ _ _ 109 _ _ _ _)
            refine R_iload dX4_votesBy_109 rfl (?_ : RR _ _ _ _ 111 _ _ _ _)
            refine R_ineg dX4_votesBy_111 (?_ : RR _ _ _ _ 112 _ _ _ _)
            refine R_aload_n dX4_votesBy_112 rfl (?_ : RR _ _ _ _ 113 _ _ _ _)
            refine R_getr dX4_votesBy_113 flX4_15 cok_4 rfl (by decide) (?_ : RR _ _ _ _ 116 _ _ _ _)
            refine R_iload_n dX4_votesBy_116 rfl (?_ : RR _ _ _ _ 117 _ _ _ _)
            refine R_iconst dX4_votesBy_117 (?_ : RR _ _ _ _ 118 _ _ _ _)
            refine R_isub dX4_votesBy_118 (?_ : RR _ _ _ _ 119 _ _ _ _)
            refine R_iald dX4_votesBy_119 (fun q119 => (?_ : RR _ _ _ _ 120 _ _ _ _))
            try simp (disch := omega) only [rup_rup, rup_sort, rupS_def, rup_s, rup_n, fup_fup, fup_s, fup_n] at q119 ⊢
            refine R_aload_n dX4_votesBy_120 rfl (?_ : RR _ _ _ _ 121 _ _ _ _)
            refine R_getr dX4_votesBy_121 flX4_15 cok_4 rfl (by decide) (?_ : RR _ _ _ _ 124 _ _ _ _)
            refine R_iload_n dX4_votesBy_124 rfl (?_ : RR _ _ _ _ 125 _ _ _ _)
            refine R_iald dX4_votesBy_125 (fun q125 => (?_ : RR _ _ _ _ 126 _ _ _ _))
            try simp (disch := omega) only [rup_rup, rup_sort, rupS_def, rup_s, rup_n, fup_fup, fup_s, fup_n] at q125 ⊢
            refine R_cSi3 dX4_votesBy_126 msX4_reckon mlX4_32 (by decide) (Nat.le_of_ble_eq_true rfl) (Nat.le_of_ble_eq_true rfl) (T_X4_reckon) (?_ : RR _ _ _ _ 129 _ _ _ _)
            try simp (disch := omega) only [rup_rup, rup_sort, rupS_def, rup_s, rup_n, fup_fup, fup_s, fup_n]
            refine R_wrap ?_
            refine R_iast (hz := w32_r _) dX4_votesBy_129 (?_ : RR _ _ _ _ 130 _ _ _ _)
            try simp (disch := omega) only [rup_rup, rup_sort, rupS_def, rup_s, rup_n, fup_fup, fup_s, fup_n]
            refine R_iinc dX4_votesBy_130 rfl (Nat.le_of_ble_eq_true rfl) (?_ : RR _ _ _ _ 133 [_, _, _, _, _] _ _ _)
            refine R_goto (t := 4) dX4_votesBy_133 rfl (?_ : RR _ _ _ _ 4 _ _ _ _)
            exact IH _
        · refine R_iload_n dX4_votesBy_70 rfl (?_ : RR _ _ _ _ 71 _ _ _ _)
          refine R_if_le (t := 94) dX4_votesBy_71 rfl (fun c71 => ?_) (fun c71 => ?_)
          · rw [if_neg (by omega)] at IH
            refine R_iload_n dX4_votesBy_94 rfl (?_ : RR _ _ _ _ 95 _ _ _ _)
            refine R_iconst dX4_votesBy_95 (?_ : RR _ _ _ _ 96 _ _ _ _)
            refine R_icmp_le (t := 130) dX4_votesBy_96 rfl (fun c96 => ?_) (fun c96 => ?_)
            · rw [if_neg (by omega)] at IH
              refine R_iinc dX4_votesBy_130 rfl (Nat.le_of_ble_eq_true rfl) (?_ : RR _ _ _ _ 133 [_, _, _, _, _] _ _ _)
              refine R_goto (t := 4) dX4_votesBy_133 rfl (?_ : RR _ _ _ _ 4 _ _ _ _)
              exact IH _
            · rw [if_pos (by omega)] at IH
              refine R_iinc dX4_votesBy_99 rfl (Nat.le_of_ble_eq_true rfl) (?_ : RR _ _ _ _ 102 [_, _, _, _, _] _ _ _)
              refine R_aload_n dX4_votesBy_102 rfl (?_ : RR _ _ _ _ 103 _ _ _ _)
              refine R_getr dX4_votesBy_103 flX4_15 cok_4 rfl (by decide) (?_ : RR _ _ _ _ 106 _ _ _ _)
              refine R_iload_n dX4_votesBy_106 rfl (?_ : RR _ _ _ _ 107 _ _ _ _)
              refine R_iconst dX4_votesBy_107 (?_ : RR _ _ _ _ 108 _ _ _ _)
              refine R_isub dX4_votesBy_108 (?_ : RR _ _ _ _ 109 _ _ _ _)
              refine R_iload dX4_votesBy_109 rfl (?_ : RR _ _ _ _ 111 _ _ _ _)
              refine R_ineg dX4_votesBy_111 (?_ : RR _ _ _ _ 112 _ _ _ _)
              refine R_aload_n dX4_votesBy_112 rfl (?_ : RR _ _ _ _ 113 _ _ _ _)
              refine R_getr dX4_votesBy_113 flX4_15 cok_4 rfl (by decide) (?_ : RR _ _ _ _ 116 _ _ _ _)
              refine R_iload_n dX4_votesBy_116 rfl (?_ : RR _ _ _ _ 117 _ _ _ _)
              refine R_iconst dX4_votesBy_117 (?_ : RR _ _ _ _ 118 _ _ _ _)
              refine R_isub dX4_votesBy_118 (?_ : RR _ _ _ _ 119 _ _ _ _)
              refine R_iald dX4_votesBy_119 (fun q119 => (?_ : RR _ _ _ _ 120 _ _ _ _))
              try simp (disch := omega) only [rup_rup, rup_sort, rupS_def, rup_s, rup_n, fup_fup, fup_s, fup_n] at q119 ⊢
              refine R_aload_n dX4_votesBy_120 rfl (?_ : RR _ _ _ _ 121 _ _ _ _)
              refine R_getr dX4_votesBy_121 flX4_15 cok_4 rfl (by decide) (?_ : RR _ _ _ _ 124 _ _ _ _)
              refine R_iload_n dX4_votesBy_124 rfl (?_ : RR _ _ _ _ 125 _ _ _ _)
              refine R_iald dX4_votesBy_125 (fun q125 => (?_ : RR _ _ _ _ 126 _ _ _ _))
              try simp (disch := omega) only [rup_rup, rup_sort, rupS_def, rup_s, rup_n, fup_fup, fup_s, fup_n] at q125 ⊢
              refine R_cSi3 dX4_votesBy_126 msX4_reckon mlX4_32 (by decide) (Nat.le_of_ble_eq_true rfl) (Nat.le_of_ble_eq_true rfl) (T_X4_reckon) (?_ : RR _ _ _ _ 129 _ _ _ _)
              try simp (disch := omega) only [rup_rup, rup_sort, rupS_def, rup_s, rup_n, fup_fup, fup_s, fup_n]
              refine R_wrap ?_
              refine R_iast (hz := w32_r _) dX4_votesBy_129 (?_ : RR _ _ _ _ 130 _ _ _ _)
              try simp (disch := omega) only [rup_rup, rup_sort, rupS_def, rup_s, rup_n, fup_fup, fup_s, fup_n]
              refine R_iinc dX4_votesBy_130 rfl (Nat.le_of_ble_eq_true rfl) (?_ : RR _ _ _ _ 133 [_, _, _, _, _] _ _ _)
              refine R_goto (t := 4) dX4_votesBy_133 rfl (?_ : RR _ _ _ _ 4 _ _ _ _)
              exact IH _
          · rw [if_pos (by omega)] at IH
            refine R_aload_n dX4_votesBy_74 rfl (?_ : RR _ _ _ _ 75 _ _ _ _)
            refine R_getr dX4_votesBy_75 flX4_15 cok_4 rfl (by decide) (?_ : RR _ _ _ _ 78 _ _ _ _)
            refine R_iload_n dX4_votesBy_78 rfl (?_ : RR _ _ _ _ 79 _ _ _ _)
            refine R_iconst dX4_votesBy_79 (?_ : RR _ _ _ _ 80 _ _ _ _)
            refine R_isub dX4_votesBy_80 (?_ : RR _ _ _ _ 81 _ _ _ _)
            refine R_aload_n dX4_votesBy_81 rfl (?_ : RR _ _ _ _ 82 _ _ _ _)
            refine R_getr dX4_votesBy_82 flX4_15 cok_4 rfl (by decide) (?_ : RR _ _ _ _ 85 _ _ _ _)
            refine R_iload_n dX4_votesBy_85 rfl (?_ : RR _ _ _ _ 86 _ _ _ _)
            refine R_iconst dX4_votesBy_86 (?_ : RR _ _ _ _ 87 _ _ _ _)
            refine R_isub dX4_votesBy_87 (?_ : RR _ _ _ _ 88 _ _ _ _)
            refine R_iald dX4_votesBy_88 (fun q88 => (?_ : RR _ _ _ _ 89 _ _ _ _))
            try simp (disch := omega) only [rup_rup, rup_sort, rupS_def, rup_s, rup_n, fup_fup, fup_s, fup_n] at q88 ⊢
            refine R_ineg dX4_votesBy_89 (?_ : RR _ _ _ _ 90 _ _ _ _)
            refine R_wrap ?_
            refine R_iast (hz := w32_r _) dX4_votesBy_90 (?_ : RR _ _ _ _ 91 _ _ _ _)
            try simp (disch := omega) only [rup_rup, rup_sort, rupS_def, rup_s, rup_n, fup_fup, fup_s, fup_n]
            refine R_goto (t := 130) dX4_votesBy_91 rfl (?_ : RR _ _ _ _ 130 _ _ _ _)
            refine R_iinc dX4_votesBy_130 rfl (Nat.le_of_ble_eq_true rfl) (?_ : RR _ _ _ _ 133 [_, _, _, _, _] _ _ _)
            refine R_goto (t := 4) dX4_votesBy_133 rfl (?_ : RR _ _ _ _ 4 _ _ _ _)
            exact IH _
      · refine R_iload_n dX4_votesBy_25 rfl (?_ : RR _ _ _ _ 26 _ _ _ _)
        refine R_bipush dX4_votesBy_26 rfl (?_ : RR _ _ _ _ 28 _ _ _ _)
        refine R_icmp_ge (t := 64) dX4_votesBy_28 rfl (fun c28 => ?_) (fun c28 => ?_)
        · rw [if_neg (by omega)] at IH
          refine R_iload dX4_votesBy_64 rfl (?_ : RR _ _ _ _ 66 _ _ _ _)
          refine R_iconst dX4_votesBy_66 (?_ : RR _ _ _ _ 67 _ _ _ _)
          refine R_icmp_ne (t := 94) dX4_votesBy_67 rfl (fun c67 => ?_) (fun c67 => ?_)
          · rw [if_neg (by omega)] at IH
            refine R_iload_n dX4_votesBy_94 rfl (?_ : RR _ _ _ _ 95 _ _ _ _)
            refine R_iconst dX4_votesBy_95 (?_ : RR _ _ _ _ 96 _ _ _ _)
            refine R_icmp_le (t := 130) dX4_votesBy_96 rfl (fun c96 => ?_) (fun c96 => ?_)
            · rw [if_neg (by omega)] at IH
              refine R_iinc dX4_votesBy_130 rfl (Nat.le_of_ble_eq_true rfl) (?_ : RR _ _ _ _ 133 [_, _, _, _, _] _ _ _)
              refine R_goto (t := 4) dX4_votesBy_133 rfl (?_ : RR _ _ _ _ 4 _ _ _ _)
              exact IH _
            · rw [if_pos (by omega)] at IH
              refine R_iinc dX4_votesBy_99 rfl (Nat.le_of_ble_eq_true rfl) (?_ : RR _ _ _ _ 102 [_, _, _, _, _] _ _ _)
              refine R_aload_n dX4_votesBy_102 rfl (?_ : RR _ _ _ _ 103 _ _ _ _)
              refine R_getr dX4_votesBy_103 flX4_15 cok_4 rfl (by decide) (?_ : RR _ _ _ _ 106 _ _ _ _)
              refine R_iload_n dX4_votesBy_106 rfl (?_ : RR _ _ _ _ 107 _ _ _ _)
              refine R_iconst dX4_votesBy_107 (?_ : RR _ _ _ _ 108 _ _ _ _)
              refine R_isub dX4_votesBy_108 (?_ : RR _ _ _ _ 109 _ _ _ _)
              refine R_iload dX4_votesBy_109 rfl (?_ : RR _ _ _ _ 111 _ _ _ _)
              refine R_ineg dX4_votesBy_111 (?_ : RR _ _ _ _ 112 _ _ _ _)
              refine R_aload_n dX4_votesBy_112 rfl (?_ : RR _ _ _ _ 113 _ _ _ _)
              refine R_getr dX4_votesBy_113 flX4_15 cok_4 rfl (by decide) (?_ : RR _ _ _ _ 116 _ _ _ _)
              refine R_iload_n dX4_votesBy_116 rfl (?_ : RR _ _ _ _ 117 _ _ _ _)
              refine R_iconst dX4_votesBy_117 (?_ : RR _ _ _ _ 118 _ _ _ _)
              refine R_isub dX4_votesBy_118 (?_ : RR _ _ _ _ 119 _ _ _ _)
              refine R_iald dX4_votesBy_119 (fun q119 => (?_ : RR _ _ _ _ 120 _ _ _ _))
              try simp (disch := omega) only [rup_rup, rup_sort, rupS_def, rup_s, rup_n, fup_fup, fup_s, fup_n] at q119 ⊢
              refine R_aload_n dX4_votesBy_120 rfl (?_ : RR _ _ _ _ 121 _ _ _ _)
              refine R_getr dX4_votesBy_121 flX4_15 cok_4 rfl (by decide) (?_ : RR _ _ _ _ 124 _ _ _ _)
              refine R_iload_n dX4_votesBy_124 rfl (?_ : RR _ _ _ _ 125 _ _ _ _)
              refine R_iald dX4_votesBy_125 (fun q125 => (?_ : RR _ _ _ _ 126 _ _ _ _))
              try simp (disch := omega) only [rup_rup, rup_sort, rupS_def, rup_s, rup_n, fup_fup, fup_s, fup_n] at q125 ⊢
              refine R_cSi3 dX4_votesBy_126 msX4_reckon mlX4_32 (by decide) (Nat.le_of_ble_eq_true rfl) (Nat.le_of_ble_eq_true rfl) (T_X4_reckon) (?_ : RR _ _ _ _ 129 _ _ _ _)
              try simp (disch := omega) only [rup_rup, rup_sort, rupS_def, rup_s, rup_n, fup_fup, fup_s, fup_n]
              refine R_wrap ?_
              refine R_iast (hz := w32_r _) dX4_votesBy_129 (?_ : RR _ _ _ _ 130 _ _ _ _)
              try simp (disch := omega) only [rup_rup, rup_sort, rupS_def, rup_s, rup_n, fup_fup, fup_s, fup_n]
              refine R_iinc dX4_votesBy_130 rfl (Nat.le_of_ble_eq_true rfl) (?_ : RR _ _ _ _ 133 [_, _, _, _, _] _ _ _)
              refine R_goto (t := 4) dX4_votesBy_133 rfl (?_ : RR _ _ _ _ 4 _ _ _ _)
              exact IH _
          · refine R_iload_n dX4_votesBy_70 rfl (?_ : RR _ _ _ _ 71 _ _ _ _)
            refine R_if_le (t := 94) dX4_votesBy_71 rfl (fun c71 => ?_) (fun c71 => ?_)
            · rw [if_neg (by omega)] at IH
              refine R_iload_n dX4_votesBy_94 rfl (?_ : RR _ _ _ _ 95 _ _ _ _)
              refine R_iconst dX4_votesBy_95 (?_ : RR _ _ _ _ 96 _ _ _ _)
              refine R_icmp_le (t := 130) dX4_votesBy_96 rfl (fun c96 => ?_) (fun c96 => ?_)
              · rw [if_neg (by omega)] at IH
                refine R_iinc dX4_votesBy_130 rfl (Nat.le_of_ble_eq_true rfl) (?_ : RR _ _ _ _ 133 [_, _, _, _, _] _ _ _)
                refine R_goto (t := 4) dX4_votesBy_133 rfl (?_ : RR _ _ _ _ 4 _ _ _ _)
                exact IH _
              · rw [if_pos (by omega)] at IH
                refine R_iinc dX4_votesBy_99 rfl (Nat.le_of_ble_eq_true rfl) (?_ : RR _ _ _ _ 102 [_, _, _, _, _] _ _ _)
                refine R_aload_n dX4_votesBy_102 rfl (?_ : RR _ _ _ _ 103 _ _ _ _)
                refine R_getr dX4_votesBy_103 flX4_15 cok_4 rfl (by decide) (?_ : RR _ _ _ _ 106 _ _ _ _)
                refine R_iload_n dX4_votesBy_106 rfl (?_ : RR _ _ _ _ 107 _ _ _ _)
                refine R_iconst dX4_votesBy_107 (?_ : RR _ _ _ _ 108 _ _ _ _)
                refine R_isub dX4_votesBy_108 (?_ : RR _ _ _ _ 109 _ _ _ _)
                refine R_iload dX4_votesBy_109 rfl (?_ : RR _ _ _ _ 111 _ _ _ _)
                refine R_ineg dX4_votesBy_111 (?_ : RR _ _ _ _ 112 _ _ _ _)
                refine R_aload_n dX4_votesBy_112 rfl (?_ : RR _ _ _ _ 113 _ _ _ _)
                refine R_getr dX4_votesBy_113 flX4_15 cok_4 rfl (by decide) (?_ : RR _ _ _ _ 116 _ _ _ _)
                refine R_iload_n dX4_votesBy_116 rfl (?_ : RR _ _ _ _ 117 _ _ _ _)
                refine R_iconst dX4_votesBy_117 (?_ : RR _ _ _ _ 118 _ _ _ _)
                refine R_isub dX4_votesBy_118 (?_ : RR _ _ _ _ 119 _ _ _ _)
                refine R_iald dX4_votesBy_119 (fun q119 => (?_ : RR _ _ _ _ 120 _ _ _ _))
                try simp (disch := omega) only [rup_rup, rup_sort, rupS_def, rup_s, rup_n, fup_fup, fup_s, fup_n] at q119 ⊢
                refine R_aload_n dX4_votesBy_120 rfl (?_ : RR _ _ _ _ 121 _ _ _ _)
                refine R_getr dX4_votesBy_121 flX4_15 cok_4 rfl (by decide) (?_ : RR _ _ _ _ 124 _ _ _ _)
                refine R_iload_n dX4_votesBy_124 rfl (?_ : RR _ _ _ _ 125 _ _ _ _)
                refine R_iald dX4_votesBy_125 (fun q125 => (?_ : RR _ _ _ _ 126 _ _ _ _))
                try simp (disch := omega) only [rup_rup, rup_sort, rupS_def, rup_s, rup_n, fup_fup, fup_s, fup_n] at q125 ⊢
                refine R_cSi3 dX4_votesBy_126 msX4_reckon mlX4_32 (by decide) (Nat.le_of_ble_eq_true rfl) (Nat.le_of_ble_eq_true rfl) (T_X4_reckon) (?_ : RR _ _ _ _ 129 _ _ _ _)
                try simp (disch := omega) only [rup_rup, rup_sort, rupS_def, rup_s, rup_n, fup_fup, fup_s, fup_n]
                refine R_wrap ?_
                refine R_iast (hz := w32_r _) dX4_votesBy_129 (?_ : RR _ _ _ _ 130 _ _ _ _)
                try simp (disch := omega) only [rup_rup, rup_sort, rupS_def, rup_s, rup_n, fup_fup, fup_s, fup_n]
                refine R_iinc dX4_votesBy_130 rfl (Nat.le_of_ble_eq_true rfl) (?_ : RR _ _ _ _ 133 [_, _, _, _, _] _ _ _)
                refine R_goto (t := 4) dX4_votesBy_133 rfl (?_ : RR _ _ _ _ 4 _ _ _ _)
                exact IH _
            · rw [if_pos (by omega)] at IH
              refine R_aload_n dX4_votesBy_74 rfl (?_ : RR _ _ _ _ 75 _ _ _ _)
              refine R_getr dX4_votesBy_75 flX4_15 cok_4 rfl (by decide) (?_ : RR _ _ _ _ 78 _ _ _ _)
              refine R_iload_n dX4_votesBy_78 rfl (?_ : RR _ _ _ _ 79 _ _ _ _)
              refine R_iconst dX4_votesBy_79 (?_ : RR _ _ _ _ 80 _ _ _ _)
              refine R_isub dX4_votesBy_80 (?_ : RR _ _ _ _ 81 _ _ _ _)
              refine R_aload_n dX4_votesBy_81 rfl (?_ : RR _ _ _ _ 82 _ _ _ _)
              refine R_getr dX4_votesBy_82 flX4_15 cok_4 rfl (by decide) (?_ : RR _ _ _ _ 85 _ _ _ _)
              refine R_iload_n dX4_votesBy_85 rfl (?_ : RR _ _ _ _ 86 _ _ _ _)
              refine R_iconst dX4_votesBy_86 (?_ : RR _ _ _ _ 87 _ _ _ _)
              refine R_isub dX4_votesBy_87 (?_ : RR _ _ _ _ 88 _ _ _ _)
              refine R_iald dX4_votesBy_88 (fun q88 => (?_ : RR _ _ _ _ 89 _ _ _ _))
              try simp (disch := omega) only [rup_rup, rup_sort, rupS_def, rup_s, rup_n, fup_fup, fup_s, fup_n] at q88 ⊢
              refine R_ineg dX4_votesBy_89 (?_ : RR _ _ _ _ 90 _ _ _ _)
              refine R_wrap ?_
              refine R_iast (hz := w32_r _) dX4_votesBy_90 (?_ : RR _ _ _ _ 91 _ _ _ _)
              try simp (disch := omega) only [rup_rup, rup_sort, rupS_def, rup_s, rup_n, fup_fup, fup_s, fup_n]
              refine R_goto (t := 130) dX4_votesBy_91 rfl (?_ : RR _ _ _ _ 130 _ _ _ _)
              refine R_iinc dX4_votesBy_130 rfl (Nat.le_of_ble_eq_true rfl) (?_ : RR _ _ _ _ 133 [_, _, _, _, _] _ _ _)
              refine R_goto (t := 4) dX4_votesBy_133 rfl (?_ : RR _ _ _ _ 4 _ _ _ _)
              exact IH _
        · rw [if_pos (by omega)] at IH
          refine R_aload_n dX4_votesBy_31 rfl (?_ : RR _ _ _ _ 32 _ _ _ _)
          refine R_getr dX4_votesBy_32 flX4_15 cok_4 rfl (by decide) (?_ : RR _ _ _ _ 35 _ _ _ _)
          refine R_iload_n dX4_votesBy_35 rfl (?_ : RR _ _ _ _ 36 _ _ _ _)
          refine R_iload dX4_votesBy_36 rfl (?_ : RR _ _ _ _ 38 _ _ _ _)
          refine R_sipush dX4_votesBy_38 rfl (?_ : RR _ _ _ _ 41 _ _ _ _)
          refine R_icmp_ge (t := 49) dX4_votesBy_41 rfl (fun c41 => ?_) (fun c41 => ?_)
          · rw [if_neg (by omega)] at IH
            refine R_aload_n dX4_votesBy_49 rfl (?_ : RR _ _ _ _ 50 _ _ _ _)
            refine R_iload dX4_votesBy_50 rfl (?_ : RR _ _ _ _ 52 _ _ _ _)
            refine R_sipush dX4_votesBy_52 rfl (?_ : RR _ _ _ _ 55 _ _ _ _)
            refine R_isub dX4_votesBy_55 (?_ : RR _ _ _ _ 56 _ _ _ _)
            refine R_iald dX4_votesBy_56 (fun q56 => (?_ : RR _ _ _ _ 57 _ _ _ _))
            try simp (disch := omega) only [rup_rup, rup_sort, rupS_def, rup_s, rup_n, fup_fup, fup_s, fup_n] at q56 ⊢
            refine R_iast dX4_votesBy_57 (?_ : RR _ _ _ _ 58 _ _ _ _)
            try simp (disch := omega) only [rup_rup, rup_sort, rupS_def, rup_s, rup_n, fup_fup, fup_s, fup_n]
            refine R_iinc dX4_votesBy_58 rfl (Nat.le_of_ble_eq_true rfl) (?_ : RR _ _ _ _ 61 [_, _, _, _, _] _ _ _)
            refine R_goto (t := 130) dX4_votesBy_61 rfl (?_ : RR _ _ _ _ 130 _ _ _ _)
            refine R_iinc dX4_votesBy_130 rfl (Nat.le_of_ble_eq_true rfl) (?_ : RR _ _ _ _ 133 [_, _, _, _, _] _ _ _)
            refine R_goto (t := 4) dX4_votesBy_133 rfl (?_ : RR _ _ _ _ 4 _ _ _ _)
            exact IH _
          · rw [if_pos (by omega)] at IH
            refine R_iload dX4_votesBy_44 rfl (?_ : RR _ _ _ _ 46 _ _ _ _)
            refine R_goto (t := 57) dX4_votesBy_46 rfl (?_ : RR _ _ _ _ 57 _ _ _ _)
            refine R_iast dX4_votesBy_57 (?_ : RR _ _ _ _ 58 _ _ _ _)
            try simp (disch := omega) only [rup_rup, rup_sort, rupS_def, rup_s, rup_n, fup_fup, fup_s, fup_n]
            refine R_iinc dX4_votesBy_58 rfl (Nat.le_of_ble_eq_true rfl) (?_ : RR _ _ _ _ 61 [_, _, _, _, _] _ _ _)
            refine R_goto (t := 130) dX4_votesBy_61 rfl (?_ : RR _ _ _ _ 130 _ _ _ _)
            refine R_iinc dX4_votesBy_130 rfl (Nat.le_of_ble_eq_true rfl) (?_ : RR _ _ _ _ 133 [_, _, _, _, _] _ _ _)
            refine R_goto (t := 4) dX4_votesBy_133 rfl (?_ : RR _ _ _ _ 4 _ _ _ _)
            exact IH _
  refine R_iconst dX4_votesBy_0 (?_ : RR _ _ _ _ 1 _ _ _ _)
  refine R_istore_n dX4_votesBy_1 (Nat.le_of_ble_eq_true rfl) (?_ : RR _ _ _ _ 2 [_, _, _, _, _] _ _ _)
  refine R_iconst dX4_votesBy_2 (?_ : RR _ _ _ _ 3 _ _ _ _)
  refine R_istore_n dX4_votesBy_3 (Nat.le_of_ble_eq_true rfl) (?_ : RR _ _ _ _ 4 [_, _, _, _, _] _ _ _)
  have L0 := L n 0 pU (by omega)
  simp only [it, rup_self] at L0
  exact L0
/-! clearing -/
def zr (f : Int → Int) (n : Nat) : Int → Int := fun j => if 0 ≤ j ∧ j < n then 0 else f j
theorem zr_0 {f : Int → Int} : zr f 0 = f := by
  funext j
  unfold zr
  rw [if_neg (by omega)]
theorem zr_s {f : Int → Int} {n : Nat} : fup (zr f n) n 0 = zr f (n + 1) := by
  funext j
  unfold fup zr
  by_cases hj : j = n
  · rw [if_pos hj, if_pos (by omega)]
  · rw [if_neg hj]
    by_cases h2 : 0 ≤ j ∧ j < n
    · rw [if_pos h2, if_pos (by omega)]
    · rw [if_neg h2, if_neg (by omega)]
/-- how many sit in a coach -/
def cn (se : Int → Int) (c : Int) : Nat → Int
  | 0 => 0
  | n + 1 => cn se c n + (if se n = c then 1 else 0)
theorem cn_b {se : Int → Int} {c : Int} : ∀ {n : Nat}, 0 ≤ cn se c n ∧ cn se c n ≤ n
  | 0 => by show 0 ≤ (0 : Int) ∧ (0 : Int) ≤ 0; omega
  | n + 1 => by
    have := cn_b (se := se) (c := c) (n := n)
    show 0 ≤ cn se c n + _ ∧ cn se c n + _ ≤ _
    split <;> omega
def fuF (se f : Int → Int) (n : Nat) : Int → Int := fun j => if 0 ≤ j ∧ j < 6 then cn se j n else f j
theorem fuF_0 {se f : Int → Int} : fuF se f 0 = zr f 6 := rfl
theorem fuF_no {se f : Int → Int} {n : Nat} (h : ¬ (0 ≤ se n ∧ se n < 6)) : fuF se f (n + 1) = fuF se f n := by
  funext j
  unfold fuF
  split
  · show cn se j n + _ = _
    rw [if_neg (by intro e; rw [e] at h; omega)]
    omega
  · rfl
theorem fuF_yes {se f : Int → Int} {n : Nat} (h : 0 ≤ se n ∧ se n < 6) : fup (fuF se f n) (se n) (fuF se f n (se n) + 1) = fuF se f (n + 1) := by
  funext j
  unfold fup fuF
  by_cases hj : j = se n
  · subst hj
    rw [if_pos rfl, if_pos h, if_pos h]
    show _ = cn se (se n) n + _
    rw [if_pos rfl]
  · rw [if_neg hj]
    split
    · show _ = cn se j n + _
      rw [if_neg (fun e => hj e.symm)]
      omega
    · rfl
def seB (se : Int → Int) (n : Nat) : Prop := ∀ j : Nat, j < n → se j = -1 ∨ (0 ≤ se j ∧ se j < 6)
theorem T_X10_clear {t n : Nat} {h : Nat → Int → Int} (hs : seB (h (t + 4)) n) (ht : isTr t := by assumption) (htb : t + 4 < 29 := by omega) (hn : n ≤ 12 := by omega) : MT mX10_clear 0 [pR 36, pR t, pI n] h none (rup (rup (rup h 39 (zr (h 39) 18)) 40 (zr (h 40) 3)) 41 (fuF (h (t + 4)) (h 41) n)) := by
  obtain ⟨t0, t1, t2, t3, t4, t5, t6, t7, t8⟩ := id ht
  refine MT.of (fun Q hQ => (?_ : RR mX10_clear _ _ _ _ [pR 36, pR t, pI n, pU] _ _ _))
  have L4 : ∀ k i : Nat, i + k = n → RR mX10_clear 0 0 0 64 [pR 36, pR t, pI n, pI i] [] (shp0, rf0, rup (rup (rup h 39 (zr (h 39) 18)) 40 (zr (h 40) 3)) 41 (fuF (h (t + 4)) (h 41) i)) Q := by
    intro k
    induction k with
    | zero =>
      intro i hi 
      obtain rfl : i = n := by omega
      refine R_iload_n dX10_clear_64 rfl (?_ : RR _ _ _ _ 65 _ _ _ _)
      refine R_iload_n dX10_clear_65 rfl (?_ : RR _ _ _ _ 66 _ _ _ _)
      refine R_icmp_ge (t := 100) dX10_clear_66 rfl (fun c66 => ?_) (fun c66 => ?_)
      rotate_left
      · exfalso; omega
      exact R_return dX10_clear_100 trivial hQ
    | succ k ih =>
      intro i hi 
      have hsi := hs i (by omega)
      refine R_iload_n dX10_clear_64 rfl (?_ : RR _ _ _ _ 65 _ _ _ _)
      refine R_iload_n dX10_clear_65 rfl (?_ : RR _ _ _ _ 66 _ _ _ _)
      refine R_icmp_ge (t := 100) dX10_clear_66 rfl (fun c66 => ?_) (fun c66 => ?_)
      · exfalso; omega
      refine R_aload_n dX10_clear_69 rfl (?_ : RR _ _ _ _ 70 _ _ _ _)
      refine R_getr dX10_clear_70 flX10_43 cok_9 rfl (by decide) (?_ : RR _ _ _ _ 73 _ _ _ _)
      refine R_iload_n dX10_clear_73 rfl (?_ : RR _ _ _ _ 74 _ _ _ _)
      refine R_iald dX10_clear_74 (fun q74 => (?_ : RR _ _ _ _ 75 _ _ _ _))
      try simp (disch := omega) only [rup_rup, rup_sort, rupS_def, rup_s, rup_n, fup_fup, fup_s, fup_n] at q74 ⊢
      refine R_iconst dX10_clear_75 (?_ : RR _ _ _ _ 76 _ _ _ _)
      refine R_icmp_eq (t := 94) dX10_clear_76 rfl (fun c76 => ?_) (fun c76 => ?_)
      · rw [← fuF_no (n := i) (by omega)]
        refine R_iinc dX10_clear_94 rfl (Nat.le_of_ble_eq_true rfl) (?_ : RR _ _ _ _ 97 [_, _, _, _] _ _ _)
        refine R_goto (t := 64) dX10_clear_97 rfl (?_ : RR _ _ _ _ 64 _ _ _ _)
        exact ih (i + 1) (by omega)
      · have hb : 0 ≤ fuF (h (t + 4)) (h 41) i (h (t + 4) i) ∧ fuF (h (t + 4)) (h 41) i (h (t + 4) i) ≤ 12 := by
          unfold fuF
          rw [if_pos (by omega)]
          have := cn_b (se := h (t + 4)) (c := h (t + 4) i) (n := i)
          omega
        refine R_aload_n dX10_clear_79 rfl (?_ : RR _ _ _ _ 80 _ _ _ _)
        refine R_getr dX10_clear_80 flX10_24 cok_10 rfl (by decide) (?_ : RR _ _ _ _ 83 _ _ _ _)
        refine R_aload_n dX10_clear_83 rfl (?_ : RR _ _ _ _ 84 _ _ _ _)
        refine R_getr dX10_clear_84 flX10_43 cok_9 rfl (by decide) (?_ : RR _ _ _ _ 87 _ _ _ _)
        refine R_iload_n dX10_clear_87 rfl (?_ : RR _ _ _ _ 88 _ _ _ _)
        refine R_iald dX10_clear_88 (fun q88 => (?_ : RR _ _ _ _ 89 _ _ _ _))
        try simp (disch := omega) only [rup_rup, rup_sort, rupS_def, rup_s, rup_n, fup_fup, fup_s, fup_n] at q88 ⊢
        refine R_dup2 dX10_clear_89 (fun _ => rfl) (fun _ => rfl) (?_ : RR _ _ _ _ 90 _ _ _ _)
        refine R_iald dX10_clear_90 (fun q90 => (?_ : RR _ _ _ _ 91 _ _ _ _))
        try simp (disch := omega) only [rup_rup, rup_sort, rupS_def, rup_s, rup_n, fup_fup, fup_s, fup_n] at q90 ⊢
        refine R_iconst dX10_clear_91 (?_ : RR _ _ _ _ 92 _ _ _ _)
        refine R_iadd dX10_clear_92 (?_ : RR _ _ _ _ 93 _ _ _ _)
        refine R_iast dX10_clear_93 (?_ : RR _ _ _ _ 94 _ _ _ _)
        try simp (disch := omega) only [rup_rup, rup_sort, rupS_def, rup_s, rup_n, fup_fup, fup_s, fup_n]
        rw [fuF_yes (by omega)]
        refine R_iinc dX10_clear_94 rfl (Nat.le_of_ble_eq_true rfl) (?_ : RR _ _ _ _ 97 [_, _, _, _] _ _ _)
        refine R_goto (t := 64) dX10_clear_97 rfl (?_ : RR _ _ _ _ 64 _ _ _ _)
        exact ih (i + 1) (by omega)
  have L3 : ∀ k i : Nat, i + k = 3 → RR mX10_clear 0 0 0 44 [pR 36, pR t, pI n, pI i] [] (shp0, rf0, rup (rup (rup h 39 (zr (h 39) 18)) 40 (zr (h 40) i)) 41 (zr (h 41) 6)) Q := by
    intro k
    induction k with
    | zero =>
      intro i hi 
      obtain rfl : i = 3 := by omega
      refine R_iload_n dX10_clear_44 rfl (?_ : RR _ _ _ _ 45 _ _ _ _)
      refine R_iconst dX10_clear_45 (?_ : RR _ _ _ _ 46 _ _ _ _)
      refine R_icmp_gt (t := 62) dX10_clear_46 rfl (fun c46 => ?_) (fun c46 => ?_)
      rotate_left
      · exfalso; omega
      refine R_iconst dX10_clear_62 (?_ : RR _ _ _ _ 63 _ _ _ _)
      refine R_istore_n dX10_clear_63 (Nat.le_of_ble_eq_true rfl) (?_ : RR _ _ _ _ 64 [_, _, _, _] _ _ _)
      exact L4 n 0 (by omega)
    | succ k ih =>
      intro i hi 
      refine R_iload_n dX10_clear_44 rfl (?_ : RR _ _ _ _ 45 _ _ _ _)
      refine R_iconst dX10_clear_45 (?_ : RR _ _ _ _ 46 _ _ _ _)
      refine R_icmp_gt (t := 62) dX10_clear_46 rfl (fun c46 => ?_) (fun c46 => ?_)
      · exfalso; omega
      refine R_aload_n dX10_clear_49 rfl (?_ : RR _ _ _ _ 50 _ _ _ _)
      refine R_getr dX10_clear_50 flX10_21 cok_10 rfl (by decide) (?_ : RR _ _ _ _ 53 _ _ _ _)
      refine R_iload_n dX10_clear_53 rfl (?_ : RR _ _ _ _ 54 _ _ _ _)
      refine R_iconst dX10_clear_54 (?_ : RR _ _ _ _ 55 _ _ _ _)
      refine R_iast dX10_clear_55 (?_ : RR _ _ _ _ 56 _ _ _ _)
      try simp (disch := omega) only [rup_rup, rup_sort, rupS_def, rup_s, rup_n, fup_fup, fup_s, fup_n]
      rw [zr_s]
      refine R_iinc dX10_clear_56 rfl (Nat.le_of_ble_eq_true rfl) (?_ : RR _ _ _ _ 59 [_, _, _, _] _ _ _)
      refine R_goto (t := 44) dX10_clear_59 rfl (?_ : RR _ _ _ _ 44 _ _ _ _)
      exact ih (i + 1) (by omega)
  have L2 : ∀ k i : Nat, i + k = 6 → RR mX10_clear 0 0 0 23 [pR 36, pR t, pI n, pI i] [] (shp0, rf0, rup (rup h 39 (zr (h 39) 18)) 41 (zr (h 41) i)) Q := by
    intro k
    induction k with
    | zero =>
      intro i hi 
      obtain rfl : i = 6 := by omega
      refine R_iload_n dX10_clear_23 rfl (?_ : RR _ _ _ _ 24 _ _ _ _)
      refine R_bipush dX10_clear_24 rfl (?_ : RR _ _ _ _ 26 _ _ _ _)
      refine R_icmp_ge (t := 42) dX10_clear_26 rfl (fun c26 => ?_) (fun c26 => ?_)
      rotate_left
      · exfalso; omega
      refine R_iconst dX10_clear_42 (?_ : RR _ _ _ _ 43 _ _ _ _)
      refine R_istore_n dX10_clear_43 (Nat.le_of_ble_eq_true rfl) (?_ : RR _ _ _ _ 44 [_, _, _, _] _ _ _)
      have L0 := L3 3 0 (by omega)
      rw [zr_0] at L0
      rw [show rup (rup h 39 (zr (h 39) 18)) 40 (h 40) = rup h 39 (zr (h 39) 18) by rw [← rup_n (h := h) (a := 39) (b := 40) (f := zr (h 39) 18) (by decide), rup_self]] at L0
      exact L0
    | succ k ih =>
      intro i hi 
      refine R_iload_n dX10_clear_23 rfl (?_ : RR _ _ _ _ 24 _ _ _ _)
      refine R_bipush dX10_clear_24 rfl (?_ : RR _ _ _ _ 26 _ _ _ _)
      refine R_icmp_ge (t := 42) dX10_clear_26 rfl (fun c26 => ?_) (fun c26 => ?_)
      · exfalso; omega
      refine R_aload_n dX10_clear_29 rfl (?_ : RR _ _ _ _ 30 _ _ _ _)
      refine R_getr dX10_clear_30 flX10_24 cok_10 rfl (by decide) (?_ : RR _ _ _ _ 33 _ _ _ _)
      refine R_iload_n dX10_clear_33 rfl (?_ : RR _ _ _ _ 34 _ _ _ _)
      refine R_iconst dX10_clear_34 (?_ : RR _ _ _ _ 35 _ _ _ _)
      refine R_iast dX10_clear_35 (?_ : RR _ _ _ _ 36 _ _ _ _)
      try simp (disch := omega) only [rup_rup, rup_sort, rupS_def, rup_s, rup_n, fup_fup, fup_s, fup_n]
      rw [zr_s]
      refine R_iinc dX10_clear_36 rfl (Nat.le_of_ble_eq_true rfl) (?_ : RR _ _ _ _ 39 [_, _, _, _] _ _ _)
      refine R_goto (t := 23) dX10_clear_39 rfl (?_ : RR _ _ _ _ 23 _ _ _ _)
      exact ih (i + 1) (by omega)
  have L1 : ∀ k i : Nat, i + k = 18 → RR mX10_clear 0 0 0 2 [pR 36, pR t, pI n, pI i] [] (shp0, rf0, rup h 39 (zr (h 39) i)) Q := by
    intro k
    induction k with
    | zero =>
      intro i hi 
      obtain rfl : i = 18 := by omega
      refine R_iload_n dX10_clear_2 rfl (?_ : RR _ _ _ _ 3 _ _ _ _)
      refine R_bipush dX10_clear_3 rfl (?_ : RR _ _ _ _ 5 _ _ _ _)
      refine R_icmp_ge (t := 21) dX10_clear_5 rfl (fun c5 => ?_) (fun c5 => ?_)
      rotate_left
      · exfalso; omega
      refine R_iconst dX10_clear_21 (?_ : RR _ _ _ _ 22 _ _ _ _)
      refine R_istore_n dX10_clear_22 (Nat.le_of_ble_eq_true rfl) (?_ : RR _ _ _ _ 23 [_, _, _, _] _ _ _)
      have L0 := L2 6 0 (by omega)
      rw [zr_0] at L0
      rw [show rup (rup h 39 (zr (h 39) 18)) 41 (h 41) = rup h 39 (zr (h 39) 18) by rw [← rup_n (h := h) (a := 39) (b := 41) (f := zr (h 39) 18) (by decide), rup_self]] at L0
      exact L0
    | succ k ih =>
      intro i hi 
      refine R_iload_n dX10_clear_2 rfl (?_ : RR _ _ _ _ 3 _ _ _ _)
      refine R_bipush dX10_clear_3 rfl (?_ : RR _ _ _ _ 5 _ _ _ _)
      refine R_icmp_ge (t := 21) dX10_clear_5 rfl (fun c5 => ?_) (fun c5 => ?_)
      · exfalso; omega
      refine R_aload_n dX10_clear_8 rfl (?_ : RR _ _ _ _ 9 _ _ _ _)
      refine R_getr dX10_clear_9 flX10_18 cok_10 rfl (by decide) (?_ : RR _ _ _ _ 12 _ _ _ _)
      refine R_iload_n dX10_clear_12 rfl (?_ : RR _ _ _ _ 13 _ _ _ _)
      refine R_iconst dX10_clear_13 (?_ : RR _ _ _ _ 14 _ _ _ _)
      refine R_iast dX10_clear_14 (?_ : RR _ _ _ _ 15 _ _ _ _)
      try simp (disch := omega) only [rup_rup, rup_sort, rupS_def, rup_s, rup_n, fup_fup, fup_s, fup_n]
      rw [zr_s]
      refine R_iinc dX10_clear_15 rfl (Nat.le_of_ble_eq_true rfl) (?_ : RR _ _ _ _ 18 [_, _, _, _] _ _ _)
      refine R_goto (t := 2) dX10_clear_18 rfl (?_ : RR _ _ _ _ 2 _ _ _ _)
      exact ih (i + 1) (by omega)
  refine R_iconst dX10_clear_0 (?_ : RR _ _ _ _ 1 _ _ _ _)
  refine R_istore_n dX10_clear_1 (Nat.le_of_ble_eq_true rfl) (?_ : RR _ _ _ _ 2 [_, _, _, _] _ _ _)
  have L0 := L1 18 0 (by omega)
  rw [zr_0, rup_self] at L0
  exact L0
