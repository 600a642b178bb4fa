section MW
variable {sem : Sem} {h : Nat → Int → Int} {r H np nc : Nat}
theorem T_X12_walks_far2 {p c : Nat} (hp : p < np) (hc : c < nc) (hs : 0 ≤ mS (h r) p ∧ mS (h r) p < 6) (p1 : -1 ≤ mP (h r) (mS (h r) p) ∧ mP (h r) (mS (h r) p) < 6) (p2 : -1 ≤ mP (h r) c ∧ mP (h r) c < 6) (hno : ¬ (0 ≤ mP (h r) (mS (h r) p) ∧ 0 ≤ mP (h r) c ∧ iAbs (mP (h r) (mS (h r) p) - mP (h r) c) = 1)) (hnc : h 147 4 = nc) (hnp : h 147 5 = np) (hr : isRw r := by assumption) (h6 : nc ≤ 6 := by omega) (h12 : np ≤ 12 := by omega) : MT mX12_walks 2 [pR 147, pR r, pI p, pI c] h (some (pI (-3))) h := by
  refine MT.of (fun Q hQ => (?_ : RR mX12_walks _ _ _ _ [pR 147, pR r, pI p, pI c, pU, pU] _ _ _))
  have hsr : h r (14 + (p : Int)) = mS (h r) p := rfl
  have hab : r32 (iAbs (mP (h r) (mS (h r) p) - mP (h r) c)) := by unfold iAbs; split <;> omega
  refine R_aload_n dX12_walks_0 rfl (?_ : RR _ _ _ _ 1 _ _ _ _)
  refine R_iload_n dX12_walks_1 rfl (?_ : RR _ _ _ _ 2 _ _ _ _)
  refine R_cVi1 dX12_walks_2 mvX12_isPassenger mlX12_325 (by decide) (by decide) (Nat.le_of_ble_eq_true rfl) (Nat.le_of_ble_eq_true rfl) (T_X12_isPassenger (by omega)) (?_ : RR _ _ _ _ 5 _ _ _ _)
  rw [hnp, if_pos (by omega)]
  refine R_if_eq (t := 16) dX12_walks_5 rfl (fun c5 => ?_) (fun c5 => ?_)
  · exfalso; omega
  refine R_aload_n dX12_walks_8 rfl (?_ : RR _ _ _ _ 9 _ _ _ _)
  refine R_iload_n dX12_walks_9 rfl (?_ : RR _ _ _ _ 10 _ _ _ _)
  refine R_cVi1 dX12_walks_10 mvX12_isCoach mlX12_317 (by decide) (by decide) (Nat.le_of_ble_eq_true rfl) (Nat.le_of_ble_eq_true rfl) (T_X12_isCoach (by omega)) (?_ : RR _ _ _ _ 13 _ _ _ _)
  rw [hnc, if_pos (by omega)]
  refine R_if_ne (t := 18) dX12_walks_13 rfl (fun c13 => ?_) (fun c13 => ?_)
  rotate_left
  · exfalso; omega
  refine R_aload_n dX12_walks_18 rfl (?_ : RR _ _ _ _ 19 _ _ _ _)
  refine R_bipush dX12_walks_19 rfl (?_ : RR _ _ _ _ 21 _ _ _ _)
  refine R_iload_n dX12_walks_21 rfl (?_ : RR _ _ _ _ 22 _ _ _ _)
  refine R_iadd dX12_walks_22 (?_ : RR _ _ _ _ 23 _ _ _ _)
  refine R_iald dX12_walks_23 (fun q23 => (?_ : RR _ _ _ _ 24 _ _ _ _))
  rw [hsr] at q23 ⊢
  refine R_istore dX12_walks_24 (Nat.le_of_ble_eq_true rfl) (?_ : RR _ _ _ _ 26 [_, _, _, _, _, _] _ _ _)
  refine R_iload dX12_walks_26 rfl (?_ : RR _ _ _ _ 28 _ _ _ _)
  refine R_if_ge (t := 34) dX12_walks_28 rfl (fun c28 => ?_) (fun c28 => ?_)
  rotate_left
  · exfalso; omega
  refine R_aload_n dX12_walks_34 rfl (?_ : RR _ _ _ _ 35 _ _ _ _)
  refine R_iload dX12_walks_35 rfl (?_ : RR _ _ _ _ 37 _ _ _ _)
  refine R_cSi2 dX12_walks_37 msX12_placeOf mlX12_130 (by decide) (Nat.le_of_ble_eq_true rfl) (Nat.le_of_ble_eq_true rfl) (T_X12_placeOf) (?_ : RR _ _ _ _ 40 _ _ _ _)
  refine R_if_lt (t := 55) dX12_walks_40 rfl (fun c40 => ?_) (fun c40 => ?_)
  · refine R_iconst dX12_walks_55 (?_ : RR _ _ _ _ 56 _ _ _ _)
    refine R_istore dX12_walks_56 (Nat.le_of_ble_eq_true rfl) (?_ : RR _ _ _ _ 58 [_, _, _, _, _, _] _ _ _)
    refine R_iload dX12_walks_58 rfl (?_ : RR _ _ _ _ 60 _ _ _ _)
    refine R_if_eq (t := 82) dX12_walks_60 rfl (fun c60 => ?_) (fun c60 => ?_)
    · first
      | (exfalso; omega)
      | (refine R_bipush dX12_walks_82 rfl (?_ : RR _ _ _ _ 84 _ _ _ _)
         exact R_ireturn dX12_walks_84 trivial hQ)
    · first
      | (exfalso; omega)
      | (refine R_aload_n dX12_walks_63 rfl (?_ : RR _ _ _ _ 64 _ _ _ _)
         refine R_iload dX12_walks_64 rfl (?_ : RR _ _ _ _ 66 _ _ _ _)
         refine R_cSi2 dX12_walks_66 msX12_placeOf mlX12_130 (by decide) (Nat.le_of_ble_eq_true rfl) (Nat.le_of_ble_eq_true rfl) (T_X12_placeOf) (?_ : RR _ _ _ _ 69 _ _ _ _)
         refine R_aload_n dX12_walks_69 rfl (?_ : RR _ _ _ _ 70 _ _ _ _)
         refine R_iload_n dX12_walks_70 rfl (?_ : RR _ _ _ _ 71 _ _ _ _)
         refine R_cSi2 dX12_walks_71 msX12_placeOf mlX12_130 (by decide) (Nat.le_of_ble_eq_true rfl) (Nat.le_of_ble_eq_true rfl) (T_X12_placeOf) (?_ : RR _ _ _ _ 74 _ _ _ _)
         refine R_isub dX12_walks_74 (?_ : RR _ _ _ _ 75 _ _ _ _)
         refine R_abs dX12_walks_75 mmX12_364 (by decide) (Nat.le_of_ble_eq_true rfl) (?_ : RR _ _ _ _ 78 _ _ _ _)
         refine R_iconst dX12_walks_78 (?_ : RR _ _ _ _ 79 _ _ _ _)
         refine R_icmp_eq (t := 85) dX12_walks_79 rfl (fun c79 => ?_) (fun c79 => ?_)
         · first
           | (exfalso; omega)
           | (refine R_aload_n dX12_walks_85 rfl (?_ : RR _ _ _ _ 86 _ _ _ _)
              refine R_bipush dX12_walks_86 rfl (?_ : RR _ _ _ _ 88 _ _ _ _)
              refine R_iload_n dX12_walks_88 rfl (?_ : RR _ _ _ _ 89 _ _ _ _)
              refine R_iadd dX12_walks_89 (?_ : RR _ _ _ _ 90 _ _ _ _)
              refine R_iload_n dX12_walks_90 rfl (?_ : RR _ _ _ _ 91 _ _ _ _)
              refine R_iast dX12_walks_91 (?_ : RR _ _ _ _ 92 _ _ _ _)
              refine R_aload_n dX12_walks_92 rfl (?_ : RR _ _ _ _ 93 _ _ _ _)
              refine R_iconst dX12_walks_93 (?_ : RR _ _ _ _ 94 _ _ _ _)
              refine R_dup2 dX12_walks_94 (fun _ => rfl) (fun _ => rfl) (?_ : RR _ _ _ _ 95 _ _ _ _)
              refine R_iald dX12_walks_95 (fun q95 => (?_ : RR _ _ _ _ 96 _ _ _ _))
              refine R_iconst dX12_walks_96 (?_ : RR _ _ _ _ 97 _ _ _ _)
              refine R_iadd dX12_walks_97 (?_ : RR _ _ _ _ 98 _ _ _ _)
              refine R_iast dX12_walks_98 (?_ : RR _ _ _ _ 99 _ _ _ _)
              refine R_iload dX12_walks_99 rfl (?_ : RR _ _ _ _ 101 _ _ _ _)
              exact R_ireturn dX12_walks_101 trivial hQ)
         · first
           | (exfalso; omega)
           | (refine R_bipush dX12_walks_82 rfl (?_ : RR _ _ _ _ 84 _ _ _ _)
              exact R_ireturn dX12_walks_84 trivial hQ))
  · refine R_aload_n dX12_walks_43 rfl (?_ : RR _ _ _ _ 44 _ _ _ _)
    refine R_iload_n dX12_walks_44 rfl (?_ : RR _ _ _ _ 45 _ _ _ _)
    refine R_cSi2 dX12_walks_45 msX12_placeOf mlX12_130 (by decide) (Nat.le_of_ble_eq_true rfl) (Nat.le_of_ble_eq_true rfl) (T_X12_placeOf) (?_ : RR _ _ _ _ 48 _ _ _ _)
    refine R_if_lt (t := 55) dX12_walks_48 rfl (fun c48 => ?_) (fun c48 => ?_)
    · refine R_iconst dX12_walks_55 (?_ : RR _ _ _ _ 56 _ _ _ _)
      refine R_istore dX12_walks_56 (Nat.le_of_ble_eq_true rfl) (?_ : RR _ _ _ _ 58 [_, _, _, _, _, _] _ _ _)
      refine R_iload dX12_walks_58 rfl (?_ : RR _ _ _ _ 60 _ _ _ _)
      refine R_if_eq (t := 82) dX12_walks_60 rfl (fun c60 => ?_) (fun c60 => ?_)
      · first
        | (exfalso; omega)
        | (refine R_bipush dX12_walks_82 rfl (?_ : RR _ _ _ _ 84 _ _ _ _)
           exact R_ireturn dX12_walks_84 trivial hQ)
      · first
        | (exfalso; omega)
        | (refine R_aload_n dX12_walks_63 rfl (?_ : RR _ _ _ _ 64 _ _ _ _)
           refine R_iload dX12_walks_64 rfl (?_ : RR _ _ _ _ 66 _ _ _ _)
           refine R_cSi2 dX12_walks_66 msX12_placeOf mlX12_130 (by decide) (Nat.le_of_ble_eq_true rfl) (Nat.le_of_ble_eq_true rfl) (T_X12_placeOf) (?_ : RR _ _ _ _ 69 _ _ _ _)
           refine R_aload_n dX12_walks_69 rfl (?_ : RR _ _ _ _ 70 _ _ _ _)
           refine R_iload_n dX12_walks_70 rfl (?_ : RR _ _ _ _ 71 _ _ _ _)
           refine R_cSi2 dX12_walks_71 msX12_placeOf mlX12_130 (by decide) (Nat.le_of_ble_eq_true rfl) (Nat.le_of_ble_eq_true rfl) (T_X12_placeOf) (?_ : RR _ _ _ _ 74 _ _ _ _)
           refine R_isub dX12_walks_74 (?_ : RR _ _ _ _ 75 _ _ _ _)
           refine R_abs dX12_walks_75 mmX12_364 (by decide) (Nat.le_of_ble_eq_true rfl) (?_ : RR _ _ _ _ 78 _ _ _ _)
           refine R_iconst dX12_walks_78 (?_ : RR _ _ _ _ 79 _ _ _ _)
           refine R_icmp_eq (t := 85) dX12_walks_79 rfl (fun c79 => ?_) (fun c79 => ?_)
           · first
             | (exfalso; omega)
             | (refine R_aload_n dX12_walks_85 rfl (?_ : RR _ _ _ _ 86 _ _ _ _)
                refine R_bipush dX12_walks_86 rfl (?_ : RR _ _ _ _ 88 _ _ _ _)
                refine R_iload_n dX12_walks_88 rfl (?_ : RR _ _ _ _ 89 _ _ _ _)
                refine R_iadd dX12_walks_89 (?_ : RR _ _ _ _ 90 _ _ _ _)
                refine R_iload_n dX12_walks_90 rfl (?_ : RR _ _ _ _ 91 _ _ _ _)
                refine R_iast dX12_walks_91 (?_ : RR _ _ _ _ 92 _ _ _ _)
                refine R_aload_n dX12_walks_92 rfl (?_ : RR _ _ _ _ 93 _ _ _ _)
                refine R_iconst dX12_walks_93 (?_ : RR _ _ _ _ 94 _ _ _ _)
                refine R_dup2 dX12_walks_94 (fun _ => rfl) (fun _ => rfl) (?_ : RR _ _ _ _ 95 _ _ _ _)
                refine R_iald dX12_walks_95 (fun q95 => (?_ : RR _ _ _ _ 96 _ _ _ _))
                refine R_iconst dX12_walks_96 (?_ : RR _ _ _ _ 97 _ _ _ _)
                refine R_iadd dX12_walks_97 (?_ : RR _ _ _ _ 98 _ _ _ _)
                refine R_iast dX12_walks_98 (?_ : RR _ _ _ _ 99 _ _ _ _)
                refine R_iload dX12_walks_99 rfl (?_ : RR _ _ _ _ 101 _ _ _ _)
                exact R_ireturn dX12_walks_101 trivial hQ)
           · first
             | (exfalso; omega)
             | (refine R_bipush dX12_walks_82 rfl (?_ : RR _ _ _ _ 84 _ _ _ _)
                exact R_ireturn dX12_walks_84 trivial hQ))
    · refine R_iconst dX12_walks_51 (?_ : RR _ _ _ _ 52 _ _ _ _)
      refine R_goto (t := 56) dX12_walks_52 rfl (?_ : RR _ _ _ _ 56 _ _ _ _)
      refine R_istore dX12_walks_56 (Nat.le_of_ble_eq_true rfl) (?_ : RR _ _ _ _ 58 [_, _, _, _, _, _] _ _ _)
      refine R_iload dX12_walks_58 rfl (?_ : RR _ _ _ _ 60 _ _ _ _)
      refine R_if_eq (t := 82) dX12_walks_60 rfl (fun c60 => ?_) (fun c60 => ?_)
      · first
        | (exfalso; omega)
        | (refine R_bipush dX12_walks_82 rfl (?_ : RR _ _ _ _ 84 _ _ _ _)
           exact R_ireturn dX12_walks_84 trivial hQ)
      · first
        | (exfalso; omega)
        | (refine R_aload_n dX12_walks_63 rfl (?_ : RR _ _ _ _ 64 _ _ _ _)
           refine R_iload dX12_walks_64 rfl (?_ : RR _ _ _ _ 66 _ _ _ _)
           refine R_cSi2 dX12_walks_66 msX12_placeOf mlX12_130 (by decide) (Nat.le_of_ble_eq_true rfl) (Nat.le_of_ble_eq_true rfl) (T_X12_placeOf) (?_ : RR _ _ _ _ 69 _ _ _ _)
           refine R_aload_n dX12_walks_69 rfl (?_ : RR _ _ _ _ 70 _ _ _ _)
           refine R_iload_n dX12_walks_70 rfl (?_ : RR _ _ _ _ 71 _ _ _ _)
           refine R_cSi2 dX12_walks_71 msX12_placeOf mlX12_130 (by decide) (Nat.le_of_ble_eq_true rfl) (Nat.le_of_ble_eq_true rfl) (T_X12_placeOf) (?_ : RR _ _ _ _ 74 _ _ _ _)
           refine R_isub dX12_walks_74 (?_ : RR _ _ _ _ 75 _ _ _ _)
           refine R_abs dX12_walks_75 mmX12_364 (by decide) (Nat.le_of_ble_eq_true rfl) (?_ : RR _ _ _ _ 78 _ _ _ _)
           refine R_iconst dX12_walks_78 (?_ : RR _ _ _ _ 79 _ _ _ _)
           refine R_icmp_eq (t := 85) dX12_walks_79 rfl (fun c79 => ?_) (fun c79 => ?_)
           · first
             | (exfalso; omega)
             | (refine R_aload_n dX12_walks_85 rfl (?_ : RR _ _ _ _ 86 _ _ _ _)
                refine R_bipush dX12_walks_86 rfl (?_ : RR _ _ _ _ 88 _ _ _ _)
                refine R_iload_n dX12_walks_88 rfl (?_ : RR _ _ _ _ 89 _ _ _ _)
                refine R_iadd dX12_walks_89 (?_ : RR _ _ _ _ 90 _ _ _ _)
                refine R_iload_n dX12_walks_90 rfl (?_ : RR _ _ _ _ 91 _ _ _ _)
                refine R_iast dX12_walks_91 (?_ : RR _ _ _ _ 92 _ _ _ _)
                refine R_aload_n dX12_walks_92 rfl (?_ : RR _ _ _ _ 93 _ _ _ _)
                refine R_iconst dX12_walks_93 (?_ : RR _ _ _ _ 94 _ _ _ _)
                refine R_dup2 dX12_walks_94 (fun _ => rfl) (fun _ => rfl) (?_ : RR _ _ _ _ 95 _ _ _ _)
                refine R_iald dX12_walks_95 (fun q95 => (?_ : RR _ _ _ _ 96 _ _ _ _))
                refine R_iconst dX12_walks_96 (?_ : RR _ _ _ _ 97 _ _ _ _)
                refine R_iadd dX12_walks_97 (?_ : RR _ _ _ _ 98 _ _ _ _)
                refine R_iast dX12_walks_98 (?_ : RR _ _ _ _ 99 _ _ _ _)
                refine R_iload dX12_walks_99 rfl (?_ : RR _ _ _ _ 101 _ _ _ _)
                exact R_ireturn dX12_walks_101 trivial hQ)
           · first
             | (exfalso; omega)
             | (refine R_bipush dX12_walks_82 rfl (?_ : RR _ _ _ _ 84 _ _ _ _)
                exact R_ireturn dX12_walks_84 trivial hQ))
theorem T_X12_walks_yes2 {p c : Nat} (hp : p < np) (hc : c < nc) (hs : 0 ≤ mS (h r) p ∧ mS (h r) p < 6) (p1 : -1 ≤ mP (h r) (mS (h r) p) ∧ mP (h r) (mS (h r) p) < 6) (p2 : -1 ≤ mP (h r) c ∧ mP (h r) c < 6) (hok : 0 ≤ mP (h r) (mS (h r) p) ∧ 0 ≤ mP (h r) c ∧ iAbs (mP (h r) (mS (h r) p) - mP (h r) c) = 1) (hnow : h r 1 ≤ 2000000000) (hnc : h 147 4 = nc) (hnp : h 147 5 = np) (hr : isRw r := by assumption) (hrb : r = 154 ∨ r = 155 := by omega) (h6 : nc ≤ 6 := by omega) (h12 : np ≤ 12 := by omega) : MT mX12_walks 2 [pR 147, pR r, pI p, pI c] h (some (pI (mS (h r) p))) (rup h r (fup (fup (h r) (14 + p) c) 1 (h r 1 + 1))) := by
  refine MT.of (fun Q hQ => (?_ : RR mX12_walks _ _ _ _ [pR 147, pR r, pI p, pI c, pU, pU] _ _ _))
  have hsr : h r (14 + (p : Int)) = mS (h r) p := rfl
  refine R_aload_n dX12_walks_0 rfl (?_ : RR _ _ _ _ 1 _ _ _ _)
  refine R_iload_n dX12_walks_1 rfl (?_ : RR _ _ _ _ 2 _ _ _ _)
  refine R_cVi1 dX12_walks_2 mvX12_isPassenger mlX12_325 (by decide) (by decide) (Nat.le_of_ble_eq_true rfl) (Nat.le_of_ble_eq_true rfl) (T_X12_isPassenger (by omega)) (?_ : RR _ _ _ _ 5 _ _ _ _)
  try simp (disch := omega) only [rup_rup, rup_sort, rupS_def, rup_s, rup_n, fup_fup, fup_s, fup_n]
  rw [hnp, if_pos (by omega)]
  refine R_if_eq (t := 16) dX12_walks_5 rfl (fun c5 => ?_) (fun c5 => ?_)
  · exfalso; omega
  refine R_aload_n dX12_walks_8 rfl (?_ : RR _ _ _ _ 9 _ _ _ _)
  refine R_iload_n dX12_walks_9 rfl (?_ : RR _ _ _ _ 10 _ _ _ _)
  refine R_cVi1 dX12_walks_10 mvX12_isCoach mlX12_317 (by decide) (by decide) (Nat.le_of_ble_eq_true rfl) (Nat.le_of_ble_eq_true rfl) (T_X12_isCoach (by omega)) (?_ : RR _ _ _ _ 13 _ _ _ _)
  try simp (disch := omega) only [rup_rup, rup_sort, rupS_def, rup_s, rup_n, fup_fup, fup_s, fup_n]
  rw [hnc, if_pos (by omega)]
  refine R_if_ne (t := 18) dX12_walks_13 rfl (fun c13 => ?_) (fun c13 => ?_)
  rotate_left
  · exfalso; omega
  refine R_aload_n dX12_walks_18 rfl (?_ : RR _ _ _ _ 19 _ _ _ _)
  refine R_bipush dX12_walks_19 rfl (?_ : RR _ _ _ _ 21 _ _ _ _)
  refine R_iload_n dX12_walks_21 rfl (?_ : RR _ _ _ _ 22 _ _ _ _)
  refine R_iadd dX12_walks_22 (?_ : RR _ _ _ _ 23 _ _ _ _)
  refine R_iald dX12_walks_23 (fun q23 => (?_ : RR _ _ _ _ 24 _ _ _ _))
  try simp (disch := omega) only [rup_rup, rup_sort, rupS_def, rup_s, rup_n, fup_fup, fup_s, fup_n] at q23 ⊢
  rw [hsr] at q23 ⊢
  refine R_istore dX12_walks_24 (Nat.le_of_ble_eq_true rfl) (?_ : RR _ _ _ _ 26 [_, _, _, _, _, _] _ _ _)
  refine R_iload dX12_walks_26 rfl (?_ : RR _ _ _ _ 28 _ _ _ _)
  refine R_if_ge (t := 34) dX12_walks_28 rfl (fun c28 => ?_) (fun c28 => ?_)
  rotate_left
  · exfalso; omega
  refine R_aload_n dX12_walks_34 rfl (?_ : RR _ _ _ _ 35 _ _ _ _)
  refine R_iload dX12_walks_35 rfl (?_ : RR _ _ _ _ 37 _ _ _ _)
  refine R_cSi2 dX12_walks_37 msX12_placeOf mlX12_130 (by decide) (Nat.le_of_ble_eq_true rfl) (Nat.le_of_ble_eq_true rfl) (T_X12_placeOf) (?_ : RR _ _ _ _ 40 _ _ _ _)
  try simp (disch := omega) only [rup_rup, rup_sort, rupS_def, rup_s, rup_n, fup_fup, fup_s, fup_n]
  refine R_if_lt (t := 55) dX12_walks_40 rfl (fun c40 => ?_) (fun c40 => ?_)
  · exfalso; omega
  refine R_aload_n dX12_walks_43 rfl (?_ : RR _ _ _ _ 44 _ _ _ _)
  refine R_iload_n dX12_walks_44 rfl (?_ : RR _ _ _ _ 45 _ _ _ _)
  refine R_cSi2 dX12_walks_45 msX12_placeOf mlX12_130 (by decide) (Nat.le_of_ble_eq_true rfl) (Nat.le_of_ble_eq_true rfl) (T_X12_placeOf) (?_ : RR _ _ _ _ 48 _ _ _ _)
  try simp (disch := omega) only [rup_rup, rup_sort, rupS_def, rup_s, rup_n, fup_fup, fup_s, fup_n]
  refine R_if_lt (t := 55) dX12_walks_48 rfl (fun c48 => ?_) (fun c48 => ?_)
  · exfalso; omega
  refine R_iconst dX12_walks_51 (?_ : RR _ _ _ _ 52 _ _ _ _)
  refine R_goto (t := 56) dX12_walks_52 rfl (?_ : RR _ _ _ _ 56 _ _ _ _)
  refine R_istore dX12_walks_56 (Nat.le_of_ble_eq_true rfl) (?_ : RR _ _ _ _ 58 [_, _, _, _, _, _] _ _ _)
  refine R_iload dX12_walks_58 rfl (?_ : RR _ _ _ _ 60 _ _ _ _)
  refine R_if_eq (t := 82) dX12_walks_60 rfl (fun c60 => ?_) (fun c60 => ?_)
  · exfalso; omega
  refine R_aload_n dX12_walks_63 rfl (?_ : RR _ _ _ _ 64 _ _ _ _)
  refine R_iload dX12_walks_64 rfl (?_ : RR _ _ _ _ 66 _ _ _ _)
  refine R_cSi2 dX12_walks_66 msX12_placeOf mlX12_130 (by decide) (Nat.le_of_ble_eq_true rfl) (Nat.le_of_ble_eq_true rfl) (T_X12_placeOf) (?_ : RR _ _ _ _ 69 _ _ _ _)
  try simp (disch := omega) only [rup_rup, rup_sort, rupS_def, rup_s, rup_n, fup_fup, fup_s, fup_n]
  refine R_aload_n dX12_walks_69 rfl (?_ : RR _ _ _ _ 70 _ _ _ _)
  refine R_iload_n dX12_walks_70 rfl (?_ : RR _ _ _ _ 71 _ _ _ _)
  refine R_cSi2 dX12_walks_71 msX12_placeOf mlX12_130 (by decide) (Nat.le_of_ble_eq_true rfl) (Nat.le_of_ble_eq_true rfl) (T_X12_placeOf) (?_ : RR _ _ _ _ 74 _ _ _ _)
  try simp (disch := omega) only [rup_rup, rup_sort, rupS_def, rup_s, rup_n, fup_fup, fup_s, fup_n]
  refine R_isub dX12_walks_74 (?_ : RR _ _ _ _ 75 _ _ _ _)
  refine R_abs dX12_walks_75 mmX12_364 (by decide) (Nat.le_of_ble_eq_true rfl) (?_ : RR _ _ _ _ 78 _ _ _ _)
  try simp (disch := omega) only [rup_rup, rup_sort, rupS_def, rup_s, rup_n, fup_fup, fup_s, fup_n]
  rw [hok.2.2]
  refine R_iconst dX12_walks_78 (?_ : RR _ _ _ _ 79 _ _ _ _)
  refine R_icmp_eq (t := 85) dX12_walks_79 rfl (fun c79 => ?_) (fun c79 => ?_)
  rotate_left
  · exfalso; omega
  refine R_aload_n dX12_walks_85 rfl (?_ : RR _ _ _ _ 86 _ _ _ _)
  refine R_bipush dX12_walks_86 rfl (?_ : RR _ _ _ _ 88 _ _ _ _)
  refine R_iload_n dX12_walks_88 rfl (?_ : RR _ _ _ _ 89 _ _ _ _)
  refine R_iadd dX12_walks_89 (?_ : RR _ _ _ _ 90 _ _ _ _)
  refine R_iload_n dX12_walks_90 rfl (?_ : RR _ _ _ _ 91 _ _ _ _)
  refine R_iast dX12_walks_91 (?_ : RR _ _ _ _ 92 _ _ _ _)
  try simp (disch := omega) only [rup_rup, rup_sort, rupS_def, rup_s, rup_n, fup_fup, fup_s, fup_n]
  refine R_aload_n dX12_walks_92 rfl (?_ : RR _ _ _ _ 93 _ _ _ _)
  refine R_iconst dX12_walks_93 (?_ : RR _ _ _ _ 94 _ _ _ _)
  refine R_dup2 dX12_walks_94 (fun _ => rfl) (fun _ => rfl) (?_ : RR _ _ _ _ 95 _ _ _ _)
  refine R_iald dX12_walks_95 (fun q95 => (?_ : RR _ _ _ _ 96 _ _ _ _))
  try simp (disch := omega) only [rup_rup, rup_sort, rupS_def, rup_s, rup_n, fup_fup, fup_s, fup_n] at q95 ⊢
  refine R_iconst dX12_walks_96 (?_ : RR _ _ _ _ 97 _ _ _ _)
  refine R_iadd dX12_walks_97 (?_ : RR _ _ _ _ 98 _ _ _ _)
  refine R_iast dX12_walks_98 (?_ : RR _ _ _ _ 99 _ _ _ _)
  try simp (disch := omega) only [rup_rup, rup_sort, rupS_def, rup_s, rup_n, fup_fup, fup_s, fup_n]
  refine R_iload dX12_walks_99 rfl (?_ : RR _ _ _ _ 101 _ _ _ _)
  exact R_ireturn dX12_walks_101 trivial hQ
theorem M_walks {p c : Int} (hB : MBk sem h r H np nc) (hp : r32 p) (hc : r32 c) : RR mX12_walks 2 0 0 0 (pm_ent [pR 147, pR r, pI p, pI c] 6) [] (shp0, rf0, h) (mPo r h (aWa (cxM sem h np nc) (h r) p c)) := by
  obtain ⟨hX, hf, hm, hnp, hnc, hnow, hL, hr, hrb⟩ := hB
  have x4 : nc ≤ 6 := hX.2.2.2.1
  have x12 : np ≤ 12 := hX.2.2.1
  obtain ⟨ord, len, hf'⟩ := id hf
  obtain ⟨f0, f1, fl, fo, fp, fs⟩ := id hf'
  have fl : len ≤ nc := fl
  unfold aWa
  by_cases q : (0 ≤ p ∧ p < np) ∧ 0 ≤ c ∧ c < nc
  · rw [if_neg (fun z => z q)]
    obtain ⟨p', hp'⟩ := Int.eq_ofNat_of_zero_le q.1.1
    obtain ⟨c', hc'⟩ := Int.eq_ofNat_of_zero_le q.2.1
    subst hp'
    subst hc'
    have hsv : mS (h r) p' = -1 ∨ (0 ≤ mS (h r) p' ∧ mS (h r) p' < nc ∧ _) := fs p' (show p' < np by omega)
    by_cases q2 : mS (h r) p' = -1
    · rw [if_pos q2]
      exact mPo_mt (w := (-2, h r)) (T_X12_walks_out (np := np) (nc := nc) (by omega) (by omega) q2 hnc hnp) (fun _ _ _ => rfl) rfl (fun _ _ => rfl) hL
    · rw [if_neg q2]
      have hpa := fOK_pl hf' (c := mS (h r) p') (by omega) (show mS (h r) p' < nc by omega)
      have hpb := fOK_pl hf' (c := (c' : Int)) (by omega) (show (c' : Int) < nc by omega)
      by_cases q3 : mP (h r) (mS (h r) p') ≠ -1 ∧ mP (h r) c' ≠ -1 ∧ iAbs (mP (h r) (mS (h r) p') - mP (h r) c') = 1
      · rw [if_neg (fun z => z q3)]
        exact mPo_mt (w := (mS (h r) p', fup (fup (h r) (14 + p') c') 1 (h r 1 + 1))) (T_X12_walks_yes2 (np := np) (nc := nc) (by omega) (by omega) (by omega) (by omega) (by omega) ⟨by omega, by omega, q3.2.2⟩ hnow hnc hnp) (fun b b1 b2 => by rw [rup_n b2]) (by rw [rup_s]) (fun j hj => by rw [rup_n (by omega)]) (by rw [rup_n (by omega)]; exact hL)
      · rw [if_pos q3]
        exact mPo_mt (w := (-3, h r)) (T_X12_walks_far2 (np := np) (nc := nc) (by omega) (by omega) (by omega) (by omega) (by omega) (fun z => q3 ⟨by omega, by omega, z.2.2⟩) hnc hnp) (fun _ _ _ => rfl) rfl (fun _ _ => rfl) hL
  · rw [if_pos (show ¬ ((0 ≤ p ∧ p < xP (cxM sem h np nc)) ∧ 0 ≤ c ∧ c < xC (cxM sem h np nc)) from q)]
    exact mPo_mt (w := (-1, h r)) (T_X12_walks_no (np := np) (nc := nc) (fun z => q ⟨by omega, by omega⟩) hnc hnp) (fun _ _ _ => rfl) rfl (fun _ _ => rfl) hL
/-! one more that may be undone -/
def shf (r : Int → Int) (n : Nat) : Int → Int := fun j => if 0 ≤ j ∧ j < n then r (j + 26) else r j
theorem shf_0 {r : Int → Int} : shf r 0 = r := by
  funext j
  unfold shf
  rw [if_neg (by omega)]
theorem shf_s {r : Int → Int} {n : Nat} : fup (shf r n) n (r (n + 26)) = shf r (n + 1) := by
  funext j
  unfold fup shf
  by_cases hj : j = n
  · rw [if_pos hj, if_pos (by omega), hj]
  · rw [if_neg hj]
    by_cases h2 : 0 ≤ j ∧ j < n
    · rw [if_pos h2, if_pos (by omega)]
    · rw [if_neg h2, if_neg (by omega)]
theorem shf_a {r : Int → Int} {n : Nat} : shf r n (n + 26) = r (n + 26) := by
  unfold shf
  rw [if_neg (by omega)]
theorem T_X12_adds {z : Int} {U : Nat} (hU : h 147 28 = U) (hU15 : U ≤ 15) (hz : r32 z) : MT mX12_adds 0 [pR 147, pI z] h (some (pI z)) (rup (rup h 147 (fup (h 147) 28 (min 15 (U + 1)))) 163 (if U < 15 then h 163 else shf (h 163) 390)) := by
  refine MT.of (fun Q hQ => (?_ : RR mX12_adds _ _ _ _ [pR 147, pI z, pU] _ _ _))
  by_cases q : U < 15
  · rw [if_pos q, show min (15 : Int) (U + 1) = U + 1 by omega, rup_id (a := 163) (by rw [rup_n (by omega)])] at hQ
    refine R_aload_n dX12_adds_0 rfl (?_ : RR _ _ _ _ 1 _ _ _ _)
    refine R_dup dX12_adds_1 (fun _ => rfl) (?_ : RR _ _ _ _ 2 _ _ _ _)
    refine R_geti (z := 28) dX12_adds_2 flX12_208 cok_12 rfl (by decide) rfl (fun q2 => (?_ : RR _ _ _ _ 5 _ _ _ _))
    try simp (disch := omega) only [rup_rup, rup_sort, rupS_def, rup_s, rup_n, fup_fup, fup_s, fup_n, hU] at q2 ⊢
    refine R_iconst dX12_adds_5 (?_ : RR _ _ _ _ 6 _ _ _ _)
    refine R_iadd dX12_adds_6 (?_ : RR _ _ _ _ 7 _ _ _ _)
    refine R_puti (zk := 28) dX12_adds_7 flX12_208 cok_12 (by decide) (fun q hq => by cases hq; rfl) rfl (?_ : RR _ _ _ _ 10 _ _ _ _)
    try simp (disch := omega) only [rup_rup, rup_sort, rupS_def, rup_s, rup_n, fup_fup, fup_s, fup_n, hU]
    refine R_aload_n dX12_adds_10 rfl (?_ : RR _ _ _ _ 11 _ _ _ _)
    refine R_geti (z := 28) dX12_adds_11 flX12_208 cok_12 rfl (by decide) rfl (fun q11 => (?_ : RR _ _ _ _ 14 _ _ _ _))
    try simp (disch := omega) only [rup_rup, rup_sort, rupS_def, rup_s, rup_n, fup_fup, fup_s, fup_n, hU] at q11 ⊢
    refine R_bipush dX12_adds_14 rfl (?_ : RR _ _ _ _ 16 _ _ _ _)
    refine R_icmp_le (t := 59) dX12_adds_16 rfl (fun c16 => ?_) (fun c16 => ?_)
    rotate_left
    · exfalso; omega
    refine R_iload_n dX12_adds_59 rfl (?_ : RR _ _ _ _ 60 _ _ _ _)
    exact R_ireturn dX12_adds_60 trivial hQ
  · rw [if_neg q, show min (15 : Int) (U + 1) = U + 1 - 1 by omega] at hQ
    have L : ∀ k i : Nat, i + k = 390 → RR mX12_adds 0 0 0 21 [pR 147, pI z, pI i] [] (shp0, rf0, rup (rup h 147 (fup (h 147) 28 (U + 1))) 163 (shf (h 163) i)) Q := by
      intro k
      induction k with
      | zero =>
        intro i hi 
        obtain rfl : i = 390 := by omega
        refine R_iload_n dX12_adds_21 rfl (?_ : RR _ _ _ _ 22 _ _ _ _)
        refine R_sipush dX12_adds_22 rfl (?_ : RR _ _ _ _ 25 _ _ _ _)
        refine R_icmp_ge (t := 49) dX12_adds_25 rfl (fun c25 => ?_) (fun c25 => ?_)
        rotate_left
        · exfalso; omega
        refine R_aload_n dX12_adds_49 rfl (?_ : RR _ _ _ _ 50 _ _ _ _)
        refine R_dup dX12_adds_50 (fun _ => rfl) (?_ : RR _ _ _ _ 51 _ _ _ _)
        refine R_geti (z := 28) dX12_adds_51 flX12_208 cok_12 rfl (by decide) rfl (fun q51 => (?_ : RR _ _ _ _ 54 _ _ _ _))
        try simp (disch := omega) only [rup_rup, rup_sort, rupS_def, rup_s, rup_n, fup_fup, fup_s, fup_n] at q51 ⊢
        refine R_iconst dX12_adds_54 (?_ : RR _ _ _ _ 55 _ _ _ _)
        refine R_isub dX12_adds_55 (?_ : RR _ _ _ _ 56 _ _ _ _)
        refine R_puti (zk := 28) dX12_adds_56 flX12_208 cok_12 (by decide) (fun q hq => by cases hq; rfl) rfl (?_ : RR _ _ _ _ 59 _ _ _ _)
        try simp (disch := omega) only [rup_rup, rup_sort, rupS_def, rup_s, rup_n, fup_fup, fup_s, fup_n]
        refine R_iload_n dX12_adds_59 rfl (?_ : RR _ _ _ _ 60 _ _ _ _)
        exact R_ireturn dX12_adds_60 trivial hQ
      | succ k ih =>
        intro i hi 
        refine R_iload_n dX12_adds_21 rfl (?_ : RR _ _ _ _ 22 _ _ _ _)
        refine R_sipush dX12_adds_22 rfl (?_ : RR _ _ _ _ 25 _ _ _ _)
        refine R_icmp_ge (t := 49) dX12_adds_25 rfl (fun c25 => ?_) (fun c25 => ?_)
        · exfalso; omega
        refine R_aload_n dX12_adds_28 rfl (?_ : RR _ _ _ _ 29 _ _ _ _)
        refine R_getr dX12_adds_29 flX12_60 cok_12 rfl (by decide) (?_ : RR _ _ _ _ 32 _ _ _ _)
        refine R_iload_n dX12_adds_32 rfl (?_ : RR _ _ _ _ 33 _ _ _ _)
        refine R_aload_n dX12_adds_33 rfl (?_ : RR _ _ _ _ 34 _ _ _ _)
        refine R_getr dX12_adds_34 flX12_60 cok_12 rfl (by decide) (?_ : RR _ _ _ _ 37 _ _ _ _)
        refine R_iload_n dX12_adds_37 rfl (?_ : RR _ _ _ _ 38 _ _ _ _)
        refine R_bipush dX12_adds_38 rfl (?_ : RR _ _ _ _ 40 _ _ _ _)
        refine R_iadd dX12_adds_40 (?_ : RR _ _ _ _ 41 _ _ _ _)
        refine R_iald dX12_adds_41 (fun q41 => (?_ : RR _ _ _ _ 42 _ _ _ _))
        try simp (disch := omega) only [rup_rup, rup_sort, rupS_def, rup_s, rup_n, fup_fup, fup_s, fup_n] at q41 ⊢
        rw [shf_a] at q41 ⊢
        refine R_iast dX12_adds_42 (?_ : RR _ _ _ _ 43 _ _ _ _)
        try simp (disch := omega) only [rup_rup, rup_sort, rupS_def, rup_s, rup_n, fup_fup, fup_s, fup_n]
        rw [shf_s]
        refine R_iinc dX12_adds_43 rfl (Nat.le_of_ble_eq_true rfl) (?_ : RR _ _ _ _ 46 [_, _, _] _ _ _)
        refine R_goto (t := 21) dX12_adds_46 rfl (?_ : RR _ _ _ _ 21 _ _ _ _)
        exact ih (i + 1) (by omega)
    refine R_aload_n dX12_adds_0 rfl (?_ : RR _ _ _ _ 1 _ _ _ _)
    refine R_dup dX12_adds_1 (fun _ => rfl) (?_ : RR _ _ _ _ 2 _ _ _ _)
    refine R_geti (z := 28) dX12_adds_2 flX12_208 cok_12 rfl (by decide) rfl (fun q2 => (?_ : RR _ _ _ _ 5 _ _ _ _))
    try simp (disch := omega) only [rup_rup, rup_sort, rupS_def, rup_s, rup_n, fup_fup, fup_s, fup_n, hU] at q2 ⊢
    refine R_iconst dX12_adds_5 (?_ : RR _ _ _ _ 6 _ _ _ _)
    refine R_iadd dX12_adds_6 (?_ : RR _ _ _ _ 7 _ _ _ _)
    refine R_puti (zk := 28) dX12_adds_7 flX12_208 cok_12 (by decide) (fun q hq => by cases hq; rfl) rfl (?_ : RR _ _ _ _ 10 _ _ _ _)
    try simp (disch := omega) only [rup_rup, rup_sort, rupS_def, rup_s, rup_n, fup_fup, fup_s, fup_n, hU]
    refine R_aload_n dX12_adds_10 rfl (?_ : RR _ _ _ _ 11 _ _ _ _)
    refine R_geti (z := 28) dX12_adds_11 flX12_208 cok_12 rfl (by decide) rfl (fun q11 => (?_ : RR _ _ _ _ 14 _ _ _ _))
    try simp (disch := omega) only [rup_rup, rup_sort, rupS_def, rup_s, rup_n, fup_fup, fup_s, fup_n, hU] at q11 ⊢
    refine R_bipush dX12_adds_14 rfl (?_ : RR _ _ _ _ 16 _ _ _ _)
    refine R_icmp_le (t := 59) dX12_adds_16 rfl (fun c16 => ?_) (fun c16 => ?_)
    · exfalso; omega
    refine R_iconst dX12_adds_19 (?_ : RR _ _ _ _ 20 _ _ _ _)
    refine R_istore_n dX12_adds_20 (Nat.le_of_ble_eq_true rfl) (?_ : RR _ _ _ _ 21 [_, _, _] _ _ _)
    have L0 := L 390 0 (by omega)
    rw [shf_0, rup_id (a := 163) (by rw [rup_n (by omega)])] at L0
    exact L0
theorem T_X12_counts {z : Int} {U : Nat} (hU : h 147 28 = U) (hU15 : U ≤ 15) (hz : r32 z) : MT mX12_counts 1 [pR 147, pI z] h (some (pI z)) (if z < 0 then h else rup (rup h 147 (fup (h 147) 28 (min 15 (U + 1)))) 163 (if U < 15 then h 163 else shf (h 163) 390)) := by
  refine MT.of (fun Q hQ => (?_ : RR mX12_counts _ _ _ _ [pR 147, pI z] _ _ _))
  refine R_iload_n dX12_counts_0 rfl (?_ : RR _ _ _ _ 1 _ _ _ _)
  refine R_if_ge (t := 8) dX12_counts_1 rfl (fun c1 => ?_) (fun c1 => ?_)
  · rw [if_neg (by omega)] at hQ
    refine R_aload_n dX12_counts_8 rfl (?_ : RR _ _ _ _ 9 _ _ _ _)
    refine R_iload_n dX12_counts_9 rfl (?_ : RR _ _ _ _ 10 _ _ _ _)
    refine R_cVi1 dX12_counts_10 mvX12_adds mlX12_332 (by decide) (by decide) (Nat.le_of_ble_eq_true rfl) (Nat.le_of_ble_eq_true rfl) (T_X12_adds hU hU15 hz) (?_ : RR _ _ _ _ 13 _ _ _ _)
    exact R_ireturn dX12_counts_13 trivial hQ
  · rw [if_pos (by omega)] at hQ
    refine R_iload_n dX12_counts_4 rfl (?_ : RR _ _ _ _ 5 _ _ _ _)
    refine R_goto (t := 13) dX12_counts_5 rfl (?_ : RR _ _ _ _ 13 _ _ _ _)
    exact R_ireturn dX12_counts_13 trivial hQ
theorem SUn_add {k : Nat} {g : Nat → Int → Int} {X : Cx} {len U x : Nat} {f : Int → Int} (h6 : xC X ≤ 6) (h12 : xP X ≤ 12) (hU : h 44 3 = U) (hU15 : U ≤ 15) (hx : h 44 4 = x) (hx15 : x < 15) (hold : ∀ j : Nat, j < U → ∃ l, Cpl X H h (48 + 5 * ((x + 15 - U + j) % 15)) (fun z => h 163 (26 * j + z)) l ∧ h 163 (26 * j + 1) ≤ 600 * k)
    (hnew : Cpl X H g (48 + 5 * x) f len) (hnow : f 1 ≤ 600 * k) (g1 : g 44 3 = min 15 (U + 1)) (g2 : g 44 4 = ((x + 1) % 15 : Nat)) (g3 : g 147 28 = min 15 (U + 1)) (g4 : ∀ a, 48 ≤ a → a ≤ 122 → ¬ (48 + 5 * x ≤ a ∧ a ≤ 48 + 5 * x + 4) → g a = h a) (g5 : g 163 = if U < 15 then put (26 * U) f (h 163) 26 else shf (put (26 * U) f (h 163) 26) 390) : SUn (k + 1) g X H := by
  refine ⟨min 15 (U + 1), (x + 1) % 15, by rw [g1], by rw [g3], by omega, g2, by omega, fun j hj => ?_⟩
  have key : ∀ i : Nat, i < U → ∀ z : Int, 0 ≤ z → z < 26 → put (26 * U) f (h 163) 26 (26 * i + z) = h 163 (26 * i + z) := fun i hi z z0 z1 => put_out (by omega)
  have keyn : ∀ z : Int, 0 ≤ z → z < 26 → put (26 * U) f (h 163) 26 (26 * U + z) = f z := fun z z0 z1 => put_in z0 (by omega)
  by_cases q : U < 15
  · rw [if_pos q] at g5
    rw [g5]
    by_cases qj : j = U
    · subst qj
      refine ⟨len, ?_, by have := keyn 1 (by omega) (by omega); rw [this]; omega⟩
      rw [show ((x + 1) % 15 + 15 - min 15 (j + 1) + j) % 15 = x by omega]
      exact Cpl_E h6 h12 hnew (fun z z0 z1 => keyn z z0 z1) rfl rfl (fun _ _ => rfl)
    · obtain ⟨l, c1, c2⟩ := hold j (by omega)
      refine ⟨l, ?_, by have := key j (by omega) 1 (by omega) (by omega); rw [this]; omega⟩
      rw [show ((x + 1) % 15 + 15 - min 15 (U + 1) + j) % 15 = (x + 15 - U + j) % 15 by omega]
      exact Cpl_fr (Cpl_E h6 h12 c1 (fun z z0 z1 => key j (by omega) z z0 z1) rfl rfl (fun _ _ => rfl)) (fun a a1 a2 => g4 a (by omega) (by omega) (by omega))
  · have e15 : U = 15 := by omega
    subst e15
    rw [if_neg q] at g5
    have hs : ∀ i : Nat, i < 15 → ∀ z : Int, 0 ≤ z → z < 26 → g 163 (26 * i + z) = put (26 * (15 : Nat)) f (h 163) 26 (26 * ((i + 1 : Nat) : Int) + z) := fun i hi z z0 z1 => by
      rw [g5]
      unfold shf
      rw [if_pos (by omega)]
      congr 1
      omega
    by_cases qj : j = 14
    · subst qj
      have e1 : ∀ z : Int, 0 ≤ z → z < 26 → g 163 (26 * ((14 : Nat) : Int) + z) = f z := fun z z0 z1 => by
        rw [hs 14 (by omega) z z0 z1]
        exact keyn z z0 z1
      refine ⟨len, ?_, by have := e1 1 (by omega) (by omega); rw [this]; omega⟩
      rw [show ((x + 1) % 15 + 15 - min 15 (15 + 1) + 14) % 15 = x by omega]
      exact Cpl_E h6 h12 hnew (fun z z0 z1 => e1 z z0 z1) rfl rfl (fun _ _ => rfl)
    · obtain ⟨l, c1, c2⟩ := hold (j + 1) (by omega)
      have e1 : ∀ z : Int, 0 ≤ z → z < 26 → g 163 (26 * (j : Int) + z) = h 163 (26 * ((j + 1 : Nat) : Int) + z) := fun z z0 z1 => by
        rw [hs j (by omega) z z0 z1]
        exact key (j + 1) (by omega) z z0 z1
      refine ⟨l, ?_, by have := e1 1 (by omega) (by omega); rw [this]; omega⟩
      rw [show ((x + 1) % 15 + 15 - min 15 (15 + 1) + j) % 15 = (x + 15 - 15 + (j + 1)) % 15 by omega]
      exact Cpl_fr (Cpl_E h6 h12 c1 (fun z z0 z1 => e1 z z0 z1) rfl rfl (fun _ _ => rfl)) (fun a a1 a2 => g4 a (by omega) (by omega) (by omega))
end MW
