section SN
variable {k : Nat} {h h3 : Nat → Int → Int} {sem : Sem} {H np nc len N : Nat} {s c y : Int}
theorem T_X11_seen_no (hno : ¬ ((0 ≤ s ∧ s ≤ 12) ∧ (0 ≤ c ∧ c < h 3 0) ∧ (y = 0 ∨ y = 1) ∧ h 138 0 < 12)) (hs : r32 s) (hc : r32 c) (hy : r32 y) : MT mX11_seen 2 [pR 0, pI s, pI c, pI y] h (some (pI (-1))) h := by
  refine MT.of (fun Q hQ => (?_ : RR mX11_seen _ _ _ _ [pR 0, pI s, pI c, pI y, pU] _ _ _))
  have n3 := isNet_3
  by_cases qA : (0 ≤ s ∧ s ≤ 12) ∧ (0 ≤ c ∧ c < h 3 0) ∧ (y = 0 ∨ y = 1)
  · by_cases qy : y = 0
    · refine R_iload_n dX11_seen_0 rfl (?_ : RR _ _ _ _ 1 _ _ _ _)
      refine R_if_lt (t := 34) dX11_seen_1 rfl (fun c1 => ?_) (fun c1 => ?_)
      · exfalso; omega
      refine R_iload_n dX11_seen_4 rfl (?_ : RR _ _ _ _ 5 _ _ _ _)
      refine R_bipush dX11_seen_5 rfl (?_ : RR _ _ _ _ 7 _ _ _ _)
      refine R_icmp_gt (t := 34) dX11_seen_7 rfl (fun c7 => ?_) (fun c7 => ?_)
      · exfalso; omega
      refine R_aload_n dX11_seen_10 rfl (?_ : RR _ _ _ _ 11 _ _ _ _)
      refine R_getr dX11_seen_11 flX11_19 cok_11 rfl (by decide) (?_ : RR _ _ _ _ 14 _ _ _ _)
      refine R_iload_n dX11_seen_14 rfl (?_ : RR _ _ _ _ 15 _ _ _ _)
      refine R_cVi1 dX11_seen_15 mvX0_has mlX11_289 (by decide) (by decide) (Nat.le_of_ble_eq_true rfl) (Nat.le_of_ble_eq_true rfl) (T_X0_has) (?_ : RR _ _ _ _ 18 _ _ _ _)
      rw [if_pos qA.2.1]
      refine R_if_eq (t := 34) dX11_seen_18 rfl (fun c18 => ?_) (fun c18 => ?_)
      · exfalso; omega
      refine R_iload_n dX11_seen_21 rfl (?_ : RR _ _ _ _ 22 _ _ _ _)
      refine R_if_eq (t := 30) dX11_seen_22 rfl (fun c22 => ?_) (fun c22 => ?_)
      rotate_left
      · exfalso; omega
      refine R_iconst dX11_seen_30 (?_ : RR _ _ _ _ 31 _ _ _ _)
      refine R_goto (t := 35) dX11_seen_31 rfl (?_ : RR _ _ _ _ 35 _ _ _ _)
      refine R_istore dX11_seen_35 (Nat.le_of_ble_eq_true rfl) (?_ : RR _ _ _ _ 37 [_, _, _, _, _] _ _ _)
      refine R_iload dX11_seen_37 rfl (?_ : RR _ _ _ _ 39 _ _ _ _)
      refine R_if_eq (t := 54) dX11_seen_39 rfl (fun c39 => ?_) (fun c39 => ?_)
      · exfalso; omega
      refine R_aload_n dX11_seen_42 rfl (?_ : RR _ _ _ _ 43 _ _ _ _)
      refine R_getr dX11_seen_43 flX11_73 cok_11 rfl (by decide) (?_ : RR _ _ _ _ 46 _ _ _ _)
      refine R_geti (z := 0) dX11_seen_46 flX11_369 cok_6 rfl (by decide) rfl (fun q46 => (?_ : RR _ _ _ _ 49 _ _ _ _))
      refine R_bipush dX11_seen_49 rfl (?_ : RR _ _ _ _ 51 _ _ _ _)
      refine R_icmp_lt (t := 56) dX11_seen_51 rfl (fun c51 => ?_) (fun c51 => ?_)
      · exfalso; omega
      refine R_iconst dX11_seen_54 (?_ : RR _ _ _ _ 55 _ _ _ _)
      exact R_ireturn dX11_seen_55 trivial hQ
    · refine R_iload_n dX11_seen_0 rfl (?_ : RR _ _ _ _ 1 _ _ _ _)
      refine R_if_lt (t := 34) dX11_seen_1 rfl (fun c1 => ?_) (fun c1 => ?_)
      · exfalso; omega
      refine R_iload_n dX11_seen_4 rfl (?_ : RR _ _ _ _ 5 _ _ _ _)
      refine R_bipush dX11_seen_5 rfl (?_ : RR _ _ _ _ 7 _ _ _ _)
      refine R_icmp_gt (t := 34) dX11_seen_7 rfl (fun c7 => ?_) (fun c7 => ?_)
      · exfalso; omega
      refine R_aload_n dX11_seen_10 rfl (?_ : RR _ _ _ _ 11 _ _ _ _)
      refine R_getr dX11_seen_11 flX11_19 cok_11 rfl (by decide) (?_ : RR _ _ _ _ 14 _ _ _ _)
      refine R_iload_n dX11_seen_14 rfl (?_ : RR _ _ _ _ 15 _ _ _ _)
      refine R_cVi1 dX11_seen_15 mvX0_has mlX11_289 (by decide) (by decide) (Nat.le_of_ble_eq_true rfl) (Nat.le_of_ble_eq_true rfl) (T_X0_has) (?_ : RR _ _ _ _ 18 _ _ _ _)
      rw [if_pos qA.2.1]
      refine R_if_eq (t := 34) dX11_seen_18 rfl (fun c18 => ?_) (fun c18 => ?_)
      · exfalso; omega
      refine R_iload_n dX11_seen_21 rfl (?_ : RR _ _ _ _ 22 _ _ _ _)
      refine R_if_eq (t := 30) dX11_seen_22 rfl (fun c22 => ?_) (fun c22 => ?_)
      · exfalso; omega
      refine R_iload_n dX11_seen_25 rfl (?_ : RR _ _ _ _ 26 _ _ _ _)
      refine R_iconst dX11_seen_26 (?_ : RR _ _ _ _ 27 _ _ _ _)
      refine R_icmp_ne (t := 34) dX11_seen_27 rfl (fun c27 => ?_) (fun c27 => ?_)
      · exfalso; omega
      refine R_iconst dX11_seen_30 (?_ : RR _ _ _ _ 31 _ _ _ _)
      refine R_goto (t := 35) dX11_seen_31 rfl (?_ : RR _ _ _ _ 35 _ _ _ _)
      refine R_istore dX11_seen_35 (Nat.le_of_ble_eq_true rfl) (?_ : RR _ _ _ _ 37 [_, _, _, _, _] _ _ _)
      refine R_iload dX11_seen_37 rfl (?_ : RR _ _ _ _ 39 _ _ _ _)
      refine R_if_eq (t := 54) dX11_seen_39 rfl (fun c39 => ?_) (fun c39 => ?_)
      · exfalso; omega
      refine R_aload_n dX11_seen_42 rfl (?_ : RR _ _ _ _ 43 _ _ _ _)
      refine R_getr dX11_seen_43 flX11_73 cok_11 rfl (by decide) (?_ : RR _ _ _ _ 46 _ _ _ _)
      refine R_geti (z := 0) dX11_seen_46 flX11_369 cok_6 rfl (by decide) rfl (fun q46 => (?_ : RR _ _ _ _ 49 _ _ _ _))
      refine R_bipush dX11_seen_49 rfl (?_ : RR _ _ _ _ 51 _ _ _ _)
      refine R_icmp_lt (t := 56) dX11_seen_51 rfl (fun c51 => ?_) (fun c51 => ?_)
      · exfalso; omega
      refine R_iconst dX11_seen_54 (?_ : RR _ _ _ _ 55 _ _ _ _)
      exact R_ireturn dX11_seen_55 trivial hQ
  · by_cases qB : 0 ≤ s ∧ s ≤ 12
    · by_cases qC : 0 ≤ c ∧ c < h 3 0
      · refine R_iload_n dX11_seen_0 rfl (?_ : RR _ _ _ _ 1 _ _ _ _)
        refine R_if_lt (t := 34) dX11_seen_1 rfl (fun c1 => ?_) (fun c1 => ?_)
        · exfalso; omega
        refine R_iload_n dX11_seen_4 rfl (?_ : RR _ _ _ _ 5 _ _ _ _)
        refine R_bipush dX11_seen_5 rfl (?_ : RR _ _ _ _ 7 _ _ _ _)
        refine R_icmp_gt (t := 34) dX11_seen_7 rfl (fun c7 => ?_) (fun c7 => ?_)
        · exfalso; omega
        refine R_aload_n dX11_seen_10 rfl (?_ : RR _ _ _ _ 11 _ _ _ _)
        refine R_getr dX11_seen_11 flX11_19 cok_11 rfl (by decide) (?_ : RR _ _ _ _ 14 _ _ _ _)
        refine R_iload_n dX11_seen_14 rfl (?_ : RR _ _ _ _ 15 _ _ _ _)
        refine R_cVi1 dX11_seen_15 mvX0_has mlX11_289 (by decide) (by decide) (Nat.le_of_ble_eq_true rfl) (Nat.le_of_ble_eq_true rfl) (T_X0_has) (?_ : RR _ _ _ _ 18 _ _ _ _)
        rw [if_pos qC]
        refine R_if_eq (t := 34) dX11_seen_18 rfl (fun c18 => ?_) (fun c18 => ?_)
        · exfalso; omega
        refine R_iload_n dX11_seen_21 rfl (?_ : RR _ _ _ _ 22 _ _ _ _)
        refine R_if_eq (t := 30) dX11_seen_22 rfl (fun c22 => ?_) (fun c22 => ?_)
        · exfalso; omega
        refine R_iload_n dX11_seen_25 rfl (?_ : RR _ _ _ _ 26 _ _ _ _)
        refine R_iconst dX11_seen_26 (?_ : RR _ _ _ _ 27 _ _ _ _)
        refine R_icmp_ne (t := 34) dX11_seen_27 rfl (fun c27 => ?_) (fun c27 => ?_)
        rotate_left
        · exfalso; omega
        refine R_iconst dX11_seen_34 (?_ : RR _ _ _ _ 35 _ _ _ _)
        refine R_istore dX11_seen_35 (Nat.le_of_ble_eq_true rfl) (?_ : RR _ _ _ _ 37 [_, _, _, _, _] _ _ _)
        refine R_iload dX11_seen_37 rfl (?_ : RR _ _ _ _ 39 _ _ _ _)
        refine R_if_eq (t := 54) dX11_seen_39 rfl (fun c39 => ?_) (fun c39 => ?_)
        rotate_left
        · exfalso; omega
        refine R_iconst dX11_seen_54 (?_ : RR _ _ _ _ 55 _ _ _ _)
        exact R_ireturn dX11_seen_55 trivial hQ
      · refine R_iload_n dX11_seen_0 rfl (?_ : RR _ _ _ _ 1 _ _ _ _)
        refine R_if_lt (t := 34) dX11_seen_1 rfl (fun c1 => ?_) (fun c1 => ?_)
        · exfalso; omega
        refine R_iload_n dX11_seen_4 rfl (?_ : RR _ _ _ _ 5 _ _ _ _)
        refine R_bipush dX11_seen_5 rfl (?_ : RR _ _ _ _ 7 _ _ _ _)
        refine R_icmp_gt (t := 34) dX11_seen_7 rfl (fun c7 => ?_) (fun c7 => ?_)
        · exfalso; omega
        refine R_aload_n dX11_seen_10 rfl (?_ : RR _ _ _ _ 11 _ _ _ _)
        refine R_getr dX11_seen_11 flX11_19 cok_11 rfl (by decide) (?_ : RR _ _ _ _ 14 _ _ _ _)
        refine R_iload_n dX11_seen_14 rfl (?_ : RR _ _ _ _ 15 _ _ _ _)
        refine R_cVi1 dX11_seen_15 mvX0_has mlX11_289 (by decide) (by decide) (Nat.le_of_ble_eq_true rfl) (Nat.le_of_ble_eq_true rfl) (T_X0_has) (?_ : RR _ _ _ _ 18 _ _ _ _)
        rw [if_neg qC]
        refine R_if_eq (t := 34) dX11_seen_18 rfl (fun c18 => ?_) (fun c18 => ?_)
        rotate_left
        · exfalso; omega
        refine R_iconst dX11_seen_34 (?_ : RR _ _ _ _ 35 _ _ _ _)
        refine R_istore dX11_seen_35 (Nat.le_of_ble_eq_true rfl) (?_ : RR _ _ _ _ 37 [_, _, _, _, _] _ _ _)
        refine R_iload dX11_seen_37 rfl (?_ : RR _ _ _ _ 39 _ _ _ _)
        refine R_if_eq (t := 54) dX11_seen_39 rfl (fun c39 => ?_) (fun c39 => ?_)
        rotate_left
        · exfalso; omega
        refine R_iconst dX11_seen_54 (?_ : RR _ _ _ _ 55 _ _ _ _)
        exact R_ireturn dX11_seen_55 trivial hQ
    · refine R_iload_n dX11_seen_0 rfl (?_ : RR _ _ _ _ 1 _ _ _ _)
      refine R_if_lt (t := 34) dX11_seen_1 rfl (fun c1 => ?_) (fun c1 => ?_)
      · first
        | (exfalso; omega)
        | (refine R_iconst dX11_seen_34 (?_ : RR _ _ _ _ 35 _ _ _ _)
           refine R_istore dX11_seen_35 (Nat.le_of_ble_eq_true rfl) (?_ : RR _ _ _ _ 37 [_, _, _, _, _] _ _ _)
           refine R_iload dX11_seen_37 rfl (?_ : RR _ _ _ _ 39 _ _ _ _)
           refine R_if_eq (t := 54) dX11_seen_39 rfl (fun c39 => ?_) (fun c39 => ?_)
           rotate_left
           · exfalso; omega
           refine R_iconst dX11_seen_54 (?_ : RR _ _ _ _ 55 _ _ _ _)
           exact R_ireturn dX11_seen_55 trivial hQ)
      · first
        | (exfalso; omega)
        | (refine R_iload_n dX11_seen_4 rfl (?_ : RR _ _ _ _ 5 _ _ _ _)
           refine R_bipush dX11_seen_5 rfl (?_ : RR _ _ _ _ 7 _ _ _ _)
           refine R_icmp_gt (t := 34) dX11_seen_7 rfl (fun c7 => ?_) (fun c7 => ?_)
           · first
             | (exfalso; omega)
             | (refine R_iconst dX11_seen_34 (?_ : RR _ _ _ _ 35 _ _ _ _)
                refine R_istore dX11_seen_35 (Nat.le_of_ble_eq_true rfl) (?_ : RR _ _ _ _ 37 [_, _, _, _, _] _ _ _)
                refine R_iload dX11_seen_37 rfl (?_ : RR _ _ _ _ 39 _ _ _ _)
                refine R_if_eq (t := 54) dX11_seen_39 rfl (fun c39 => ?_) (fun c39 => ?_)
                rotate_left
                · exfalso; omega
                refine R_iconst dX11_seen_54 (?_ : RR _ _ _ _ 55 _ _ _ _)
                exact R_ireturn dX11_seen_55 trivial hQ)
           · first
             | (exfalso; omega)
             | (exfalso; omega))
theorem T_X11_seen (h1 : 0 ≤ s ∧ s ≤ 12) (h2 : 0 ≤ c ∧ c < h 3 0) (h29 : h 3 0 ≤ 9) (h3' : y = 0 ∨ y = 1) (hN : h 138 0 = N) (hN12 : N < 12) : MT mX11_seen 2 [pR 0, pI s, pI c, pI y] h (some (pI (N + 1))) (rup (rup h 138 (fup (fup (h 138) 1 (max (h 138 1) s)) 0 (N + 1))) 139 (fup (h 139) s (if y = 0 then w32 (iAnd (h 139 s) (iXor (iShl 1 c) (-1))) else w32 (iAnd (h 139 s) (iShl 1 c))))) := by
  refine MT.of (fun Q hQ => (?_ : RR mX11_seen _ _ _ _ [pR 0, pI s, pI c, pI y, pU] _ _ _))
  have n3 := isNet_3
  rcases h3' with rfl | rfl
  · refine R_iload_n dX11_seen_0 rfl (?_ : RR _ _ _ _ 1 _ _ _ _)
    refine R_if_lt (t := 34) dX11_seen_1 rfl (fun c1 => ?_) (fun c1 => ?_)
    · exfalso; omega
    refine R_iload_n dX11_seen_4 rfl (?_ : RR _ _ _ _ 5 _ _ _ _)
    refine R_bipush dX11_seen_5 rfl (?_ : RR _ _ _ _ 7 _ _ _ _)
    refine R_icmp_gt (t := 34) dX11_seen_7 rfl (fun c7 => ?_) (fun c7 => ?_)
    · exfalso; omega
    refine R_aload_n dX11_seen_10 rfl (?_ : RR _ _ _ _ 11 _ _ _ _)
    refine R_getr dX11_seen_11 flX11_19 cok_11 rfl (by decide) (?_ : RR _ _ _ _ 14 _ _ _ _)
    refine R_iload_n dX11_seen_14 rfl (?_ : RR _ _ _ _ 15 _ _ _ _)
    refine R_cVi1 dX11_seen_15 mvX0_has mlX11_289 (by decide) (by decide) (Nat.le_of_ble_eq_true rfl) (Nat.le_of_ble_eq_true rfl) (T_X0_has) (?_ : RR _ _ _ _ 18 _ _ _ _)
    rw [if_pos h2]
    refine R_if_eq (t := 34) dX11_seen_18 rfl (fun c18 => ?_) (fun c18 => ?_)
    · exfalso; omega
    refine R_iload_n dX11_seen_21 rfl (?_ : RR _ _ _ _ 22 _ _ _ _)
    refine R_if_eq (t := 30) dX11_seen_22 rfl (fun c22 => ?_) (fun c22 => ?_)
    rotate_left
    · exfalso; omega
    refine R_iconst dX11_seen_30 (?_ : RR _ _ _ _ 31 _ _ _ _)
    refine R_goto (t := 35) dX11_seen_31 rfl (?_ : RR _ _ _ _ 35 _ _ _ _)
    refine R_istore dX11_seen_35 (Nat.le_of_ble_eq_true rfl) (?_ : RR _ _ _ _ 37 [_, _, _, _, _] _ _ _)
    refine R_iload dX11_seen_37 rfl (?_ : RR _ _ _ _ 39 _ _ _ _)
    refine R_if_eq (t := 54) dX11_seen_39 rfl (fun c39 => ?_) (fun c39 => ?_)
    · exfalso; omega
    refine R_aload_n dX11_seen_42 rfl (?_ : RR _ _ _ _ 43 _ _ _ _)
    refine R_getr dX11_seen_43 flX11_73 cok_11 rfl (by decide) (?_ : RR _ _ _ _ 46 _ _ _ _)
    refine R_geti (z := 0) dX11_seen_46 flX11_369 cok_6 rfl (by decide) rfl (fun q46 => (?_ : RR _ _ _ _ 49 _ _ _ _))
    refine R_bipush dX11_seen_49 rfl (?_ : RR _ _ _ _ 51 _ _ _ _)
    refine R_icmp_lt (t := 56) dX11_seen_51 rfl (fun c51 => ?_) (fun c51 => ?_)
    rotate_left
    · exfalso; omega
    refine R_aload_n dX11_seen_56 rfl (?_ : RR _ _ _ _ 57 _ _ _ _)
    refine R_getr dX11_seen_57 flX11_73 cok_11 rfl (by decide) (?_ : RR _ _ _ _ 60 _ _ _ _)
    refine R_iload_n dX11_seen_60 rfl (?_ : RR _ _ _ _ 61 _ _ _ _)
    refine R_iload_n dX11_seen_61 rfl (?_ : RR _ _ _ _ 62 _ _ _ _)
    refine R_iload_n dX11_seen_62 rfl (?_ : RR _ _ _ _ 63 _ _ _ _)
    refine R_iconst dX11_seen_63 (?_ : RR _ _ _ _ 64 _ _ _ _)
    refine R_icmp_ne (t := 71) dX11_seen_64 rfl (fun c64 => ?_) (fun c64 => ?_)
    rotate_left
    · exfalso; omega
    refine R_iconst dX11_seen_71 (?_ : RR _ _ _ _ 72 _ _ _ _)
    refine R_cVv3 dX11_seen_72 mvX6_add mlX11_370 (by decide) (by decide) (Nat.le_of_ble_eq_true rfl) (Nat.le_of_ble_eq_true rfl) (T_X6_add h1 (by omega) (by omega) hN hN12) (?_ : RR _ _ _ _ 75 _ _ _ _)
    refine R_aload_n dX11_seen_75 rfl (?_ : RR _ _ _ _ 76 _ _ _ _)
    refine R_getr dX11_seen_76 flX11_73 cok_11 rfl (by decide) (?_ : RR _ _ _ _ 79 _ _ _ _)
    refine R_geti (z := 0) dX11_seen_79 flX11_369 cok_6 rfl (by decide) rfl (fun q79 => (?_ : RR _ _ _ _ 82 _ _ _ _))
    rw [rup_n (by omega), rup_s, fup_s] at q79 ⊢
    exact R_ireturn dX11_seen_82 trivial hQ
  · refine R_iload_n dX11_seen_0 rfl (?_ : RR _ _ _ _ 1 _ _ _ _)
    refine R_if_lt (t := 34) dX11_seen_1 rfl (fun c1 => ?_) (fun c1 => ?_)
    · exfalso; omega
    refine R_iload_n dX11_seen_4 rfl (?_ : RR _ _ _ _ 5 _ _ _ _)
    refine R_bipush dX11_seen_5 rfl (?_ : RR _ _ _ _ 7 _ _ _ _)
    refine R_icmp_gt (t := 34) dX11_seen_7 rfl (fun c7 => ?_) (fun c7 => ?_)
    · exfalso; omega
    refine R_aload_n dX11_seen_10 rfl (?_ : RR _ _ _ _ 11 _ _ _ _)
    refine R_getr dX11_seen_11 flX11_19 cok_11 rfl (by decide) (?_ : RR _ _ _ _ 14 _ _ _ _)
    refine R_iload_n dX11_seen_14 rfl (?_ : RR _ _ _ _ 15 _ _ _ _)
    refine R_cVi1 dX11_seen_15 mvX0_has mlX11_289 (by decide) (by decide) (Nat.le_of_ble_eq_true rfl) (Nat.le_of_ble_eq_true rfl) (T_X0_has) (?_ : RR _ _ _ _ 18 _ _ _ _)
    rw [if_pos h2]
    refine R_if_eq (t := 34) dX11_seen_18 rfl (fun c18 => ?_) (fun c18 => ?_)
    · exfalso; omega
    refine R_iload_n dX11_seen_21 rfl (?_ : RR _ _ _ _ 22 _ _ _ _)
    refine R_if_eq (t := 30) dX11_seen_22 rfl (fun c22 => ?_) (fun c22 => ?_)
    · exfalso; omega
    refine R_iload_n dX11_seen_25 rfl (?_ : RR _ _ _ _ 26 _ _ _ _)
    refine R_iconst dX11_seen_26 (?_ : RR _ _ _ _ 27 _ _ _ _)
    refine R_icmp_ne (t := 34) dX11_seen_27 rfl (fun c27 => ?_) (fun c27 => ?_)
    · exfalso; omega
    refine R_iconst dX11_seen_30 (?_ : RR _ _ _ _ 31 _ _ _ _)
    refine R_goto (t := 35) dX11_seen_31 rfl (?_ : RR _ _ _ _ 35 _ _ _ _)
    refine R_istore dX11_seen_35 (Nat.le_of_ble_eq_true rfl) (?_ : RR _ _ _ _ 37 [_, _, _, _, _] _ _ _)
    refine R_iload dX11_seen_37 rfl (?_ : RR _ _ _ _ 39 _ _ _ _)
    refine R_if_eq (t := 54) dX11_seen_39 rfl (fun c39 => ?_) (fun c39 => ?_)
    · exfalso; omega
    refine R_aload_n dX11_seen_42 rfl (?_ : RR _ _ _ _ 43 _ _ _ _)
    refine R_getr dX11_seen_43 flX11_73 cok_11 rfl (by decide) (?_ : RR _ _ _ _ 46 _ _ _ _)
    refine R_geti (z := 0) dX11_seen_46 flX11_369 cok_6 rfl (by decide) rfl (fun q46 => (?_ : RR _ _ _ _ 49 _ _ _ _))
    refine R_bipush dX11_seen_49 rfl (?_ : RR _ _ _ _ 51 _ _ _ _)
    refine R_icmp_lt (t := 56) dX11_seen_51 rfl (fun c51 => ?_) (fun c51 => ?_)
    rotate_left
    · exfalso; omega
    refine R_aload_n dX11_seen_56 rfl (?_ : RR _ _ _ _ 57 _ _ _ _)
    refine R_getr dX11_seen_57 flX11_73 cok_11 rfl (by decide) (?_ : RR _ _ _ _ 60 _ _ _ _)
    refine R_iload_n dX11_seen_60 rfl (?_ : RR _ _ _ _ 61 _ _ _ _)
    refine R_iload_n dX11_seen_61 rfl (?_ : RR _ _ _ _ 62 _ _ _ _)
    refine R_iload_n dX11_seen_62 rfl (?_ : RR _ _ _ _ 63 _ _ _ _)
    refine R_iconst dX11_seen_63 (?_ : RR _ _ _ _ 64 _ _ _ _)
    refine R_icmp_ne (t := 71) dX11_seen_64 rfl (fun c64 => ?_) (fun c64 => ?_)
    · exfalso; omega
    refine R_iconst dX11_seen_67 (?_ : RR _ _ _ _ 68 _ _ _ _)
    refine R_goto (t := 72) dX11_seen_68 rfl (?_ : RR _ _ _ _ 72 _ _ _ _)
    refine R_cVv3 dX11_seen_72 mvX6_add mlX11_370 (by decide) (by decide) (Nat.le_of_ble_eq_true rfl) (Nat.le_of_ble_eq_true rfl) (T_X6_add h1 (by omega) (by omega) hN hN12) (?_ : RR _ _ _ _ 75 _ _ _ _)
    refine R_aload_n dX11_seen_75 rfl (?_ : RR _ _ _ _ 76 _ _ _ _)
    refine R_getr dX11_seen_76 flX11_73 cok_11 rfl (by decide) (?_ : RR _ _ _ _ 79 _ _ _ _)
    refine R_geti (z := 0) dX11_seen_79 flX11_369 cok_6 rfl (by decide) rfl (fun q79 => (?_ : RR _ _ _ _ 82 _ _ _ _))
    rw [rup_n (by omega), rup_s, fup_s] at q79 ⊢
    exact R_ireturn dX11_seen_82 trivial hQ
theorem T_X12_seen_no (hH : 1 ≤ h 147 3 ∧ h 147 3 ≤ 9) (hno : ¬ ((0 ≤ s ∧ s ≤ 12) ∧ (0 ≤ c ∧ c ≤ h 147 3 - 1) ∧ (0 ≤ y ∧ y ≤ 1) ∧ h 147 40 ≠ 12)) (hs : r32 s) (hc : r32 c) (hy : r32 y) : MT mX12_seen 2 [pR 147, pI s, pI c, pI y] h (some (pI (-1))) (rup h 147 (fup (h 147) 0 0)) := by
  refine MT.of (fun Q hQ => (?_ : RR mX12_seen _ _ _ _ [pR 147, pI s, pI c, pI y] _ _ _))
  by_cases qA : 0 ≤ s ∧ s ≤ 12
  · by_cases qB : 0 ≤ c ∧ c ≤ h 147 3 - 1
    · by_cases qC : 0 ≤ y ∧ y ≤ 1
      · refine R_aload_n dX12_seen_0 rfl (?_ : RR _ _ _ _ 1 _ _ _ _)
        refine R_iconst dX12_seen_1 (?_ : RR _ _ _ _ 2 _ _ _ _)
        refine R_puti (zk := 0) dX12_seen_2 flX12_106 cok_12 (by decide) (fun q hq => by cases hq; rfl) rfl (?_ : RR _ _ _ _ 5 _ _ _ _)
        try simp (disch := omega) only [rup_rup, rup_sort, rupS_def, rup_s, rup_n, fup_fup, fup_s, fup_n]
        refine R_iload_n dX12_seen_5 rfl (?_ : RR _ _ _ _ 6 _ _ _ _)
        refine R_i2l dX12_seen_6 (by first | assumption | omega) (?_ : RR _ _ _ _ 7 _ _ _ _)
        refine R_lconst (z := 0) dX12_seen_7 rfl (?_ : RR _ _ _ _ 8 _ _ _ _)
        refine R_ldc2 (z := 12) dX12_seen_8 klX12_430 (?_ : RR _ _ _ _ 11 _ _ _ _)
        refine R_cSi3 dX12_seen_11 msX12_in mlX12_120 (by decide) (Nat.le_of_ble_eq_true rfl) (Nat.le_of_ble_eq_true rfl) (T_X12_in) (?_ : RR _ _ _ _ 14 _ _ _ _)
        try simp (disch := omega) only [rup_rup, rup_sort, rupS_def, rup_s, rup_n, fup_fup, fup_s, fup_n]
        rw [if_pos qA]
        refine R_if_eq (t := 44) dX12_seen_14 rfl (fun c14 => ?_) (fun c14 => ?_)
        · exfalso; omega
        refine R_aload_n dX12_seen_17 rfl (?_ : RR _ _ _ _ 18 _ _ _ _)
        refine R_iload_n dX12_seen_18 rfl (?_ : RR _ _ _ _ 19 _ _ _ _)
        refine R_cVi1 dX12_seen_19 mvX12_isHalt mlX12_306 (by decide) (by decide) (Nat.le_of_ble_eq_true rfl) (Nat.le_of_ble_eq_true rfl) (T_X12_isHalt (by simp (disch := omega) only [rup_s, fup_n]; exact hH)) (?_ : RR _ _ _ _ 22 _ _ _ _)
        try simp (disch := omega) only [rup_rup, rup_sort, rupS_def, rup_s, rup_n, fup_fup, fup_s, fup_n]
        rw [if_pos qB]
        refine R_if_eq (t := 44) dX12_seen_22 rfl (fun c22 => ?_) (fun c22 => ?_)
        · exfalso; omega
        refine R_iload_n dX12_seen_25 rfl (?_ : RR _ _ _ _ 26 _ _ _ _)
        refine R_i2l dX12_seen_26 (by first | assumption | omega) (?_ : RR _ _ _ _ 27 _ _ _ _)
        refine R_lconst (z := 0) dX12_seen_27 rfl (?_ : RR _ _ _ _ 28 _ _ _ _)
        refine R_lconst (z := 1) dX12_seen_28 rfl (?_ : RR _ _ _ _ 29 _ _ _ _)
        refine R_cSi3 dX12_seen_29 msX12_in mlX12_120 (by decide) (Nat.le_of_ble_eq_true rfl) (Nat.le_of_ble_eq_true rfl) (T_X12_in) (?_ : RR _ _ _ _ 32 _ _ _ _)
        try simp (disch := omega) only [rup_rup, rup_sort, rupS_def, rup_s, rup_n, fup_fup, fup_s, fup_n]
        rw [if_pos qC]
        refine R_if_eq (t := 44) dX12_seen_32 rfl (fun c32 => ?_) (fun c32 => ?_)
        · exfalso; omega
        refine R_aload_n dX12_seen_35 rfl (?_ : RR _ _ _ _ 36 _ _ _ _)
        refine R_geti (z := 40) dX12_seen_36 flX12_205 cok_12 rfl (by decide) rfl (fun q36 => (?_ : RR _ _ _ _ 39 _ _ _ _))
        try simp (disch := omega) only [rup_rup, rup_sort, rupS_def, rup_s, rup_n, fup_fup, fup_s, fup_n] at q36 ⊢
        refine R_bipush dX12_seen_39 rfl (?_ : RR _ _ _ _ 41 _ _ _ _)
        refine R_icmp_ne (t := 46) dX12_seen_41 rfl (fun c41 => ?_) (fun c41 => ?_)
        · exfalso; omega
        refine R_iconst dX12_seen_44 (?_ : RR _ _ _ _ 45 _ _ _ _)
        exact R_ireturn dX12_seen_45 trivial hQ
      · refine R_aload_n dX12_seen_0 rfl (?_ : RR _ _ _ _ 1 _ _ _ _)
        refine R_iconst dX12_seen_1 (?_ : RR _ _ _ _ 2 _ _ _ _)
        refine R_puti (zk := 0) dX12_seen_2 flX12_106 cok_12 (by decide) (fun q hq => by cases hq; rfl) rfl (?_ : RR _ _ _ _ 5 _ _ _ _)
        try simp (disch := omega) only [rup_rup, rup_sort, rupS_def, rup_s, rup_n, fup_fup, fup_s, fup_n]
        refine R_iload_n dX12_seen_5 rfl (?_ : RR _ _ _ _ 6 _ _ _ _)
        refine R_i2l dX12_seen_6 (by first | assumption | omega) (?_ : RR _ _ _ _ 7 _ _ _ _)
        refine R_lconst (z := 0) dX12_seen_7 rfl (?_ : RR _ _ _ _ 8 _ _ _ _)
        refine R_ldc2 (z := 12) dX12_seen_8 klX12_430 (?_ : RR _ _ _ _ 11 _ _ _ _)
        refine R_cSi3 dX12_seen_11 msX12_in mlX12_120 (by decide) (Nat.le_of_ble_eq_true rfl) (Nat.le_of_ble_eq_true rfl) (T_X12_in) (?_ : RR _ _ _ _ 14 _ _ _ _)
        try simp (disch := omega) only [rup_rup, rup_sort, rupS_def, rup_s, rup_n, fup_fup, fup_s, fup_n]
        rw [if_pos qA]
        refine R_if_eq (t := 44) dX12_seen_14 rfl (fun c14 => ?_) (fun c14 => ?_)
        · exfalso; omega
        refine R_aload_n dX12_seen_17 rfl (?_ : RR _ _ _ _ 18 _ _ _ _)
        refine R_iload_n dX12_seen_18 rfl (?_ : RR _ _ _ _ 19 _ _ _ _)
        refine R_cVi1 dX12_seen_19 mvX12_isHalt mlX12_306 (by decide) (by decide) (Nat.le_of_ble_eq_true rfl) (Nat.le_of_ble_eq_true rfl) (T_X12_isHalt (by simp (disch := omega) only [rup_s, fup_n]; exact hH)) (?_ : RR _ _ _ _ 22 _ _ _ _)
        try simp (disch := omega) only [rup_rup, rup_sort, rupS_def, rup_s, rup_n, fup_fup, fup_s, fup_n]
        rw [if_pos qB]
        refine R_if_eq (t := 44) dX12_seen_22 rfl (fun c22 => ?_) (fun c22 => ?_)
        · exfalso; omega
        refine R_iload_n dX12_seen_25 rfl (?_ : RR _ _ _ _ 26 _ _ _ _)
        refine R_i2l dX12_seen_26 (by first | assumption | omega) (?_ : RR _ _ _ _ 27 _ _ _ _)
        refine R_lconst (z := 0) dX12_seen_27 rfl (?_ : RR _ _ _ _ 28 _ _ _ _)
        refine R_lconst (z := 1) dX12_seen_28 rfl (?_ : RR _ _ _ _ 29 _ _ _ _)
        refine R_cSi3 dX12_seen_29 msX12_in mlX12_120 (by decide) (Nat.le_of_ble_eq_true rfl) (Nat.le_of_ble_eq_true rfl) (T_X12_in) (?_ : RR _ _ _ _ 32 _ _ _ _)
        try simp (disch := omega) only [rup_rup, rup_sort, rupS_def, rup_s, rup_n, fup_fup, fup_s, fup_n]
        rw [if_neg qC]
        refine R_if_eq (t := 44) dX12_seen_32 rfl (fun c32 => ?_) (fun c32 => ?_)
        rotate_left
        · exfalso; omega
        refine R_iconst dX12_seen_44 (?_ : RR _ _ _ _ 45 _ _ _ _)
        exact R_ireturn dX12_seen_45 trivial hQ
    · refine R_aload_n dX12_seen_0 rfl (?_ : RR _ _ _ _ 1 _ _ _ _)
      refine R_iconst dX12_seen_1 (?_ : RR _ _ _ _ 2 _ _ _ _)
      refine R_puti (zk := 0) dX12_seen_2 flX12_106 cok_12 (by decide) (fun q hq => by cases hq; rfl) rfl (?_ : RR _ _ _ _ 5 _ _ _ _)
      try simp (disch := omega) only [rup_rup, rup_sort, rupS_def, rup_s, rup_n, fup_fup, fup_s, fup_n]
      refine R_iload_n dX12_seen_5 rfl (?_ : RR _ _ _ _ 6 _ _ _ _)
      refine R_i2l dX12_seen_6 (by first | assumption | omega) (?_ : RR _ _ _ _ 7 _ _ _ _)
      refine R_lconst (z := 0) dX12_seen_7 rfl (?_ : RR _ _ _ _ 8 _ _ _ _)
      refine R_ldc2 (z := 12) dX12_seen_8 klX12_430 (?_ : RR _ _ _ _ 11 _ _ _ _)
      refine R_cSi3 dX12_seen_11 msX12_in mlX12_120 (by decide) (Nat.le_of_ble_eq_true rfl) (Nat.le_of_ble_eq_true rfl) (T_X12_in) (?_ : RR _ _ _ _ 14 _ _ _ _)
      try simp (disch := omega) only [rup_rup, rup_sort, rupS_def, rup_s, rup_n, fup_fup, fup_s, fup_n]
      rw [if_pos qA]
      refine R_if_eq (t := 44) dX12_seen_14 rfl (fun c14 => ?_) (fun c14 => ?_)
      · exfalso; omega
      refine R_aload_n dX12_seen_17 rfl (?_ : RR _ _ _ _ 18 _ _ _ _)
      refine R_iload_n dX12_seen_18 rfl (?_ : RR _ _ _ _ 19 _ _ _ _)
      refine R_cVi1 dX12_seen_19 mvX12_isHalt mlX12_306 (by decide) (by decide) (Nat.le_of_ble_eq_true rfl) (Nat.le_of_ble_eq_true rfl) (T_X12_isHalt (by simp (disch := omega) only [rup_s, fup_n]; exact hH)) (?_ : RR _ _ _ _ 22 _ _ _ _)
      try simp (disch := omega) only [rup_rup, rup_sort, rupS_def, rup_s, rup_n, fup_fup, fup_s, fup_n]
      rw [if_neg qB]
      refine R_if_eq (t := 44) dX12_seen_22 rfl (fun c22 => ?_) (fun c22 => ?_)
      rotate_left
      · exfalso; omega
      refine R_iconst dX12_seen_44 (?_ : RR _ _ _ _ 45 _ _ _ _)
      exact R_ireturn dX12_seen_45 trivial hQ
  · refine R_aload_n dX12_seen_0 rfl (?_ : RR _ _ _ _ 1 _ _ _ _)
    refine R_iconst dX12_seen_1 (?_ : RR _ _ _ _ 2 _ _ _ _)
    refine R_puti (zk := 0) dX12_seen_2 flX12_106 cok_12 (by decide) (fun q hq => by cases hq; rfl) rfl (?_ : RR _ _ _ _ 5 _ _ _ _)
    try simp (disch := omega) only [rup_rup, rup_sort, rupS_def, rup_s, rup_n, fup_fup, fup_s, fup_n]
    refine R_iload_n dX12_seen_5 rfl (?_ : RR _ _ _ _ 6 _ _ _ _)
    refine R_i2l dX12_seen_6 (by first | assumption | omega) (?_ : RR _ _ _ _ 7 _ _ _ _)
    refine R_lconst (z := 0) dX12_seen_7 rfl (?_ : RR _ _ _ _ 8 _ _ _ _)
    refine R_ldc2 (z := 12) dX12_seen_8 klX12_430 (?_ : RR _ _ _ _ 11 _ _ _ _)
    refine R_cSi3 dX12_seen_11 msX12_in mlX12_120 (by decide) (Nat.le_of_ble_eq_true rfl) (Nat.le_of_ble_eq_true rfl) (T_X12_in) (?_ : RR _ _ _ _ 14 _ _ _ _)
    try simp (disch := omega) only [rup_rup, rup_sort, rupS_def, rup_s, rup_n, fup_fup, fup_s, fup_n]
    rw [if_neg qA]
    refine R_if_eq (t := 44) dX12_seen_14 rfl (fun c14 => ?_) (fun c14 => ?_)
    rotate_left
    · exfalso; omega
    refine R_iconst dX12_seen_44 (?_ : RR _ _ _ _ 45 _ _ _ _)
    exact R_ireturn dX12_seen_45 trivial hQ
theorem T_X12_seen (hH : 1 ≤ h 147 3 ∧ h 147 3 ≤ 9) (qA : 0 ≤ s ∧ s ≤ 12) (qB : 0 ≤ c ∧ c ≤ h 147 3 - 1) (qC : 0 ≤ y ∧ y ≤ 1) (hN : h 147 40 = N) (hN12 : N < 12) : MT mX12_seen 2 [pR 147, pI s, pI c, pI y] h (some (pI (N + 1))) (rup (rup (rup (rup h 147 (fup (fup (h 147) 0 0) 40 (N + 1))) 170 (fup (h 170) N s)) 171 (fup (h 171) N c)) 172 (fup (h 172) N y)) := by
  refine MT.of (fun Q hQ => (?_ : RR mX12_seen _ _ _ _ [pR 147, pI s, pI c, pI y] _ _ _))
  refine R_aload_n dX12_seen_0 rfl (?_ : RR _ _ _ _ 1 _ _ _ _)
  refine R_iconst dX12_seen_1 (?_ : RR _ _ _ _ 2 _ _ _ _)
  refine R_puti (zk := 0) dX12_seen_2 flX12_106 cok_12 (by decide) (fun q hq => by cases hq; rfl) rfl (?_ : RR _ _ _ _ 5 _ _ _ _)
  try simp (disch := omega) only [rup_rup, rup_sort, rupS_def, rup_s, rup_n, fup_fup, fup_s, fup_n, hN]
  refine R_iload_n dX12_seen_5 rfl (?_ : RR _ _ _ _ 6 _ _ _ _)
  refine R_i2l dX12_seen_6 (by first | assumption | omega) (?_ : RR _ _ _ _ 7 _ _ _ _)
  refine R_lconst (z := 0) dX12_seen_7 rfl (?_ : RR _ _ _ _ 8 _ _ _ _)
  refine R_ldc2 (z := 12) dX12_seen_8 klX12_430 (?_ : RR _ _ _ _ 11 _ _ _ _)
  refine R_cSi3 dX12_seen_11 msX12_in mlX12_120 (by decide) (Nat.le_of_ble_eq_true rfl) (Nat.le_of_ble_eq_true rfl) (T_X12_in) (?_ : RR _ _ _ _ 14 _ _ _ _)
  try simp (disch := omega) only [rup_rup, rup_sort, rupS_def, rup_s, rup_n, fup_fup, fup_s, fup_n, hN]
  rw [if_pos qA]
  refine R_if_eq (t := 44) dX12_seen_14 rfl (fun c14 => ?_) (fun c14 => ?_)
  · exfalso; omega
  refine R_aload_n dX12_seen_17 rfl (?_ : RR _ _ _ _ 18 _ _ _ _)
  refine R_iload_n dX12_seen_18 rfl (?_ : RR _ _ _ _ 19 _ _ _ _)
  refine R_cVi1 dX12_seen_19 mvX12_isHalt mlX12_306 (by decide) (by decide) (Nat.le_of_ble_eq_true rfl) (Nat.le_of_ble_eq_true rfl) (T_X12_isHalt (by simp (disch := omega) only [rup_s, fup_n]; exact hH)) (?_ : RR _ _ _ _ 22 _ _ _ _)
  try simp (disch := omega) only [rup_rup, rup_sort, rupS_def, rup_s, rup_n, fup_fup, fup_s, fup_n, hN]
  rw [if_pos qB]
  refine R_if_eq (t := 44) dX12_seen_22 rfl (fun c22 => ?_) (fun c22 => ?_)
  · exfalso; omega
  refine R_iload_n dX12_seen_25 rfl (?_ : RR _ _ _ _ 26 _ _ _ _)
  refine R_i2l dX12_seen_26 (by first | assumption | omega) (?_ : RR _ _ _ _ 27 _ _ _ _)
  refine R_lconst (z := 0) dX12_seen_27 rfl (?_ : RR _ _ _ _ 28 _ _ _ _)
  refine R_lconst (z := 1) dX12_seen_28 rfl (?_ : RR _ _ _ _ 29 _ _ _ _)
  refine R_cSi3 dX12_seen_29 msX12_in mlX12_120 (by decide) (Nat.le_of_ble_eq_true rfl) (Nat.le_of_ble_eq_true rfl) (T_X12_in) (?_ : RR _ _ _ _ 32 _ _ _ _)
  try simp (disch := omega) only [rup_rup, rup_sort, rupS_def, rup_s, rup_n, fup_fup, fup_s, fup_n, hN]
  rw [if_pos qC]
  refine R_if_eq (t := 44) dX12_seen_32 rfl (fun c32 => ?_) (fun c32 => ?_)
  · exfalso; omega
  refine R_aload_n dX12_seen_35 rfl (?_ : RR _ _ _ _ 36 _ _ _ _)
  refine R_geti (z := 40) dX12_seen_36 flX12_205 cok_12 rfl (by decide) rfl (fun q36 => (?_ : RR _ _ _ _ 39 _ _ _ _))
  try simp (disch := omega) only [rup_rup, rup_sort, rupS_def, rup_s, rup_n, fup_fup, fup_s, fup_n, hN] at q36 ⊢
  refine R_bipush dX12_seen_39 rfl (?_ : RR _ _ _ _ 41 _ _ _ _)
  refine R_icmp_ne (t := 46) dX12_seen_41 rfl (fun c41 => ?_) (fun c41 => ?_)
  rotate_left
  · exfalso; omega
  refine R_aload_n dX12_seen_46 rfl (?_ : RR _ _ _ _ 47 _ _ _ _)
  refine R_getr dX12_seen_47 flX12_81 cok_12 rfl (by decide) (?_ : RR _ _ _ _ 50 _ _ _ _)
  refine R_aload_n dX12_seen_50 rfl (?_ : RR _ _ _ _ 51 _ _ _ _)
  refine R_geti (z := 40) dX12_seen_51 flX12_205 cok_12 rfl (by decide) rfl (fun q51 => (?_ : RR _ _ _ _ 54 _ _ _ _))
  try simp (disch := omega) only [rup_rup, rup_sort, rupS_def, rup_s, rup_n, fup_fup, fup_s, fup_n, hN] at q51 ⊢
  refine R_iload_n dX12_seen_54 rfl (?_ : RR _ _ _ _ 55 _ _ _ _)
  refine R_iast dX12_seen_55 (?_ : RR _ _ _ _ 56 _ _ _ _)
  try simp (disch := omega) only [rup_rup, rup_sort, rupS_def, rup_s, rup_n, fup_fup, fup_s, fup_n, hN]
  refine R_aload_n dX12_seen_56 rfl (?_ : RR _ _ _ _ 57 _ _ _ _)
  refine R_getr dX12_seen_57 flX12_84 cok_12 rfl (by decide) (?_ : RR _ _ _ _ 60 _ _ _ _)
  refine R_aload_n dX12_seen_60 rfl (?_ : RR _ _ _ _ 61 _ _ _ _)
  refine R_geti (z := 40) dX12_seen_61 flX12_205 cok_12 rfl (by decide) rfl (fun q61 => (?_ : RR _ _ _ _ 64 _ _ _ _))
  try simp (disch := omega) only [rup_rup, rup_sort, rupS_def, rup_s, rup_n, fup_fup, fup_s, fup_n, hN] at q61 ⊢
  refine R_iload_n dX12_seen_64 rfl (?_ : RR _ _ _ _ 65 _ _ _ _)
  refine R_iast dX12_seen_65 (?_ : RR _ _ _ _ 66 _ _ _ _)
  try simp (disch := omega) only [rup_rup, rup_sort, rupS_def, rup_s, rup_n, fup_fup, fup_s, fup_n, hN]
  refine R_aload_n dX12_seen_66 rfl (?_ : RR _ _ _ _ 67 _ _ _ _)
  refine R_getr dX12_seen_67 flX12_87 cok_12 rfl (by decide) (?_ : RR _ _ _ _ 70 _ _ _ _)
  refine R_aload_n dX12_seen_70 rfl (?_ : RR _ _ _ _ 71 _ _ _ _)
  refine R_geti (z := 40) dX12_seen_71 flX12_205 cok_12 rfl (by decide) rfl (fun q71 => (?_ : RR _ _ _ _ 74 _ _ _ _))
  try simp (disch := omega) only [rup_rup, rup_sort, rupS_def, rup_s, rup_n, fup_fup, fup_s, fup_n, hN] at q71 ⊢
  refine R_iload_n dX12_seen_74 rfl (?_ : RR _ _ _ _ 75 _ _ _ _)
  refine R_iast dX12_seen_75 (?_ : RR _ _ _ _ 76 _ _ _ _)
  try simp (disch := omega) only [rup_rup, rup_sort, rupS_def, rup_s, rup_n, fup_fup, fup_s, fup_n, hN]
  refine R_aload_n dX12_seen_76 rfl (?_ : RR _ _ _ _ 77 _ _ _ _)
  refine R_dup dX12_seen_77 (fun _ => rfl) (?_ : RR _ _ _ _ 78 _ _ _ _)
  refine R_geti (z := 40) dX12_seen_78 flX12_205 cok_12 rfl (by decide) rfl (fun q78 => (?_ : RR _ _ _ _ 81 _ _ _ _))
  try simp (disch := omega) only [rup_rup, rup_sort, rupS_def, rup_s, rup_n, fup_fup, fup_s, fup_n, hN] at q78 ⊢
  refine R_iconst dX12_seen_81 (?_ : RR _ _ _ _ 82 _ _ _ _)
  refine R_iadd dX12_seen_82 (?_ : RR _ _ _ _ 83 _ _ _ _)
  refine R_puti (zk := 40) dX12_seen_83 flX12_205 cok_12 (by decide) (fun q hq => by cases hq; rfl) rfl (?_ : RR _ _ _ _ 86 _ _ _ _)
  try simp (disch := omega) only [rup_rup, rup_sort, rupS_def, rup_s, rup_n, fup_fup, fup_s, fup_n, hN]
  refine R_aload_n dX12_seen_86 rfl (?_ : RR _ _ _ _ 87 _ _ _ _)
  refine R_geti (z := 40) dX12_seen_87 flX12_205 cok_12 rfl (by decide) rfl (fun q87 => (?_ : RR _ _ _ _ 90 _ _ _ _))
  try simp (disch := omega) only [rup_rup, rup_sort, rupS_def, rup_s, rup_n, fup_fup, fup_s, fup_n, hN] at q87 ⊢
  exact R_ireturn dX12_seen_90 trivial hQ
theorem lsS_c {f g : Int → Int} : ∀ {n : Nat}, (∀ i : Nat, i < n → f i = g i) → lsS f n = lsS g n
  | 0, _ => rfl
  | n + 1, hh => by
    show max (lsS f n) (f n) = max (lsS g n) (g n)
    rw [lsS_c (fun i hi => hh i (by omega)), hh n (by omega)]
theorem fiS_c {a b d a' b' d' : Int → Int} {s c : Int} : ∀ {n : Nat}, (∀ i : Nat, i < n → a i = a' i ∧ b i = b' i ∧ d i = d' i) → fiS a b d s c n = fiS a' b' d' s c n
  | 0, _ => rfl
  | n + 1, hh => by
    show (fiS a b d s c n && decide (a n ≠ s ∨ (if b n = c then 1 else 0) = d n)) = (fiS a' b' d' s c n && decide (a' n ≠ s ∨ (if b' n = c then 1 else 0) = d' n))
    obtain ⟨e1, e2, e3⟩ := hh n (by omega)
    rw [fiS_c (fun i hi => hh i (by omega)), e1, e2, e3]
theorem A_seen (hsr : SRx k h sem H np nc len) (hs : r32 s) (hc : r32 c) (hy : r32 y) : AG mX11_seen mX12_seen 2 2 [pI s, pI c, pI y] k h := by
  obtain ⟨N, n1, n2, n3, n4, n5, n6⟩ := hsr.2.2.2.2.1
  obtain ⟨b1, -, -, b4, -⟩ := hsr.1
  have hH := sRH hsr
  by_cases q : (0 ≤ s ∧ s ≤ 12) ∧ (0 ≤ c ∧ c < H) ∧ (y = 0 ∨ y = 1) ∧ N < 12
  · obtain ⟨q1, q2, q3, q4⟩ := q
    obtain ⟨s', rfl⟩ := Int.eq_ofNat_of_zero_le q1.1
    obtain ⟨c', rfl⟩ := Int.eq_ofNat_of_zero_le q2.1
    obtain ⟨al, a1, a2, a3⟩ := n6 s' (by omega)
    obtain ⟨h1, h1e⟩ : ∃ h1, h1 = rup (rup h 138 (fup (fup (h 138) 1 (max (h 138 1) s')) 0 (N + 1))) 139 (fup (h 139) s' (if y = 0 then w32 (iAnd (h 139 s') (iXor (iShl 1 c') (-1))) else w32 (iAnd (h 139 s') (iShl 1 c')))) := ⟨_, rfl⟩
    have f1 : ∀ a, a ≠ 138 → a ≠ 139 → h1 a = h a := fun a x1 x2 => by rw [h1e, rup_n x2, rup_n x1]
    have hcl := T_X11_seen (h := h) (N := N) q1 (by rw [b4]; exact q2) (by rw [b4]; omega) q3 n1 q4
    rw [← h1e] at hcl
    have hm := T_X12_seen (h := h1) (N := N) (by rw [f1 147 (by omega) (by omega), b1]; omega) q1 (c := (c' : Int)) (by rw [f1 147 (by omega) (by omega), b1]; omega) (y := y) (by omega) (by rw [f1 147 (by omega) (by omega)]; exact n2) q4
    rw [f1 147 (by omega) (by omega), f1 170 (by omega) (by omega), f1 171 (by omega) (by omega), f1 172 (by omega) (by omega)] at hm
    refine AG_det hcl hm ?_
    obtain ⟨h2, h2e⟩ : ∃ h2, h2 = rup (rup (rup (rup h1 147 (fup (fup (h 147) 0 0) 40 (N + 1))) 170 (fup (h 170) N s')) 171 (fup (h 171) N c')) 172 (fup (h 172) N y) := ⟨_, rfl⟩
    rw [← h2e]
    have f2 : ∀ a, a ≠ 138 → a ≠ 139 → a ≠ 147 → a ≠ 170 → a ≠ 171 → a ≠ 172 → h2 a = h a := fun a x1 x2 x3 x4 x5 x6 => by rw [h2e, rup_n x6, rup_n x5, rup_n x4, rup_n x3]; exact f1 a x1 x2
    have fj : ∀ j : Int, j ≠ 0 → j ≠ 40 → h2 147 j = h 147 j := fun j j1 j2 => by rw [h2e, rup_n (by omega), rup_n (by omega), rup_n (by omega), rup_s, fup_n j2, fup_n j1]
    have g138 : h2 138 = fup (fup (h 138) 1 (max (h 138 1) s')) 0 (N + 1) := by rw [h2e, rup_n (by omega), rup_n (by omega), rup_n (by omega), rup_n (by omega), h1e, rup_n (by omega), rup_s]
    have g139 : h2 139 = fup (h 139) s' (if y = 0 then w32 (iAnd (h 139 s') (iXor (iShl 1 c') (-1))) else w32 (iAnd (h 139 s') (iShl 1 c'))) := by rw [h2e, rup_n (by omega), rup_n (by omega), rup_n (by omega), rup_n (by omega), h1e, rup_s]
    have g170 : h2 170 = fup (h 170) N s' := by rw [h2e, rup_n (by omega), rup_n (by omega), rup_s]
    have g171 : h2 171 = fup (h 171) N c' := by rw [h2e, rup_n (by omega), rup_s]
    have g172 : h2 172 = fup (h 172) N y := by rw [h2e, rup_s]
    refine SR_s hsr ⟨fun a q1 q2 => f2 a (by omega) (by omega) (by omega) (by omega) (by omega) (by omega), fun j q1 q2 => fj j (by omega) (by omega), fun q => by rw [fj 30 (by omega) (by omega)]; exact q, fun j q => by rw [f2 155 (by omega) (by omega) (by omega) (by omega) (by omega) (by omega)]⟩ ⟨N + 1, ?_, ?_, by omega, fun i hi => ?_, ?_, fun m hm => ?_⟩ (SD_same hsr.2.2.1 (by rw [f2 145 (by omega) (by omega) (by omega) (by omega) (by omega) (by omega)]) (fj 1 (by omega) (by omega)) (f2 146 (by omega) (by omega) (by omega) (by omega) (by omega) (by omega)) (f2 148 (by omega) (by omega) (by omega) (by omega) (by omega) (by omega)))
    · rw [g138, fup_s]; rfl
    · rw [h2e, rup_n (by omega), rup_n (by omega), rup_n (by omega), rup_s, fup_s]; rfl
    · rw [g170, g171, g172]
      by_cases z : i = N
      · subst z
        rw [fup_s, fup_s, fup_s]
        omega
      · rw [fup_n (by omega), fup_n (by omega), fup_n (by omega)]
        exact n4 i (by omega)
    · rw [g138, fup_n (by omega), fup_s, n5, g170]
      show _ = max 0 (max (lsS (fup (h 170) N s') N) (fup (h 170) N s' N))
      rw [lsS_c (g := h 170) (fun i hi => fup_n (by omega)), fup_s]
      omega
    · have hfi : ∀ cc : Nat, fiS (h2 170) (h2 171) (h2 172) m cc (N + 1) = (fiS (h 170) (h 171) (h 172) m cc N && decide ((s' : Int) ≠ m ∨ (if (c' : Int) = cc then 1 else 0) = y)) := fun cc => by
        show (fiS (h2 170) (h2 171) (h2 172) m cc N && decide (h2 170 N ≠ m ∨ (if h2 171 N = cc then 1 else 0) = h2 172 N)) = _
        rw [g170, g171, g172, fup_s, fup_s, fup_s, fiS_c (a' := h 170) (b' := h 171) (d' := h 172) (fun i hi => ⟨fup_n (by omega), fup_n (by omega), fup_n (by omega)⟩)]
      by_cases z : m = s'
      · subst z
        rw [g139, fup_s, a2]
        have hsh := iShl_one c' (by omega)
        have h2c : 2 ^ c' < 512 := show 2 ^ c' < 2 ^ 9 from Nat.pow_lt_pow_right (by omega) (by omega)
        rcases q3 with rfl | rfl
        · rw [if_pos rfl, hsh, iAndN (n := 9) a1 (by omega) (by omega)]
          have hb := bset_lt (fun i => al.testBit i && !(2 ^ c').testBit i) 9
          refine ⟨_, hb, w32_id (by omega), fun cc hcc => ?_⟩
          rw [bset_bit, hfi, ← a3 cc hcc, decide_eq_true hcc, Nat.testBit_two_pow, Bool.true_and]
          congr 1
          by_cases zz : c' = cc
          · simp [zz]
          · have : ¬ ((c' : Int) = cc) := by omega
            simp [zz, this]
        · rw [if_neg (by omega), hsh, iAnd_nat (by omega) (by omega)]
          have hb : al &&& 2 ^ c' < 512 := Nat.lt_of_le_of_lt Nat.and_le_left a1
          refine ⟨_, hb, w32_id (by omega), fun cc hcc => ?_⟩
          rw [Nat.testBit_and, hfi, ← a3 cc hcc, Nat.testBit_two_pow]
          congr 1
          by_cases zz : c' = cc
          · simp [zz]
          · have : ¬ ((c' : Int) = cc) := by omega
            simp [zz, this]
      · obtain ⟨al', d1, d2, d3⟩ := n6 m hm
        refine ⟨al', d1, by rw [g139, fup_n (by omega)]; exact d2, fun cc hcc => ?_⟩
        rw [hfi, d3 cc hcc, decide_eq_true (Or.inl (by omega)), Bool.and_true]
  · refine AG_det (T_X11_seen_no (by rw [b4, n1]; omega) hs hc hy) (T_X12_seen_no (by rw [b1]; omega) (by rw [b1, n2]; omega) hs hc hy) (SR_thr hsr)
end SN
