section NE8
variable {k : Nat} {h h1 h2 h3 h4 : Nat → Int → Int} {sem : Sem} {H0 H np nc len n b : Nat} {σ : Int → Int}
theorem T_X12_faultOf46 {a : Nat} {ok : Int} (hok : ok = 0 ∨ ok = 1) (ha : h 147 16 = a) (hb : h 147 17 = b) (hab : a ≤ b) (hb47 : b = min n 46) (hn80 : n ≤ 80) (r : Int) (hr : r = if ok = 1 ∧ a = n then 0 else -1 - (a : Int)) : MT mX12_faultOf 0 [pR 147, pI n, pI 46, pI ok] h (some (pI r)) h := by
  refine MT.of (fun Q hQ => (?_ : RR mX12_faultOf _ _ _ _ [pR 147, pI n, pI 46, pI ok, pU] _ _ _))
  rcases hok with z | z
  · subst z
    rw [if_neg (by omega)] at hr
    rw [hr] at hQ
    by_cases y : n > 46
    · by_cases u : a ≥ 46
      · rw [show (a : Int) = 46 by omega] at hQ
        refine R_iload_n dX12_faultOf_0 rfl (?_ : RR _ _ _ _ 1 _ _ _ _)
        refine R_if_eq (t := 19) dX12_faultOf_1 rfl (fun c1 => ?_) (fun c1 => ?_)
        rotate_left
        · exfalso; omega
        refine R_iconst dX12_faultOf_19 (?_ : RR _ _ _ _ 20 _ _ _ _)
        refine R_istore dX12_faultOf_20 (Nat.le_of_ble_eq_true rfl) (?_ : RR _ _ _ _ 22 [_, _, _, _, _] _ _ _)
        refine R_iload_n dX12_faultOf_22 rfl (?_ : RR _ _ _ _ 23 _ _ _ _)
        refine R_iload_n dX12_faultOf_23 rfl (?_ : RR _ _ _ _ 24 _ _ _ _)
        refine R_icmp_le (t := 44) dX12_faultOf_24 rfl (fun c24 => ?_) (fun c24 => ?_)
        · exfalso; omega
        refine R_iload dX12_faultOf_27 rfl (?_ : RR _ _ _ _ 29 _ _ _ _)
        refine R_if_ne (t := 40) dX12_faultOf_29 rfl (fun c29 => ?_) (fun c29 => ?_)
        · exfalso; omega
        refine R_aload_n dX12_faultOf_32 rfl (?_ : RR _ _ _ _ 33 _ _ _ _)
        refine R_geti (z := 16) dX12_faultOf_33 flX12_151 cok_12 rfl (by decide) rfl (fun q33 => (?_ : RR _ _ _ _ 36 _ _ _ _))
        rw [ha] at q33 ⊢
        refine R_iload_n dX12_faultOf_36 rfl (?_ : RR _ _ _ _ 37 _ _ _ _)
        refine R_icmp_lt (t := 44) dX12_faultOf_37 rfl (fun c37 => ?_) (fun c37 => ?_)
        · exfalso; omega
        refine R_iconst dX12_faultOf_40 (?_ : RR _ _ _ _ 41 _ _ _ _)
        refine R_iload_n dX12_faultOf_41 rfl (?_ : RR _ _ _ _ 42 _ _ _ _)
        refine R_isub dX12_faultOf_42 (?_ : RR _ _ _ _ 43 _ _ _ _)
        exact R_ireturn dX12_faultOf_43 trivial hQ
      · refine R_iload_n dX12_faultOf_0 rfl (?_ : RR _ _ _ _ 1 _ _ _ _)
        refine R_if_eq (t := 19) dX12_faultOf_1 rfl (fun c1 => ?_) (fun c1 => ?_)
        rotate_left
        · exfalso; omega
        refine R_iconst dX12_faultOf_19 (?_ : RR _ _ _ _ 20 _ _ _ _)
        refine R_istore dX12_faultOf_20 (Nat.le_of_ble_eq_true rfl) (?_ : RR _ _ _ _ 22 [_, _, _, _, _] _ _ _)
        refine R_iload_n dX12_faultOf_22 rfl (?_ : RR _ _ _ _ 23 _ _ _ _)
        refine R_iload_n dX12_faultOf_23 rfl (?_ : RR _ _ _ _ 24 _ _ _ _)
        refine R_icmp_le (t := 44) dX12_faultOf_24 rfl (fun c24 => ?_) (fun c24 => ?_)
        · exfalso; omega
        refine R_iload dX12_faultOf_27 rfl (?_ : RR _ _ _ _ 29 _ _ _ _)
        refine R_if_ne (t := 40) dX12_faultOf_29 rfl (fun c29 => ?_) (fun c29 => ?_)
        · exfalso; omega
        refine R_aload_n dX12_faultOf_32 rfl (?_ : RR _ _ _ _ 33 _ _ _ _)
        refine R_geti (z := 16) dX12_faultOf_33 flX12_151 cok_12 rfl (by decide) rfl (fun q33 => (?_ : RR _ _ _ _ 36 _ _ _ _))
        rw [ha] at q33 ⊢
        refine R_iload_n dX12_faultOf_36 rfl (?_ : RR _ _ _ _ 37 _ _ _ _)
        refine R_icmp_lt (t := 44) dX12_faultOf_37 rfl (fun c37 => ?_) (fun c37 => ?_)
        rotate_left
        · exfalso; omega
        refine R_iload dX12_faultOf_44 rfl (?_ : RR _ _ _ _ 46 _ _ _ _)
        refine R_if_eq (t := 53) dX12_faultOf_46 rfl (fun c46 => ?_) (fun c46 => ?_)
        rotate_left
        · exfalso; omega
        refine R_iconst dX12_faultOf_53 (?_ : RR _ _ _ _ 54 _ _ _ _)
        refine R_aload_n dX12_faultOf_54 rfl (?_ : RR _ _ _ _ 55 _ _ _ _)
        refine R_geti (z := 16) dX12_faultOf_55 flX12_151 cok_12 rfl (by decide) rfl (fun q55 => (?_ : RR _ _ _ _ 58 _ _ _ _))
        rw [ha] at q55 ⊢
        refine R_isub dX12_faultOf_58 (?_ : RR _ _ _ _ 59 _ _ _ _)
        exact R_ireturn dX12_faultOf_59 trivial hQ
    · refine R_iload_n dX12_faultOf_0 rfl (?_ : RR _ _ _ _ 1 _ _ _ _)
      refine R_if_eq (t := 19) dX12_faultOf_1 rfl (fun c1 => ?_) (fun c1 => ?_)
      rotate_left
      · exfalso; omega
      refine R_iconst dX12_faultOf_19 (?_ : RR _ _ _ _ 20 _ _ _ _)
      refine R_istore dX12_faultOf_20 (Nat.le_of_ble_eq_true rfl) (?_ : RR _ _ _ _ 22 [_, _, _, _, _] _ _ _)
      refine R_iload_n dX12_faultOf_22 rfl (?_ : RR _ _ _ _ 23 _ _ _ _)
      refine R_iload_n dX12_faultOf_23 rfl (?_ : RR _ _ _ _ 24 _ _ _ _)
      refine R_icmp_le (t := 44) dX12_faultOf_24 rfl (fun c24 => ?_) (fun c24 => ?_)
      rotate_left
      · exfalso; omega
      refine R_iload dX12_faultOf_44 rfl (?_ : RR _ _ _ _ 46 _ _ _ _)
      refine R_if_eq (t := 53) dX12_faultOf_46 rfl (fun c46 => ?_) (fun c46 => ?_)
      rotate_left
      · exfalso; omega
      refine R_iconst dX12_faultOf_53 (?_ : RR _ _ _ _ 54 _ _ _ _)
      refine R_aload_n dX12_faultOf_54 rfl (?_ : RR _ _ _ _ 55 _ _ _ _)
      refine R_geti (z := 16) dX12_faultOf_55 flX12_151 cok_12 rfl (by decide) rfl (fun q55 => (?_ : RR _ _ _ _ 58 _ _ _ _))
      rw [ha] at q55 ⊢
      refine R_isub dX12_faultOf_58 (?_ : RR _ _ _ _ 59 _ _ _ _)
      exact R_ireturn dX12_faultOf_59 trivial hQ
  · subst z
    by_cases y : n > 46
    · by_cases u : a = b
      · rw [if_neg (by omega)] at hr
        rw [hr, show (a : Int) = 46 by omega] at hQ
        refine R_iload_n dX12_faultOf_0 rfl (?_ : RR _ _ _ _ 1 _ _ _ _)
        refine R_if_eq (t := 19) dX12_faultOf_1 rfl (fun c1 => ?_) (fun c1 => ?_)
        · exfalso; omega
        refine R_aload_n dX12_faultOf_4 rfl (?_ : RR _ _ _ _ 5 _ _ _ _)
        refine R_geti (z := 16) dX12_faultOf_5 flX12_151 cok_12 rfl (by decide) rfl (fun q5 => (?_ : RR _ _ _ _ 8 _ _ _ _))
        rw [ha] at q5 ⊢
        refine R_aload_n dX12_faultOf_8 rfl (?_ : RR _ _ _ _ 9 _ _ _ _)
        refine R_geti (z := 17) dX12_faultOf_9 flX12_157 cok_12 rfl (by decide) rfl (fun q9 => (?_ : RR _ _ _ _ 12 _ _ _ _))
        rw [hb] at q9 ⊢
        refine R_icmp_ne (t := 19) dX12_faultOf_12 rfl (fun c12 => ?_) (fun c12 => ?_)
        · exfalso; omega
        refine R_iconst dX12_faultOf_15 (?_ : RR _ _ _ _ 16 _ _ _ _)
        refine R_goto (t := 20) dX12_faultOf_16 rfl (?_ : RR _ _ _ _ 20 _ _ _ _)
        refine R_istore dX12_faultOf_20 (Nat.le_of_ble_eq_true rfl) (?_ : RR _ _ _ _ 22 [_, _, _, _, _] _ _ _)
        refine R_iload_n dX12_faultOf_22 rfl (?_ : RR _ _ _ _ 23 _ _ _ _)
        refine R_iload_n dX12_faultOf_23 rfl (?_ : RR _ _ _ _ 24 _ _ _ _)
        refine R_icmp_le (t := 44) dX12_faultOf_24 rfl (fun c24 => ?_) (fun c24 => ?_)
        · exfalso; omega
        refine R_iload dX12_faultOf_27 rfl (?_ : RR _ _ _ _ 29 _ _ _ _)
        refine R_if_ne (t := 40) dX12_faultOf_29 rfl (fun c29 => ?_) (fun c29 => ?_)
        rotate_left
        · exfalso; omega
        refine R_iconst dX12_faultOf_40 (?_ : RR _ _ _ _ 41 _ _ _ _)
        refine R_iload_n dX12_faultOf_41 rfl (?_ : RR _ _ _ _ 42 _ _ _ _)
        refine R_isub dX12_faultOf_42 (?_ : RR _ _ _ _ 43 _ _ _ _)
        exact R_ireturn dX12_faultOf_43 trivial hQ
      · rw [if_neg (by omega)] at hr
        rw [hr] at hQ
        refine R_iload_n dX12_faultOf_0 rfl (?_ : RR _ _ _ _ 1 _ _ _ _)
        refine R_if_eq (t := 19) dX12_faultOf_1 rfl (fun c1 => ?_) (fun c1 => ?_)
        · exfalso; omega
        refine R_aload_n dX12_faultOf_4 rfl (?_ : RR _ _ _ _ 5 _ _ _ _)
        refine R_geti (z := 16) dX12_faultOf_5 flX12_151 cok_12 rfl (by decide) rfl (fun q5 => (?_ : RR _ _ _ _ 8 _ _ _ _))
        rw [ha] at q5 ⊢
        refine R_aload_n dX12_faultOf_8 rfl (?_ : RR _ _ _ _ 9 _ _ _ _)
        refine R_geti (z := 17) dX12_faultOf_9 flX12_157 cok_12 rfl (by decide) rfl (fun q9 => (?_ : RR _ _ _ _ 12 _ _ _ _))
        rw [hb] at q9 ⊢
        refine R_icmp_ne (t := 19) dX12_faultOf_12 rfl (fun c12 => ?_) (fun c12 => ?_)
        rotate_left
        · exfalso; omega
        refine R_iconst dX12_faultOf_19 (?_ : RR _ _ _ _ 20 _ _ _ _)
        refine R_istore dX12_faultOf_20 (Nat.le_of_ble_eq_true rfl) (?_ : RR _ _ _ _ 22 [_, _, _, _, _] _ _ _)
        refine R_iload_n dX12_faultOf_22 rfl (?_ : RR _ _ _ _ 23 _ _ _ _)
        refine R_iload_n dX12_faultOf_23 rfl (?_ : RR _ _ _ _ 24 _ _ _ _)
        refine R_icmp_le (t := 44) dX12_faultOf_24 rfl (fun c24 => ?_) (fun c24 => ?_)
        · exfalso; omega
        refine R_iload dX12_faultOf_27 rfl (?_ : RR _ _ _ _ 29 _ _ _ _)
        refine R_if_ne (t := 40) dX12_faultOf_29 rfl (fun c29 => ?_) (fun c29 => ?_)
        · exfalso; omega
        refine R_aload_n dX12_faultOf_32 rfl (?_ : RR _ _ _ _ 33 _ _ _ _)
        refine R_geti (z := 16) dX12_faultOf_33 flX12_151 cok_12 rfl (by decide) rfl (fun q33 => (?_ : RR _ _ _ _ 36 _ _ _ _))
        rw [ha] at q33 ⊢
        refine R_iload_n dX12_faultOf_36 rfl (?_ : RR _ _ _ _ 37 _ _ _ _)
        refine R_icmp_lt (t := 44) dX12_faultOf_37 rfl (fun c37 => ?_) (fun c37 => ?_)
        rotate_left
        · exfalso; omega
        refine R_iload dX12_faultOf_44 rfl (?_ : RR _ _ _ _ 46 _ _ _ _)
        refine R_if_eq (t := 53) dX12_faultOf_46 rfl (fun c46 => ?_) (fun c46 => ?_)
        rotate_left
        · exfalso; omega
        refine R_iconst dX12_faultOf_53 (?_ : RR _ _ _ _ 54 _ _ _ _)
        refine R_aload_n dX12_faultOf_54 rfl (?_ : RR _ _ _ _ 55 _ _ _ _)
        refine R_geti (z := 16) dX12_faultOf_55 flX12_151 cok_12 rfl (by decide) rfl (fun q55 => (?_ : RR _ _ _ _ 58 _ _ _ _))
        rw [ha] at q55 ⊢
        refine R_isub dX12_faultOf_58 (?_ : RR _ _ _ _ 59 _ _ _ _)
        exact R_ireturn dX12_faultOf_59 trivial hQ
    · by_cases u : a = b
      · rw [if_pos (by omega)] at hr
        rw [hr] at hQ
        refine R_iload_n dX12_faultOf_0 rfl (?_ : RR _ _ _ _ 1 _ _ _ _)
        refine R_if_eq (t := 19) dX12_faultOf_1 rfl (fun c1 => ?_) (fun c1 => ?_)
        · exfalso; omega
        refine R_aload_n dX12_faultOf_4 rfl (?_ : RR _ _ _ _ 5 _ _ _ _)
        refine R_geti (z := 16) dX12_faultOf_5 flX12_151 cok_12 rfl (by decide) rfl (fun q5 => (?_ : RR _ _ _ _ 8 _ _ _ _))
        rw [ha] at q5 ⊢
        refine R_aload_n dX12_faultOf_8 rfl (?_ : RR _ _ _ _ 9 _ _ _ _)
        refine R_geti (z := 17) dX12_faultOf_9 flX12_157 cok_12 rfl (by decide) rfl (fun q9 => (?_ : RR _ _ _ _ 12 _ _ _ _))
        rw [hb] at q9 ⊢
        refine R_icmp_ne (t := 19) dX12_faultOf_12 rfl (fun c12 => ?_) (fun c12 => ?_)
        · exfalso; omega
        refine R_iconst dX12_faultOf_15 (?_ : RR _ _ _ _ 16 _ _ _ _)
        refine R_goto (t := 20) dX12_faultOf_16 rfl (?_ : RR _ _ _ _ 20 _ _ _ _)
        refine R_istore dX12_faultOf_20 (Nat.le_of_ble_eq_true rfl) (?_ : RR _ _ _ _ 22 [_, _, _, _, _] _ _ _)
        refine R_iload_n dX12_faultOf_22 rfl (?_ : RR _ _ _ _ 23 _ _ _ _)
        refine R_iload_n dX12_faultOf_23 rfl (?_ : RR _ _ _ _ 24 _ _ _ _)
        refine R_icmp_le (t := 44) dX12_faultOf_24 rfl (fun c24 => ?_) (fun c24 => ?_)
        rotate_left
        · exfalso; omega
        refine R_iload dX12_faultOf_44 rfl (?_ : RR _ _ _ _ 46 _ _ _ _)
        refine R_if_eq (t := 53) dX12_faultOf_46 rfl (fun c46 => ?_) (fun c46 => ?_)
        · exfalso; omega
        refine R_iconst dX12_faultOf_49 (?_ : RR _ _ _ _ 50 _ _ _ _)
        refine R_goto (t := 59) dX12_faultOf_50 rfl (?_ : RR _ _ _ _ 59 _ _ _ _)
        exact R_ireturn dX12_faultOf_59 trivial hQ
      · rw [if_neg (by omega)] at hr
        rw [hr] at hQ
        refine R_iload_n dX12_faultOf_0 rfl (?_ : RR _ _ _ _ 1 _ _ _ _)
        refine R_if_eq (t := 19) dX12_faultOf_1 rfl (fun c1 => ?_) (fun c1 => ?_)
        · exfalso; omega
        refine R_aload_n dX12_faultOf_4 rfl (?_ : RR _ _ _ _ 5 _ _ _ _)
        refine R_geti (z := 16) dX12_faultOf_5 flX12_151 cok_12 rfl (by decide) rfl (fun q5 => (?_ : RR _ _ _ _ 8 _ _ _ _))
        rw [ha] at q5 ⊢
        refine R_aload_n dX12_faultOf_8 rfl (?_ : RR _ _ _ _ 9 _ _ _ _)
        refine R_geti (z := 17) dX12_faultOf_9 flX12_157 cok_12 rfl (by decide) rfl (fun q9 => (?_ : RR _ _ _ _ 12 _ _ _ _))
        rw [hb] at q9 ⊢
        refine R_icmp_ne (t := 19) dX12_faultOf_12 rfl (fun c12 => ?_) (fun c12 => ?_)
        rotate_left
        · exfalso; omega
        refine R_iconst dX12_faultOf_19 (?_ : RR _ _ _ _ 20 _ _ _ _)
        refine R_istore dX12_faultOf_20 (Nat.le_of_ble_eq_true rfl) (?_ : RR _ _ _ _ 22 [_, _, _, _, _] _ _ _)
        refine R_iload_n dX12_faultOf_22 rfl (?_ : RR _ _ _ _ 23 _ _ _ _)
        refine R_iload_n dX12_faultOf_23 rfl (?_ : RR _ _ _ _ 24 _ _ _ _)
        refine R_icmp_le (t := 44) dX12_faultOf_24 rfl (fun c24 => ?_) (fun c24 => ?_)
        rotate_left
        · exfalso; omega
        refine R_iload dX12_faultOf_44 rfl (?_ : RR _ _ _ _ 46 _ _ _ _)
        refine R_if_eq (t := 53) dX12_faultOf_46 rfl (fun c46 => ?_) (fun c46 => ?_)
        rotate_left
        · exfalso; omega
        refine R_iconst dX12_faultOf_53 (?_ : RR _ _ _ _ 54 _ _ _ _)
        refine R_aload_n dX12_faultOf_54 rfl (?_ : RR _ _ _ _ 55 _ _ _ _)
        refine R_geti (z := 16) dX12_faultOf_55 flX12_151 cok_12 rfl (by decide) rfl (fun q55 => (?_ : RR _ _ _ _ 58 _ _ _ _))
        rw [ha] at q55 ⊢
        refine R_isub dX12_faultOf_58 (?_ : RR _ _ _ _ 59 _ _ _ _)
        exact R_ireturn dX12_faultOf_59 trivial hQ
theorem MNE_106 {a : Nat} {ok r hh : Int} {w4 : PV} {Q : Option PV → PH → Prop} (hok : ok = 0 ∨ ok = 1) (ha : h1 147 16 = a) (hb0 : h1 147 17 = b) (hab : a ≤ b) (hb46 : b = min n 46) (hn80 : n ≤ 80) (hr : ¬ (ok = 1 ∧ a = n)) (hre : r = -1 - (a : Int)) (hQ : Q (some (pI r)) (shp0, rf0, h1)) : RR mX12_net 3 0 0 106 [pR 147, pI n, pI hh, pI ok, w4, pU] [] (shp0, rf0, h1) Q := by
  have hT := T_X12_faultOf46 (n := n) hok ha hb0 hab hb46 hn80 (-1 - (a : Int)) (by rw [if_neg hr])
  rw [hre] at hQ
  refine R_aload_n dX12_net_106 rfl (?_ : RR _ _ _ _ 107 _ _ _ _)
  refine R_iload_n dX12_net_107 rfl (?_ : RR _ _ _ _ 108 _ _ _ _)
  refine R_bipush dX12_net_108 rfl (?_ : RR _ _ _ _ 110 _ _ _ _)
  refine R_iload_n dX12_net_110 rfl (?_ : RR _ _ _ _ 111 _ _ _ _)
  refine R_cVi3 dX12_net_111 mvX12_faultOf mlX12_198 (by decide) (by decide) (Nat.le_of_ble_eq_true rfl) (Nat.le_of_ble_eq_true rfl) (hT) (?_ : RR _ _ _ _ 114 _ _ _ _)
  refine R_istore dX12_net_114 (Nat.le_of_ble_eq_true rfl) (?_ : RR _ _ _ _ 116 [_, _, _, _, _, _] _ _ _)
  refine R_iload dX12_net_116 rfl (?_ : RR _ _ _ _ 118 _ _ _ _)
  refine R_if_ge (t := 124) dX12_net_118 rfl (fun c118 => ?_) (fun c118 => ?_)
  · exfalso; omega
  refine R_iload dX12_net_121 rfl (?_ : RR _ _ _ _ 123 _ _ _ _)
  exact R_ireturn dX12_net_123 trivial hQ
end NE8
