section BG
variable {k : Nat} {h h1 h2 h3 h4 : Nat → Int → Int} {sem : Sem} {H np nc len : Nat} {v x y t : Int}
/-- a pair at rest -/
abbrev rst (x y t : Int) : Prop := (if x + y ≤ t then x else 0) = t - y ∧ (if x + y ≤ t then y else 0) = t - x
theorem T_X11_isAtRest (hx : 0 ≤ x ∧ x ≤ t) (hy : 0 ≤ y ∧ y ≤ t) (ht : t ≤ 20) : MT mX11_isAtRest 0 [pI x, pI y, pI t] h (some (pI (if rst x y t then 1 else 0))) h := by
  refine MT.of (fun Q hQ => (?_ : RR mX11_isAtRest _ _ _ _ [pI x, pI y, pI t, pU] _ _ _))
  unfold rst at hQ
  by_cases q : x + y ≤ t
  · rw [if_pos q, if_pos q] at hQ
    by_cases a : x = t - y
    · by_cases b : y = t - x
      · rw [if_pos ⟨a, b⟩] at hQ
        refine R_iload_n dX11_isAtRest_0 rfl (?_ : RR _ _ _ _ 1 _ _ _ _)
        refine R_iload_n dX11_isAtRest_1 rfl (?_ : RR _ _ _ _ 2 _ _ _ _)
        refine R_iadd dX11_isAtRest_2 (?_ : RR _ _ _ _ 3 _ _ _ _)
        refine R_iload_n dX11_isAtRest_3 rfl (?_ : RR _ _ _ _ 4 _ _ _ _)
        refine R_icmp_gt (t := 11) dX11_isAtRest_4 rfl (fun c4 => ?_) (fun c4 => ?_)
        · exfalso; omega
        refine R_iconst dX11_isAtRest_7 (?_ : RR _ _ _ _ 8 _ _ _ _)
        refine R_goto (t := 12) dX11_isAtRest_8 rfl (?_ : RR _ _ _ _ 12 _ _ _ _)
        refine R_istore_n dX11_isAtRest_12 (Nat.le_of_ble_eq_true rfl) (?_ : RR _ _ _ _ 13 [_, _, _, _] _ _ _)
        refine R_iload_n dX11_isAtRest_13 rfl (?_ : RR _ _ _ _ 14 _ _ _ _)
        refine R_if_eq (t := 21) dX11_isAtRest_14 rfl (fun c14 => ?_) (fun c14 => ?_)
        · exfalso; omega
        refine R_iload_n dX11_isAtRest_17 rfl (?_ : RR _ _ _ _ 18 _ _ _ _)
        refine R_goto (t := 22) dX11_isAtRest_18 rfl (?_ : RR _ _ _ _ 22 _ _ _ _)
        refine R_iload_n dX11_isAtRest_22 rfl (?_ : RR _ _ _ _ 23 _ _ _ _)
        refine R_iload_n dX11_isAtRest_23 rfl (?_ : RR _ _ _ _ 24 _ _ _ _)
        refine R_isub dX11_isAtRest_24 (?_ : RR _ _ _ _ 25 _ _ _ _)
        refine R_icmp_ne (t := 47) dX11_isAtRest_25 rfl (fun c25 => ?_) (fun c25 => ?_)
        · exfalso; omega
        refine R_iload_n dX11_isAtRest_28 rfl (?_ : RR _ _ _ _ 29 _ _ _ _)
        refine R_if_eq (t := 36) dX11_isAtRest_29 rfl (fun c29 => ?_) (fun c29 => ?_)
        · exfalso; omega
        refine R_iload_n dX11_isAtRest_32 rfl (?_ : RR _ _ _ _ 33 _ _ _ _)
        refine R_goto (t := 37) dX11_isAtRest_33 rfl (?_ : RR _ _ _ _ 37 _ _ _ _)
        refine R_iload_n dX11_isAtRest_37 rfl (?_ : RR _ _ _ _ 38 _ _ _ _)
        refine R_iload_n dX11_isAtRest_38 rfl (?_ : RR _ _ _ _ 39 _ _ _ _)
        refine R_isub dX11_isAtRest_39 (?_ : RR _ _ _ _ 40 _ _ _ _)
        refine R_icmp_ne (t := 47) dX11_isAtRest_40 rfl (fun c40 => ?_) (fun c40 => ?_)
        · exfalso; omega
        refine R_iconst dX11_isAtRest_43 (?_ : RR _ _ _ _ 44 _ _ _ _)
        refine R_goto (t := 48) dX11_isAtRest_44 rfl (?_ : RR _ _ _ _ 48 _ _ _ _)
        exact R_ireturn dX11_isAtRest_48 (by first | exact Or.inl rfl | exact Or.inr rfl | exact ok_ite | omega) hQ
      · rw [if_neg (fun z => b z.2)] at hQ
        refine R_iload_n dX11_isAtRest_0 rfl (?_ : RR _ _ _ _ 1 _ _ _ _)
        refine R_iload_n dX11_isAtRest_1 rfl (?_ : RR _ _ _ _ 2 _ _ _ _)
        refine R_iadd dX11_isAtRest_2 (?_ : RR _ _ _ _ 3 _ _ _ _)
        refine R_iload_n dX11_isAtRest_3 rfl (?_ : RR _ _ _ _ 4 _ _ _ _)
        refine R_icmp_gt (t := 11) dX11_isAtRest_4 rfl (fun c4 => ?_) (fun c4 => ?_)
        · exfalso; omega
        refine R_iconst dX11_isAtRest_7 (?_ : RR _ _ _ _ 8 _ _ _ _)
        refine R_goto (t := 12) dX11_isAtRest_8 rfl (?_ : RR _ _ _ _ 12 _ _ _ _)
        refine R_istore_n dX11_isAtRest_12 (Nat.le_of_ble_eq_true rfl) (?_ : RR _ _ _ _ 13 [_, _, _, _] _ _ _)
        refine R_iload_n dX11_isAtRest_13 rfl (?_ : RR _ _ _ _ 14 _ _ _ _)
        refine R_if_eq (t := 21) dX11_isAtRest_14 rfl (fun c14 => ?_) (fun c14 => ?_)
        · exfalso; omega
        refine R_iload_n dX11_isAtRest_17 rfl (?_ : RR _ _ _ _ 18 _ _ _ _)
        refine R_goto (t := 22) dX11_isAtRest_18 rfl (?_ : RR _ _ _ _ 22 _ _ _ _)
        refine R_iload_n dX11_isAtRest_22 rfl (?_ : RR _ _ _ _ 23 _ _ _ _)
        refine R_iload_n dX11_isAtRest_23 rfl (?_ : RR _ _ _ _ 24 _ _ _ _)
        refine R_isub dX11_isAtRest_24 (?_ : RR _ _ _ _ 25 _ _ _ _)
        refine R_icmp_ne (t := 47) dX11_isAtRest_25 rfl (fun c25 => ?_) (fun c25 => ?_)
        · exfalso; omega
        refine R_iload_n dX11_isAtRest_28 rfl (?_ : RR _ _ _ _ 29 _ _ _ _)
        refine R_if_eq (t := 36) dX11_isAtRest_29 rfl (fun c29 => ?_) (fun c29 => ?_)
        · exfalso; omega
        refine R_iload_n dX11_isAtRest_32 rfl (?_ : RR _ _ _ _ 33 _ _ _ _)
        refine R_goto (t := 37) dX11_isAtRest_33 rfl (?_ : RR _ _ _ _ 37 _ _ _ _)
        refine R_iload_n dX11_isAtRest_37 rfl (?_ : RR _ _ _ _ 38 _ _ _ _)
        refine R_iload_n dX11_isAtRest_38 rfl (?_ : RR _ _ _ _ 39 _ _ _ _)
        refine R_isub dX11_isAtRest_39 (?_ : RR _ _ _ _ 40 _ _ _ _)
        refine R_icmp_ne (t := 47) dX11_isAtRest_40 rfl (fun c40 => ?_) (fun c40 => ?_)
        rotate_left
        · exfalso; omega
        refine R_iconst dX11_isAtRest_47 (?_ : RR _ _ _ _ 48 _ _ _ _)
        exact R_ireturn dX11_isAtRest_48 (by first | exact Or.inl rfl | exact Or.inr rfl | exact ok_ite | omega) hQ
    · rw [if_neg (fun z => a z.1)] at hQ
      refine R_iload_n dX11_isAtRest_0 rfl (?_ : RR _ _ _ _ 1 _ _ _ _)
      refine R_iload_n dX11_isAtRest_1 rfl (?_ : RR _ _ _ _ 2 _ _ _ _)
      refine R_iadd dX11_isAtRest_2 (?_ : RR _ _ _ _ 3 _ _ _ _)
      refine R_iload_n dX11_isAtRest_3 rfl (?_ : RR _ _ _ _ 4 _ _ _ _)
      refine R_icmp_gt (t := 11) dX11_isAtRest_4 rfl (fun c4 => ?_) (fun c4 => ?_)
      · exfalso; omega
      refine R_iconst dX11_isAtRest_7 (?_ : RR _ _ _ _ 8 _ _ _ _)
      refine R_goto (t := 12) dX11_isAtRest_8 rfl (?_ : RR _ _ _ _ 12 _ _ _ _)
      refine R_istore_n dX11_isAtRest_12 (Nat.le_of_ble_eq_true rfl) (?_ : RR _ _ _ _ 13 [_, _, _, _] _ _ _)
      refine R_iload_n dX11_isAtRest_13 rfl (?_ : RR _ _ _ _ 14 _ _ _ _)
      refine R_if_eq (t := 21) dX11_isAtRest_14 rfl (fun c14 => ?_) (fun c14 => ?_)
      · exfalso; omega
      refine R_iload_n dX11_isAtRest_17 rfl (?_ : RR _ _ _ _ 18 _ _ _ _)
      refine R_goto (t := 22) dX11_isAtRest_18 rfl (?_ : RR _ _ _ _ 22 _ _ _ _)
      refine R_iload_n dX11_isAtRest_22 rfl (?_ : RR _ _ _ _ 23 _ _ _ _)
      refine R_iload_n dX11_isAtRest_23 rfl (?_ : RR _ _ _ _ 24 _ _ _ _)
      refine R_isub dX11_isAtRest_24 (?_ : RR _ _ _ _ 25 _ _ _ _)
      refine R_icmp_ne (t := 47) dX11_isAtRest_25 rfl (fun c25 => ?_) (fun c25 => ?_)
      rotate_left
      · exfalso; omega
      refine R_iconst dX11_isAtRest_47 (?_ : RR _ _ _ _ 48 _ _ _ _)
      exact R_ireturn dX11_isAtRest_48 (by first | exact Or.inl rfl | exact Or.inr rfl | exact ok_ite | omega) hQ
  · rw [if_neg q, if_neg q] at hQ
    by_cases a : 0 = t - y
    · by_cases b : 0 = t - x
      · rw [if_pos ⟨a, b⟩] at hQ
        refine R_iload_n dX11_isAtRest_0 rfl (?_ : RR _ _ _ _ 1 _ _ _ _)
        refine R_iload_n dX11_isAtRest_1 rfl (?_ : RR _ _ _ _ 2 _ _ _ _)
        refine R_iadd dX11_isAtRest_2 (?_ : RR _ _ _ _ 3 _ _ _ _)
        refine R_iload_n dX11_isAtRest_3 rfl (?_ : RR _ _ _ _ 4 _ _ _ _)
        refine R_icmp_gt (t := 11) dX11_isAtRest_4 rfl (fun c4 => ?_) (fun c4 => ?_)
        rotate_left
        · exfalso; omega
        refine R_iconst dX11_isAtRest_11 (?_ : RR _ _ _ _ 12 _ _ _ _)
        refine R_istore_n dX11_isAtRest_12 (Nat.le_of_ble_eq_true rfl) (?_ : RR _ _ _ _ 13 [_, _, _, _] _ _ _)
        refine R_iload_n dX11_isAtRest_13 rfl (?_ : RR _ _ _ _ 14 _ _ _ _)
        refine R_if_eq (t := 21) dX11_isAtRest_14 rfl (fun c14 => ?_) (fun c14 => ?_)
        rotate_left
        · exfalso; omega
        refine R_iconst dX11_isAtRest_21 (?_ : RR _ _ _ _ 22 _ _ _ _)
        refine R_iload_n dX11_isAtRest_22 rfl (?_ : RR _ _ _ _ 23 _ _ _ _)
        refine R_iload_n dX11_isAtRest_23 rfl (?_ : RR _ _ _ _ 24 _ _ _ _)
        refine R_isub dX11_isAtRest_24 (?_ : RR _ _ _ _ 25 _ _ _ _)
        refine R_icmp_ne (t := 47) dX11_isAtRest_25 rfl (fun c25 => ?_) (fun c25 => ?_)
        · exfalso; omega
        refine R_iload_n dX11_isAtRest_28 rfl (?_ : RR _ _ _ _ 29 _ _ _ _)
        refine R_if_eq (t := 36) dX11_isAtRest_29 rfl (fun c29 => ?_) (fun c29 => ?_)
        rotate_left
        · exfalso; omega
        refine R_iconst dX11_isAtRest_36 (?_ : RR _ _ _ _ 37 _ _ _ _)
        refine R_iload_n dX11_isAtRest_37 rfl (?_ : RR _ _ _ _ 38 _ _ _ _)
        refine R_iload_n dX11_isAtRest_38 rfl (?_ : RR _ _ _ _ 39 _ _ _ _)
        refine R_isub dX11_isAtRest_39 (?_ : RR _ _ _ _ 40 _ _ _ _)
        refine R_icmp_ne (t := 47) dX11_isAtRest_40 rfl (fun c40 => ?_) (fun c40 => ?_)
        · exfalso; omega
        refine R_iconst dX11_isAtRest_43 (?_ : RR _ _ _ _ 44 _ _ _ _)
        refine R_goto (t := 48) dX11_isAtRest_44 rfl (?_ : RR _ _ _ _ 48 _ _ _ _)
        exact R_ireturn dX11_isAtRest_48 (by first | exact Or.inl rfl | exact Or.inr rfl | exact ok_ite | omega) hQ
      · rw [if_neg (fun z => b z.2)] at hQ
        refine R_iload_n dX11_isAtRest_0 rfl (?_ : RR _ _ _ _ 1 _ _ _ _)
        refine R_iload_n dX11_isAtRest_1 rfl (?_ : RR _ _ _ _ 2 _ _ _ _)
        refine R_iadd dX11_isAtRest_2 (?_ : RR _ _ _ _ 3 _ _ _ _)
        refine R_iload_n dX11_isAtRest_3 rfl (?_ : RR _ _ _ _ 4 _ _ _ _)
        refine R_icmp_gt (t := 11) dX11_isAtRest_4 rfl (fun c4 => ?_) (fun c4 => ?_)
        rotate_left
        · exfalso; omega
        refine R_iconst dX11_isAtRest_11 (?_ : RR _ _ _ _ 12 _ _ _ _)
        refine R_istore_n dX11_isAtRest_12 (Nat.le_of_ble_eq_true rfl) (?_ : RR _ _ _ _ 13 [_, _, _, _] _ _ _)
        refine R_iload_n dX11_isAtRest_13 rfl (?_ : RR _ _ _ _ 14 _ _ _ _)
        refine R_if_eq (t := 21) dX11_isAtRest_14 rfl (fun c14 => ?_) (fun c14 => ?_)
        rotate_left
        · exfalso; omega
        refine R_iconst dX11_isAtRest_21 (?_ : RR _ _ _ _ 22 _ _ _ _)
        refine R_iload_n dX11_isAtRest_22 rfl (?_ : RR _ _ _ _ 23 _ _ _ _)
        refine R_iload_n dX11_isAtRest_23 rfl (?_ : RR _ _ _ _ 24 _ _ _ _)
        refine R_isub dX11_isAtRest_24 (?_ : RR _ _ _ _ 25 _ _ _ _)
        refine R_icmp_ne (t := 47) dX11_isAtRest_25 rfl (fun c25 => ?_) (fun c25 => ?_)
        · exfalso; omega
        refine R_iload_n dX11_isAtRest_28 rfl (?_ : RR _ _ _ _ 29 _ _ _ _)
        refine R_if_eq (t := 36) dX11_isAtRest_29 rfl (fun c29 => ?_) (fun c29 => ?_)
        rotate_left
        · exfalso; omega
        refine R_iconst dX11_isAtRest_36 (?_ : RR _ _ _ _ 37 _ _ _ _)
        refine R_iload_n dX11_isAtRest_37 rfl (?_ : RR _ _ _ _ 38 _ _ _ _)
        refine R_iload_n dX11_isAtRest_38 rfl (?_ : RR _ _ _ _ 39 _ _ _ _)
        refine R_isub dX11_isAtRest_39 (?_ : RR _ _ _ _ 40 _ _ _ _)
        refine R_icmp_ne (t := 47) dX11_isAtRest_40 rfl (fun c40 => ?_) (fun c40 => ?_)
        rotate_left
        · exfalso; omega
        refine R_iconst dX11_isAtRest_47 (?_ : RR _ _ _ _ 48 _ _ _ _)
        exact R_ireturn dX11_isAtRest_48 (by first | exact Or.inl rfl | exact Or.inr rfl | exact ok_ite | omega) hQ
    · rw [if_neg (fun z => a z.1)] at hQ
      refine R_iload_n dX11_isAtRest_0 rfl (?_ : RR _ _ _ _ 1 _ _ _ _)
      refine R_iload_n dX11_isAtRest_1 rfl (?_ : RR _ _ _ _ 2 _ _ _ _)
      refine R_iadd dX11_isAtRest_2 (?_ : RR _ _ _ _ 3 _ _ _ _)
      refine R_iload_n dX11_isAtRest_3 rfl (?_ : RR _ _ _ _ 4 _ _ _ _)
      refine R_icmp_gt (t := 11) dX11_isAtRest_4 rfl (fun c4 => ?_) (fun c4 => ?_)
      rotate_left
      · exfalso; omega
      refine R_iconst dX11_isAtRest_11 (?_ : RR _ _ _ _ 12 _ _ _ _)
      refine R_istore_n dX11_isAtRest_12 (Nat.le_of_ble_eq_true rfl) (?_ : RR _ _ _ _ 13 [_, _, _, _] _ _ _)
      refine R_iload_n dX11_isAtRest_13 rfl (?_ : RR _ _ _ _ 14 _ _ _ _)
      refine R_if_eq (t := 21) dX11_isAtRest_14 rfl (fun c14 => ?_) (fun c14 => ?_)
      rotate_left
      · exfalso; omega
      refine R_iconst dX11_isAtRest_21 (?_ : RR _ _ _ _ 22 _ _ _ _)
      refine R_iload_n dX11_isAtRest_22 rfl (?_ : RR _ _ _ _ 23 _ _ _ _)
      refine R_iload_n dX11_isAtRest_23 rfl (?_ : RR _ _ _ _ 24 _ _ _ _)
      refine R_isub dX11_isAtRest_24 (?_ : RR _ _ _ _ 25 _ _ _ _)
      refine R_icmp_ne (t := 47) dX11_isAtRest_25 rfl (fun c25 => ?_) (fun c25 => ?_)
      rotate_left
      · exfalso; omega
      refine R_iconst dX11_isAtRest_47 (?_ : RR _ _ _ _ 48 _ _ _ _)
      exact R_ireturn dX11_isAtRest_48 (by first | exact Or.inl rfl | exact Or.inr rfl | exact ok_ite | omega) hQ
theorem T_X12_gets (hx : 0 ≤ x ∧ x ≤ 20) (hy : 0 ≤ y ∧ y ≤ 20) (ht : 0 ≤ t ∧ t ≤ 20) : MT mX12_gets 0 [pI x, pI y, pI t] h (some (pI (if x + y ≤ t then x else 0))) h := by
  refine MT.of (fun Q hQ => (?_ : RR mX12_gets _ _ _ _ [pI x, pI y, pI t] _ _ _))
  by_cases q : x + y ≤ t
  · rw [if_pos q] at hQ
    refine R_iload_n dX12_gets_0 rfl (?_ : RR _ _ _ _ 1 _ _ _ _)
    refine R_iload_n dX12_gets_1 rfl (?_ : RR _ _ _ _ 2 _ _ _ _)
    refine R_iadd dX12_gets_2 (?_ : RR _ _ _ _ 3 _ _ _ _)
    refine R_iload_n dX12_gets_3 rfl (?_ : RR _ _ _ _ 4 _ _ _ _)
    refine R_icmp_gt (t := 11) dX12_gets_4 rfl (fun c4 => ?_) (fun c4 => ?_)
    · exfalso; omega
    refine R_iload_n dX12_gets_7 rfl (?_ : RR _ _ _ _ 8 _ _ _ _)
    refine R_goto (t := 12) dX12_gets_8 rfl (?_ : RR _ _ _ _ 12 _ _ _ _)
    exact R_ireturn dX12_gets_12 trivial hQ
  · rw [if_neg q] at hQ
    refine R_iload_n dX12_gets_0 rfl (?_ : RR _ _ _ _ 1 _ _ _ _)
    refine R_iload_n dX12_gets_1 rfl (?_ : RR _ _ _ _ 2 _ _ _ _)
    refine R_iadd dX12_gets_2 (?_ : RR _ _ _ _ 3 _ _ _ _)
    refine R_iload_n dX12_gets_3 rfl (?_ : RR _ _ _ _ 4 _ _ _ _)
    refine R_icmp_gt (t := 11) dX12_gets_4 rfl (fun c4 => ?_) (fun c4 => ?_)
    rotate_left
    · exfalso; omega
    refine R_iconst dX12_gets_11 (?_ : RR _ _ _ _ 12 _ _ _ _)
    exact R_ireturn dX12_gets_12 trivial hQ
theorem T_X12_isRest {t : Nat} (hx : 0 ≤ x ∧ x ≤ t) (hy : 0 ≤ y ∧ y ≤ t) (ht : t ≤ 20) : MT mX12_isRest 1 [pI x, pI y, pI t] h (some (pI (if (if x + y ≤ t then x else 0) = t - y then 1 else 0))) h := by
  refine MT.of (fun Q hQ => (?_ : RR mX12_isRest _ _ _ _ [pI x, pI y, pI t, pU, pU] _ _ _))
  obtain ⟨g, hg⟩ : ∃ g : Int, g = if x + y ≤ t then x else 0 := ⟨_, rfl⟩
  have hgb : 0 ≤ g ∧ g ≤ t ∧ g ≤ t - y := by rw [hg]; split <;> omega
  rw [← hg] at hQ
  have L : ∀ (j i : Nat), i + j = t + 1 → RR mX12_isRest 1 0 0 5 [pI x, pI y, pI t, pI (if min ((i : Int) - 1) (t - y) ≤ g then 1 else 0), pI i] [] (shp0, rf0, h) Q := by
    intro j
    induction j with
    | zero =>
      intro i hi
      by_cases q : g = t - y
      · rw [if_pos q] at hQ
        rw [if_pos (by omega)]
        refine R_iload dX12_isRest_5 rfl (?_ : RR _ _ _ _ 7 _ _ _ _)
        refine R_iload_n dX12_isRest_7 rfl (?_ : RR _ _ _ _ 8 _ _ _ _)
        refine R_icmp_gt (t := 43) dX12_isRest_8 rfl (fun c8 => ?_) (fun c8 => ?_)
        rotate_left
        · exfalso; omega
        refine R_iload_n dX12_isRest_43 rfl (?_ : RR _ _ _ _ 44 _ _ _ _)
        exact R_ireturn dX12_isRest_44 (by first | exact Or.inl rfl | exact Or.inr rfl | exact ok_ite | omega) hQ
      · rw [if_neg q] at hQ
        rw [if_neg (by omega)]
        refine R_iload dX12_isRest_5 rfl (?_ : RR _ _ _ _ 7 _ _ _ _)
        refine R_iload_n dX12_isRest_7 rfl (?_ : RR _ _ _ _ 8 _ _ _ _)
        refine R_icmp_gt (t := 43) dX12_isRest_8 rfl (fun c8 => ?_) (fun c8 => ?_)
        rotate_left
        · exfalso; omega
        refine R_iload_n dX12_isRest_43 rfl (?_ : RR _ _ _ _ 44 _ _ _ _)
        exact R_ireturn dX12_isRest_44 (by first | exact Or.inl rfl | exact Or.inr rfl | exact ok_ite | omega) hQ
    | succ j ih =>
      intro i hi
      have IH := ih (i + 1) (by omega)
      have hT := T_X12_gets (h := h) (x := i) (y := y) (t := t) (by omega) (by omega) (by omega)
      have hT2 := T_X12_gets (h := h) (x := x) (y := y) (t := t) (by omega) (by omega) (by omega)
      rw [← hg] at hT2
      obtain ⟨e, he⟩ : ∃ e : Int, e = if (i : Int) + y ≤ t then (i : Int) else 0 := ⟨_, rfl⟩
      have heb : 0 ≤ e ∧ e ≤ i := by rw [he]; split <;> omega
      rw [← he] at hT
      by_cases q : min ((i : Int) - 1) (t - y) ≤ g
      · rw [if_pos q]
        by_cases u : e ≤ g
        · rw [if_pos (by revert he; split <;> (intro he; omega))] at IH
          refine R_iload dX12_isRest_5 rfl (?_ : RR _ _ _ _ 7 _ _ _ _)
          refine R_iload_n dX12_isRest_7 rfl (?_ : RR _ _ _ _ 8 _ _ _ _)
          refine R_icmp_gt (t := 43) dX12_isRest_8 rfl (fun c8 => ?_) (fun c8 => ?_)
          · exfalso; omega
          refine R_iload_n dX12_isRest_11 rfl (?_ : RR _ _ _ _ 12 _ _ _ _)
          refine R_if_eq (t := 35) dX12_isRest_12 rfl (fun c12 => ?_) (fun c12 => ?_)
          · exfalso; omega
          refine R_iload dX12_isRest_15 rfl (?_ : RR _ _ _ _ 17 _ _ _ _)
          refine R_iload_n dX12_isRest_17 rfl (?_ : RR _ _ _ _ 18 _ _ _ _)
          refine R_iload_n dX12_isRest_18 rfl (?_ : RR _ _ _ _ 19 _ _ _ _)
          refine R_cSi3 dX12_isRest_19 msX12_gets mlX12_462 (by decide) (Nat.le_of_ble_eq_true rfl) (Nat.le_of_ble_eq_true rfl) (hT) (?_ : RR _ _ _ _ 22 _ _ _ _)
          refine R_iload_n dX12_isRest_22 rfl (?_ : RR _ _ _ _ 23 _ _ _ _)
          refine R_iload_n dX12_isRest_23 rfl (?_ : RR _ _ _ _ 24 _ _ _ _)
          refine R_iload_n dX12_isRest_24 rfl (?_ : RR _ _ _ _ 25 _ _ _ _)
          refine R_cSi3 dX12_isRest_25 msX12_gets mlX12_462 (by decide) (Nat.le_of_ble_eq_true rfl) (Nat.le_of_ble_eq_true rfl) (hT2) (?_ : RR _ _ _ _ 28 _ _ _ _)
          refine R_icmp_gt (t := 35) dX12_isRest_28 rfl (fun c28 => ?_) (fun c28 => ?_)
          · exfalso; omega
          refine R_iconst dX12_isRest_31 (?_ : RR _ _ _ _ 32 _ _ _ _)
          refine R_goto (t := 36) dX12_isRest_32 rfl (?_ : RR _ _ _ _ 36 _ _ _ _)
          refine R_istore_n dX12_isRest_36 (Nat.le_of_ble_eq_true rfl) (?_ : RR _ _ _ _ 37 [_, _, _, _, _] _ _ _)
          refine R_iinc dX12_isRest_37 rfl (Nat.le_of_ble_eq_true rfl) (?_ : RR _ _ _ _ 40 [_, _, _, _, _] _ _ _)
          refine R_goto (t := 5) dX12_isRest_40 rfl (?_ : RR _ _ _ _ 5 _ _ _ _)
          exact IH
        · rw [if_neg (by revert he; split <;> (intro he; omega))] at IH
          refine R_iload dX12_isRest_5 rfl (?_ : RR _ _ _ _ 7 _ _ _ _)
          refine R_iload_n dX12_isRest_7 rfl (?_ : RR _ _ _ _ 8 _ _ _ _)
          refine R_icmp_gt (t := 43) dX12_isRest_8 rfl (fun c8 => ?_) (fun c8 => ?_)
          · exfalso; omega
          refine R_iload_n dX12_isRest_11 rfl (?_ : RR _ _ _ _ 12 _ _ _ _)
          refine R_if_eq (t := 35) dX12_isRest_12 rfl (fun c12 => ?_) (fun c12 => ?_)
          · exfalso; omega
          refine R_iload dX12_isRest_15 rfl (?_ : RR _ _ _ _ 17 _ _ _ _)
          refine R_iload_n dX12_isRest_17 rfl (?_ : RR _ _ _ _ 18 _ _ _ _)
          refine R_iload_n dX12_isRest_18 rfl (?_ : RR _ _ _ _ 19 _ _ _ _)
          refine R_cSi3 dX12_isRest_19 msX12_gets mlX12_462 (by decide) (Nat.le_of_ble_eq_true rfl) (Nat.le_of_ble_eq_true rfl) (hT) (?_ : RR _ _ _ _ 22 _ _ _ _)
          refine R_iload_n dX12_isRest_22 rfl (?_ : RR _ _ _ _ 23 _ _ _ _)
          refine R_iload_n dX12_isRest_23 rfl (?_ : RR _ _ _ _ 24 _ _ _ _)
          refine R_iload_n dX12_isRest_24 rfl (?_ : RR _ _ _ _ 25 _ _ _ _)
          refine R_cSi3 dX12_isRest_25 msX12_gets mlX12_462 (by decide) (Nat.le_of_ble_eq_true rfl) (Nat.le_of_ble_eq_true rfl) (hT2) (?_ : RR _ _ _ _ 28 _ _ _ _)
          refine R_icmp_gt (t := 35) dX12_isRest_28 rfl (fun c28 => ?_) (fun c28 => ?_)
          rotate_left
          · exfalso; omega
          refine R_iconst dX12_isRest_35 (?_ : RR _ _ _ _ 36 _ _ _ _)
          refine R_istore_n dX12_isRest_36 (Nat.le_of_ble_eq_true rfl) (?_ : RR _ _ _ _ 37 [_, _, _, _, _] _ _ _)
          refine R_iinc dX12_isRest_37 rfl (Nat.le_of_ble_eq_true rfl) (?_ : RR _ _ _ _ 40 [_, _, _, _, _] _ _ _)
          refine R_goto (t := 5) dX12_isRest_40 rfl (?_ : RR _ _ _ _ 5 _ _ _ _)
          exact IH
      · rw [if_neg q]
        rw [if_neg (by omega)] at IH
        refine R_iload dX12_isRest_5 rfl (?_ : RR _ _ _ _ 7 _ _ _ _)
        refine R_iload_n dX12_isRest_7 rfl (?_ : RR _ _ _ _ 8 _ _ _ _)
        refine R_icmp_gt (t := 43) dX12_isRest_8 rfl (fun c8 => ?_) (fun c8 => ?_)
        · exfalso; omega
        refine R_iload_n dX12_isRest_11 rfl (?_ : RR _ _ _ _ 12 _ _ _ _)
        refine R_if_eq (t := 35) dX12_isRest_12 rfl (fun c12 => ?_) (fun c12 => ?_)
        rotate_left
        · exfalso; omega
        refine R_iconst dX12_isRest_35 (?_ : RR _ _ _ _ 36 _ _ _ _)
        refine R_istore_n dX12_isRest_36 (Nat.le_of_ble_eq_true rfl) (?_ : RR _ _ _ _ 37 [_, _, _, _, _] _ _ _)
        refine R_iinc dX12_isRest_37 rfl (Nat.le_of_ble_eq_true rfl) (?_ : RR _ _ _ _ 40 [_, _, _, _, _] _ _ _)
        refine R_goto (t := 5) dX12_isRest_40 rfl (?_ : RR _ _ _ _ 5 _ _ _ _)
        exact IH
  have L0 := L (t + 1) 0 (by omega)
  rw [if_pos (by omega)] at L0
  refine R_iconst dX12_isRest_0 (?_ : RR _ _ _ _ 1 _ _ _ _)
  refine R_istore_n dX12_isRest_1 (Nat.le_of_ble_eq_true rfl) (?_ : RR _ _ _ _ 2 [_, _, _, _, _] _ _ _)
  refine R_iconst dX12_isRest_2 (?_ : RR _ _ _ _ 3 _ _ _ _)
  refine R_istore dX12_isRest_3 (Nat.le_of_ble_eq_true rfl) (?_ : RR _ _ _ _ 5 [_, _, _, _, _] _ _ _)
  exact L0
/-- pairs so far: how many, and the first (its second number first) -/
def bgC (t x : Int) (y : Nat) (s : Int × List Int) : Int × List Int := if rst x y t then (s.1 + 1, if s.1 = 0 then [(y : Int), x] else s.2) else s
def bgP (t : Nat) (x : Nat) (s : Int × List Int) : Int × List Int := it (bgC t x) s (t + 1)
def bgA (t : Nat) : Int × List Int := it (bgP t) (0, []) (t + 1)
theorem bgA_1 : ∀ t : Nat, t < 21 → 1 ≤ t → 1 ≤ (bgA t).1 := by decide +kernel
abbrev bgB (n : Int) (s : Int × List Int) : Prop := 0 ≤ s.1 ∧ s.1 ≤ n ∧ s.2.length ≤ 2 ∧ (s.1 = 0 → s.2 = [])
theorem bgC_b {t x n : Int} {s : Int × List Int} (hs : bgB n s) : ∀ y : Nat, bgB (n + y) (it (bgC t x) s y)
  | 0 => by
    show bgB (n + 0) s
    rw [Int.add_zero]
    exact hs
  | y + 1 => by
    have := bgC_b (t := t) (x := x) hs y
    show bgB (n + ((y + 1 : Nat) : Int)) (bgC t x y (it (bgC t x) s y))
    generalize it (bgC t x) s y = u at this ⊢
    obtain ⟨a1, a2, a3, a4⟩ := this
    unfold bgC
    split
    · refine ⟨by show 0 ≤ u.1 + 1; omega, by show u.1 + 1 ≤ _; omega, ?_, fun z => ?_⟩
      · show (if u.1 = 0 then [(y : Int), x] else u.2).length ≤ 2
        split
        · exact Nat.le_refl _
        · exact a3
      · have z : u.1 + 1 = 0 := z
        omega
    · exact ⟨a1, by omega, a3, a4⟩
theorem bgP_b {t : Nat} {s : Int × List Int} (hs : bgB 0 s) : ∀ x : Nat, bgB (x * (t + 1 : Nat)) (it (bgP t) s x)
  | 0 => by
    show bgB ((0 : Nat) * (t + 1 : Nat)) s
    rw [show ((0 : Nat) : Int) * ((t + 1 : Nat) : Int) = 0 from Int.zero_mul _]
    exact hs
  | x + 1 => by
    have := bgC_b (t := t) (x := x) (bgP_b (t := t) hs x) (t + 1)
    rw [show ((x + 1 : Nat) : Int) * ((t + 1 : Nat) : Int) = (x : Int) * ((t + 1 : Nat) : Int) + ((t + 1 : Nat) : Int) by rw [show ((x + 1 : Nat) : Int) = (x : Int) + 1 from rfl, Int.add_mul, Int.one_mul]]
    exact this
/-- the class's numbers at such a point -/
def cBg (h : Nat → Int → Int) (s : Int × List Int) : Nat → Int → Int := if s.1 = 0 then h else tlR h s.2
theorem A_bargain (hs : SRx k h sem H np nc len) (hv : r32 v) : AG mX11_bargain mX12_bargain 1 2 [pI v] k h := by
  by_cases q : 1 ≤ v ∧ v ≤ 20
  · obtain ⟨t, rfl⟩ := Int.eq_ofNat_of_zero_le (show 0 ≤ v by omega)
    have hF1 := bgA_1 t (by omega) (by omega)
    have hb0 : bgB 0 ((0, []) : Int × List Int) := ⟨by show (0 : Int) ≤ 0; omega, by show (0 : Int) ≤ 0; omega, by show 0 ≤ 2; omega, fun _ => rfl⟩
    have bP := bgP_b (t := t) hb0
    have hlin : ∀ x : Nat, x ≤ t + 1 → (x : Int) * ((t + 1 : Nat) : Int) ≤ 441 := fun x hx => by
      have h1 : x * (t + 1) ≤ 21 * 21 := Nat.mul_le_mul (by omega) (by omega)
      have h2 : ((x * (t + 1) : Nat) : Int) ≤ ((21 * 21 : Nat) : Int) := Int.ofNat_le.mpr h1
      rw [Int.natCast_mul] at h2
      exact h2
    have hFl : (bgA t).2.length ≤ 2 := (bP (t + 1)).2.2.1
    obtain ⟨F, hFe⟩ : ∃ F, F = bgA t := ⟨_, rfl⟩
    rw [← hFe] at hF1 hFl
    refine A_q hs (z := F.1) (o := some F.2.reverse) ?_ (fun h3 e => ?_) (fun L e => by injection e with e; subst e; rw [List.length_reverse]; omega)
    · show RR _ _ _ _ _ [pR 0, pI t, pU, pU, pU] _ _ _
      have L1 : ∀ (j x : Nat) (w4 : PV), x + j = t + 1 → RR mX11_bargain 1 0 0 17 [pR 0, pI t, pI (it (bgP t) (0, []) x).1, pI x, w4] [] (shp0, rf0, cBg h (it (bgP t) (0, []) x)) (cQ h F.1 (some F.2.reverse)) := by
        intro j
        induction j with
        | zero =>
          intro x w4 hx
          obtain rfl : x = t + 1 := by omega
          rw [show it (bgP t) (0, []) (t + 1) = F by rw [hFe]; rfl]
          unfold cBg
          rw [if_neg (by omega)]
          refine R_iload_n dX11_bargain_17 rfl (?_ : RR _ _ _ _ 18 _ _ _ _)
          refine R_iload_n dX11_bargain_18 rfl (?_ : RR _ _ _ _ 19 _ _ _ _)
          refine R_icmp_gt (t := 86) dX11_bargain_19 rfl (fun c19 => ?_) (fun c19 => ?_)
          rotate_left
          · exfalso; omega
          refine R_iload_n dX11_bargain_86 rfl (?_ : RR _ _ _ _ 87 _ _ _ _)
          exact R_ireturn dX11_bargain_87 trivial (cQ_tl cqF_rf rfl)
        | succ j ih =>
          intro x w4 hx
          have bp := bP x
          have hl := hlin x (by omega)
          have bC := bgC_b (t := t) (x := x) bp
          have eS : it (bgP t) (0, []) (x + 1) = it (bgC t x) (it (bgP t) (0, []) x) (t + 1) := rfl
          generalize it (bgP t) (0, []) x = S at bp bC eS ⊢
          have L2 : ∀ (j2 y : Nat), y + j2 = t + 1 → RR mX11_bargain 1 0 0 25 [pR 0, pI t, pI (it (bgC t x) S y).1, pI x, pI y] [] (shp0, rf0, cBg h (it (bgC t x) S y)) (cQ h F.1 (some F.2.reverse)) := by
            intro j2
            induction j2 with
            | zero =>
              intro y hy
              obtain rfl : y = t + 1 := by omega
              have IH := fun w4 => ih (x + 1) w4 (by omega)
              rw [eS] at IH
              refine R_iload dX11_bargain_25 rfl (?_ : RR _ _ _ _ 27 _ _ _ _)
              refine R_iload_n dX11_bargain_27 rfl (?_ : RR _ _ _ _ 28 _ _ _ _)
              refine R_icmp_gt (t := 80) dX11_bargain_28 rfl (fun c28 => ?_) (fun c28 => ?_)
              rotate_left
              · exfalso; omega
              refine R_iinc dX11_bargain_80 rfl (Nat.le_of_ble_eq_true rfl) (?_ : RR _ _ _ _ 83 [_, _, _, _, _] _ _ _)
              refine R_goto (t := 17) dX11_bargain_83 rfl (?_ : RR _ _ _ _ 17 _ _ _ _)
              exact IH _
            | succ j2 ih2 =>
              intro y hy
              have bc := bC y
              have e9 : it (bgC t x) S (y + 1) = bgC t x y (it (bgC t x) S y) := rfl
              have IH := ih2 (y + 1) (by omega)
              rw [e9] at IH
              generalize it (bgC t x) S y = s at bc IH ⊢
              unfold bgC at IH
              have hT := T_X11_isAtRest (h := cBg h s) (x := x) (y := y) (t := t) (by omega) (by omega) (by omega)
              by_cases u : rst x y t
              · rw [if_pos u] at IH hT
                by_cases z : s.1 = 0
                · rw [if_pos z, z] at IH
                  have IH : RR mX11_bargain 1 0 0 25 [pR 0, pI t, pI (0 + 1), pI x, pI (((y + 1 : Nat)) : Int)] [] (shp0, rf0, tlR h [(y : Int), x]) (cQ h F.1 (some F.2.reverse)) := by
                    unfold cBg at IH
                    rw [if_neg (show ¬ ((0 : Int) + 1 = 0) by omega)] at IH
                    exact IH
                  have ec : cBg h s = h := by unfold cBg; rw [if_pos z]
                  rw [ec] at hT ⊢
                  rw [z]
                  refine R_iload dX11_bargain_25 rfl (?_ : RR _ _ _ _ 27 _ _ _ _)
                  refine R_iload_n dX11_bargain_27 rfl (?_ : RR _ _ _ _ 28 _ _ _ _)
                  refine R_icmp_gt (t := 80) dX11_bargain_28 rfl (fun c28 => ?_) (fun c28 => ?_)
                  · exfalso; omega
                  refine R_iload_n dX11_bargain_31 rfl (?_ : RR _ _ _ _ 32 _ _ _ _)
                  refine R_iload dX11_bargain_32 rfl (?_ : RR _ _ _ _ 34 _ _ _ _)
                  refine R_iload_n dX11_bargain_34 rfl (?_ : RR _ _ _ _ 35 _ _ _ _)
                  refine R_cSi3 dX11_bargain_35 msX11_isAtRest mlX11_397 (by decide) (Nat.le_of_ble_eq_true rfl) (Nat.le_of_ble_eq_true rfl) (hT) (?_ : RR _ _ _ _ 38 _ _ _ _)
                  refine R_if_eq (t := 74) dX11_bargain_38 rfl (fun c38 => ?_) (fun c38 => ?_)
                  · exfalso; omega
                  refine R_iload_n dX11_bargain_41 rfl (?_ : RR _ _ _ _ 42 _ _ _ _)
                  refine R_if_ne (t := 71) dX11_bargain_42 rfl (fun c42 => ?_) (fun c42 => ?_)
                  · exfalso; omega
                  refine R_aload_n dX11_bargain_45 rfl (?_ : RR _ _ _ _ 46 _ _ _ _)
                  refine R_getr dX11_bargain_46 flX11_87 cok_11 rfl (by decide) (?_ : RR _ _ _ _ 49 _ _ _ _)
                  refine R_cVv0 dX11_bargain_49 mvX3_clear mlX11_239 (by decide) (by decide) (Nat.le_of_ble_eq_true rfl) (Nat.le_of_ble_eq_true rfl) (T_tlc) (?_ : RR _ _ _ _ 52 _ _ _ _)
                  refine R_aload_n dX11_bargain_52 rfl (?_ : RR _ _ _ _ 53 _ _ _ _)
                  refine R_getr dX11_bargain_53 flX11_87 cok_11 rfl (by decide) (?_ : RR _ _ _ _ 56 _ _ _ _)
                  refine R_iload_n dX11_bargain_56 rfl (?_ : RR _ _ _ _ 57 _ _ _ _)
                  refine R_i2l dX11_bargain_57 (by first | assumption | omega) (?_ : RR _ _ _ _ 58 _ _ _ _)
                  refine R_cVv1 dX11_bargain_58 mvX3_add mlX11_243 (by decide) (by decide) (Nat.le_of_ble_eq_true rfl) (Nat.le_of_ble_eq_true rfl) (T_tla (by simp) (by omega)) (?_ : RR _ _ _ _ 61 _ _ _ _)
                  refine R_aload_n dX11_bargain_61 rfl (?_ : RR _ _ _ _ 62 _ _ _ _)
                  refine R_getr dX11_bargain_62 flX11_87 cok_11 rfl (by decide) (?_ : RR _ _ _ _ 65 _ _ _ _)
                  refine R_iload dX11_bargain_65 rfl (?_ : RR _ _ _ _ 67 _ _ _ _)
                  refine R_i2l dX11_bargain_67 (by first | assumption | omega) (?_ : RR _ _ _ _ 68 _ _ _ _)
                  refine R_cVv1 dX11_bargain_68 mvX3_add mlX11_243 (by decide) (by decide) (Nat.le_of_ble_eq_true rfl) (Nat.le_of_ble_eq_true rfl) (T_tla (by simp) (by omega)) (?_ : RR _ _ _ _ 71 _ _ _ _)
                  refine R_iinc dX11_bargain_71 rfl (Nat.le_of_ble_eq_true rfl) (?_ : RR _ _ _ _ 74 [_, _, _, _, _] _ _ _)
                  refine R_iinc dX11_bargain_74 rfl (Nat.le_of_ble_eq_true rfl) (?_ : RR _ _ _ _ 77 [_, _, _, _, _] _ _ _)
                  refine R_goto (t := 25) dX11_bargain_77 rfl (?_ : RR _ _ _ _ 25 _ _ _ _)
                  exact IH
                · rw [if_neg z] at IH
                  have IH : RR mX11_bargain 1 0 0 25 [pR 0, pI t, pI (s.1 + 1), pI x, pI (((y + 1 : Nat)) : Int)] [] (shp0, rf0, cBg h s) (cQ h F.1 (some F.2.reverse)) := by
                    unfold cBg at IH ⊢
                    rw [if_neg (show ¬ (s.1 + 1 = 0) by omega)] at IH
                    rw [if_neg z]
                    exact IH
                  refine R_iload dX11_bargain_25 rfl (?_ : RR _ _ _ _ 27 _ _ _ _)
                  refine R_iload_n dX11_bargain_27 rfl (?_ : RR _ _ _ _ 28 _ _ _ _)
                  refine R_icmp_gt (t := 80) dX11_bargain_28 rfl (fun c28 => ?_) (fun c28 => ?_)
                  · exfalso; omega
                  refine R_iload_n dX11_bargain_31 rfl (?_ : RR _ _ _ _ 32 _ _ _ _)
                  refine R_iload dX11_bargain_32 rfl (?_ : RR _ _ _ _ 34 _ _ _ _)
                  refine R_iload_n dX11_bargain_34 rfl (?_ : RR _ _ _ _ 35 _ _ _ _)
                  refine R_cSi3 dX11_bargain_35 msX11_isAtRest mlX11_397 (by decide) (Nat.le_of_ble_eq_true rfl) (Nat.le_of_ble_eq_true rfl) (hT) (?_ : RR _ _ _ _ 38 _ _ _ _)
                  refine R_if_eq (t := 74) dX11_bargain_38 rfl (fun c38 => ?_) (fun c38 => ?_)
                  · exfalso; omega
                  refine R_iload_n dX11_bargain_41 rfl (?_ : RR _ _ _ _ 42 _ _ _ _)
                  refine R_if_ne (t := 71) dX11_bargain_42 rfl (fun c42 => ?_) (fun c42 => ?_)
                  rotate_left
                  · exfalso; omega
                  refine R_iinc dX11_bargain_71 rfl (Nat.le_of_ble_eq_true rfl) (?_ : RR _ _ _ _ 74 [_, _, _, _, _] _ _ _)
                  refine R_iinc dX11_bargain_74 rfl (Nat.le_of_ble_eq_true rfl) (?_ : RR _ _ _ _ 77 [_, _, _, _, _] _ _ _)
                  refine R_goto (t := 25) dX11_bargain_77 rfl (?_ : RR _ _ _ _ 25 _ _ _ _)
                  exact IH
              · rw [if_neg u] at IH hT
                refine R_iload dX11_bargain_25 rfl (?_ : RR _ _ _ _ 27 _ _ _ _)
                refine R_iload_n dX11_bargain_27 rfl (?_ : RR _ _ _ _ 28 _ _ _ _)
                refine R_icmp_gt (t := 80) dX11_bargain_28 rfl (fun c28 => ?_) (fun c28 => ?_)
                · exfalso; omega
                refine R_iload_n dX11_bargain_31 rfl (?_ : RR _ _ _ _ 32 _ _ _ _)
                refine R_iload dX11_bargain_32 rfl (?_ : RR _ _ _ _ 34 _ _ _ _)
                refine R_iload_n dX11_bargain_34 rfl (?_ : RR _ _ _ _ 35 _ _ _ _)
                refine R_cSi3 dX11_bargain_35 msX11_isAtRest mlX11_397 (by decide) (Nat.le_of_ble_eq_true rfl) (Nat.le_of_ble_eq_true rfl) (hT) (?_ : RR _ _ _ _ 38 _ _ _ _)
                refine R_if_eq (t := 74) dX11_bargain_38 rfl (fun c38 => ?_) (fun c38 => ?_)
                rotate_left
                · exfalso; omega
                refine R_iinc dX11_bargain_74 rfl (Nat.le_of_ble_eq_true rfl) (?_ : RR _ _ _ _ 77 [_, _, _, _, _] _ _ _)
                refine R_goto (t := 25) dX11_bargain_77 rfl (?_ : RR _ _ _ _ 25 _ _ _ _)
                exact IH
          refine R_iload_n dX11_bargain_17 rfl (?_ : RR _ _ _ _ 18 _ _ _ _)
          refine R_iload_n dX11_bargain_18 rfl (?_ : RR _ _ _ _ 19 _ _ _ _)
          refine R_icmp_gt (t := 86) dX11_bargain_19 rfl (fun c19 => ?_) (fun c19 => ?_)
          · exfalso; omega
          refine R_iconst dX11_bargain_22 (?_ : RR _ _ _ _ 23 _ _ _ _)
          refine R_istore dX11_bargain_23 (Nat.le_of_ble_eq_true rfl) (?_ : RR _ _ _ _ 25 [_, _, _, _, _] _ _ _)
          exact L2 (t + 1) 0 (by omega)
      have L0 := fun w4 => L1 (t + 1) 0 w4 (by omega)
      have L0 : ∀ w4 : PV, RR mX11_bargain 1 0 0 17 [pR 0, pI t, pI 0, pI 0, w4] [] (shp0, rf0, h) (cQ h F.1 (some F.2.reverse)) := fun w4 => L0 w4
      refine R_iload_n dX11_bargain_0 rfl (?_ : RR _ _ _ _ 1 _ _ _ _)
      refine R_iconst dX11_bargain_1 (?_ : RR _ _ _ _ 2 _ _ _ _)
      refine R_icmp_lt (t := 11) dX11_bargain_2 rfl (fun c2 => ?_) (fun c2 => ?_)
      · exfalso; omega
      refine R_iload_n dX11_bargain_5 rfl (?_ : RR _ _ _ _ 6 _ _ _ _)
      refine R_bipush dX11_bargain_6 rfl (?_ : RR _ _ _ _ 8 _ _ _ _)
      refine R_icmp_le (t := 13) dX11_bargain_8 rfl (fun c8 => ?_) (fun c8 => ?_)
      rotate_left
      · exfalso; omega
      refine R_iconst dX11_bargain_13 (?_ : RR _ _ _ _ 14 _ _ _ _)
      refine R_istore_n dX11_bargain_14 (Nat.le_of_ble_eq_true rfl) (?_ : RR _ _ _ _ 15 [_, _, _, _, _] _ _ _)
      refine R_iconst dX11_bargain_15 (?_ : RR _ _ _ _ 16 _ _ _ _)
      refine R_istore_n dX11_bargain_16 (Nat.le_of_ble_eq_true rfl) (?_ : RR _ _ _ _ 17 [_, _, _, _, _] _ _ _)
      exact L0 _
    · show RR _ _ _ _ _ [pR 147, pI t, pU, pU, pU] _ _ _
      obtain ⟨h4, h4e⟩ : ∃ h4, h4 = rup h3 147 (fup (h3 147) 0 0) := ⟨_, rfl⟩
      have hmq : mqF h3 h4 := by
        rw [h4e]
        exact ⟨fun a q => by rw [rup_n (by omega)], fun j q => by rw [rup_s, fup_n (by omega)], fun q => by rw [rup_s, fup_n (by omega)]; exact q, fun j q => by rw [rup_n (by omega)]⟩
      have L1 : ∀ (j x : Nat) (w4 : PV), x + j = t + 1 → RR mX12_bargain 2 0 0 28 [pR 147, pI t, pI (it (bgP t) (0, []) x).1, pI x, w4] [] (shp0, rf0, tmR h4 (it (bgP t) (0, []) x).2) (mQ h3 F.1 (some F.2.reverse)) := by
        intro j
        induction j with
        | zero =>
          intro x w4 hx
          obtain rfl : x = t + 1 := by omega
          rw [show it (bgP t) (0, []) (t + 1) = F by rw [hFe]; rfl]
          refine R_iload_n dX12_bargain_28 rfl (?_ : RR _ _ _ _ 29 _ _ _ _)
          refine R_iload_n dX12_bargain_29 rfl (?_ : RR _ _ _ _ 30 _ _ _ _)
          refine R_icmp_gt (t := 94) dX12_bargain_30 rfl (fun c30 => ?_) (fun c30 => ?_)
          rotate_left
          · exfalso; omega
          refine R_iload_n dX12_bargain_94 rfl (?_ : RR _ _ _ _ 95 _ _ _ _)
          exact R_ireturn dX12_bargain_95 trivial (mQ_tm hmq rfl)
        | succ j ih =>
          intro x w4 hx
          have bp := bP x
          have hl := hlin x (by omega)
          have bC := bgC_b (t := t) (x := x) bp
          have eS : it (bgP t) (0, []) (x + 1) = it (bgC t x) (it (bgP t) (0, []) x) (t + 1) := rfl
          generalize it (bgP t) (0, []) x = S at bp bC eS ⊢
          have L2 : ∀ (j2 y : Nat), y + j2 = t + 1 → RR mX12_bargain 2 0 0 36 [pR 147, pI t, pI (it (bgC t x) S y).1, pI x, pI y] [] (shp0, rf0, tmR h4 (it (bgC t x) S y).2) (mQ h3 F.1 (some F.2.reverse)) := by
            intro j2
            induction j2 with
            | zero =>
              intro y hy
              obtain rfl : y = t + 1 := by omega
              have IH := fun w4 => ih (x + 1) w4 (by omega)
              rw [eS] at IH
              refine R_iload dX12_bargain_36 rfl (?_ : RR _ _ _ _ 38 _ _ _ _)
              refine R_iload_n dX12_bargain_38 rfl (?_ : RR _ _ _ _ 39 _ _ _ _)
              refine R_icmp_gt (t := 88) dX12_bargain_39 rfl (fun c39 => ?_) (fun c39 => ?_)
              rotate_left
              · exfalso; omega
              refine R_iinc dX12_bargain_88 rfl (Nat.le_of_ble_eq_true rfl) (?_ : RR _ _ _ _ 91 [_, _, _, _, _] _ _ _)
              refine R_goto (t := 28) dX12_bargain_91 rfl (?_ : RR _ _ _ _ 28 _ _ _ _)
              exact IH _
            | succ j2 ih2 =>
              intro y hy
              have bc := bC y
              have e9 : it (bgC t x) S (y + 1) = bgC t x y (it (bgC t x) S y) := rfl
              have IH := ih2 (y + 1) (by omega)
              rw [e9] at IH
              generalize it (bgC t x) S y = s at bc IH ⊢
              unfold bgC at IH
              have hT := T_X12_isRest (h := tmR h4 s.2) (x := x) (y := y) (t := t) (by omega) (by omega) (by omega)
              have hT2 := T_X12_isRest (h := tmR h4 s.2) (x := y) (y := x) (t := t) (by omega) (by omega) (by omega)
              rw [show (y : Int) + x = x + y by omega] at hT2
              by_cases u : rst x y t
              · rw [if_pos u] at IH
                rw [if_pos u.1] at hT
                rw [if_pos u.2] at hT2
                by_cases z : s.1 = 0
                · rw [if_pos z, z] at IH
                  rw [bc.2.2.2 z] at hT hT2 ⊢
                  rw [z]
                  refine R_iload dX12_bargain_36 rfl (?_ : RR _ _ _ _ 38 _ _ _ _)
                  refine R_iload_n dX12_bargain_38 rfl (?_ : RR _ _ _ _ 39 _ _ _ _)
                  refine R_icmp_gt (t := 88) dX12_bargain_39 rfl (fun c39 => ?_) (fun c39 => ?_)
                  · exfalso; omega
                  refine R_iload_n dX12_bargain_42 rfl (?_ : RR _ _ _ _ 43 _ _ _ _)
                  refine R_iload dX12_bargain_43 rfl (?_ : RR _ _ _ _ 45 _ _ _ _)
                  refine R_iload_n dX12_bargain_45 rfl (?_ : RR _ _ _ _ 46 _ _ _ _)
                  refine R_cSi3 dX12_bargain_46 msX12_isRest mlX12_467 (by decide) (Nat.le_of_ble_eq_true rfl) (Nat.le_of_ble_eq_true rfl) (hT) (?_ : RR _ _ _ _ 49 _ _ _ _)
                  refine R_if_eq (t := 82) dX12_bargain_49 rfl (fun c49 => ?_) (fun c49 => ?_)
                  · exfalso; omega
                  refine R_iload dX12_bargain_52 rfl (?_ : RR _ _ _ _ 54 _ _ _ _)
                  refine R_iload_n dX12_bargain_54 rfl (?_ : RR _ _ _ _ 55 _ _ _ _)
                  refine R_iload_n dX12_bargain_55 rfl (?_ : RR _ _ _ _ 56 _ _ _ _)
                  refine R_cSi3 dX12_bargain_56 msX12_isRest mlX12_467 (by decide) (Nat.le_of_ble_eq_true rfl) (Nat.le_of_ble_eq_true rfl) (hT2) (?_ : RR _ _ _ _ 59 _ _ _ _)
                  refine R_if_eq (t := 82) dX12_bargain_59 rfl (fun c59 => ?_) (fun c59 => ?_)
                  · exfalso; omega
                  refine R_iload_n dX12_bargain_62 rfl (?_ : RR _ _ _ _ 63 _ _ _ _)
                  refine R_if_ne (t := 79) dX12_bargain_63 rfl (fun c63 => ?_) (fun c63 => ?_)
                  · exfalso; omega
                  refine R_aload_n dX12_bargain_66 rfl (?_ : RR _ _ _ _ 67 _ _ _ _)
                  refine R_iload_n dX12_bargain_67 rfl (?_ : RR _ _ _ _ 68 _ _ _ _)
                  refine R_i2l dX12_bargain_68 (by first | assumption | omega) (?_ : RR _ _ _ _ 69 _ _ _ _)
                  refine R_cVv1 dX12_bargain_69 mvX12_enters mlX12_116 (by decide) (by decide) (Nat.le_of_ble_eq_true rfl) (Nat.le_of_ble_eq_true rfl) (T_tma (by simp) (by omega)) (?_ : RR _ _ _ _ 72 _ _ _ _)
                  refine R_aload_n dX12_bargain_72 rfl (?_ : RR _ _ _ _ 73 _ _ _ _)
                  refine R_iload dX12_bargain_73 rfl (?_ : RR _ _ _ _ 75 _ _ _ _)
                  refine R_i2l dX12_bargain_75 (by first | assumption | omega) (?_ : RR _ _ _ _ 76 _ _ _ _)
                  refine R_cVv1 dX12_bargain_76 mvX12_enters mlX12_116 (by decide) (by decide) (Nat.le_of_ble_eq_true rfl) (Nat.le_of_ble_eq_true rfl) (T_tma (by simp) (by omega)) (?_ : RR _ _ _ _ 79 _ _ _ _)
                  refine R_iinc dX12_bargain_79 rfl (Nat.le_of_ble_eq_true rfl) (?_ : RR _ _ _ _ 82 [_, _, _, _, _] _ _ _)
                  refine R_iinc dX12_bargain_82 rfl (Nat.le_of_ble_eq_true rfl) (?_ : RR _ _ _ _ 85 [_, _, _, _, _] _ _ _)
                  refine R_goto (t := 36) dX12_bargain_85 rfl (?_ : RR _ _ _ _ 36 _ _ _ _)
                  exact IH
                · rw [if_neg z] at IH
                  refine R_iload dX12_bargain_36 rfl (?_ : RR _ _ _ _ 38 _ _ _ _)
                  refine R_iload_n dX12_bargain_38 rfl (?_ : RR _ _ _ _ 39 _ _ _ _)
                  refine R_icmp_gt (t := 88) dX12_bargain_39 rfl (fun c39 => ?_) (fun c39 => ?_)
                  · exfalso; omega
                  refine R_iload_n dX12_bargain_42 rfl (?_ : RR _ _ _ _ 43 _ _ _ _)
                  refine R_iload dX12_bargain_43 rfl (?_ : RR _ _ _ _ 45 _ _ _ _)
                  refine R_iload_n dX12_bargain_45 rfl (?_ : RR _ _ _ _ 46 _ _ _ _)
                  refine R_cSi3 dX12_bargain_46 msX12_isRest mlX12_467 (by decide) (Nat.le_of_ble_eq_true rfl) (Nat.le_of_ble_eq_true rfl) (hT) (?_ : RR _ _ _ _ 49 _ _ _ _)
                  refine R_if_eq (t := 82) dX12_bargain_49 rfl (fun c49 => ?_) (fun c49 => ?_)
                  · exfalso; omega
                  refine R_iload dX12_bargain_52 rfl (?_ : RR _ _ _ _ 54 _ _ _ _)
                  refine R_iload_n dX12_bargain_54 rfl (?_ : RR _ _ _ _ 55 _ _ _ _)
                  refine R_iload_n dX12_bargain_55 rfl (?_ : RR _ _ _ _ 56 _ _ _ _)
                  refine R_cSi3 dX12_bargain_56 msX12_isRest mlX12_467 (by decide) (Nat.le_of_ble_eq_true rfl) (Nat.le_of_ble_eq_true rfl) (hT2) (?_ : RR _ _ _ _ 59 _ _ _ _)
                  refine R_if_eq (t := 82) dX12_bargain_59 rfl (fun c59 => ?_) (fun c59 => ?_)
                  · exfalso; omega
                  refine R_iload_n dX12_bargain_62 rfl (?_ : RR _ _ _ _ 63 _ _ _ _)
                  refine R_if_ne (t := 79) dX12_bargain_63 rfl (fun c63 => ?_) (fun c63 => ?_)
                  rotate_left
                  · exfalso; omega
                  refine R_iinc dX12_bargain_79 rfl (Nat.le_of_ble_eq_true rfl) (?_ : RR _ _ _ _ 82 [_, _, _, _, _] _ _ _)
                  refine R_iinc dX12_bargain_82 rfl (Nat.le_of_ble_eq_true rfl) (?_ : RR _ _ _ _ 85 [_, _, _, _, _] _ _ _)
                  refine R_goto (t := 36) dX12_bargain_85 rfl (?_ : RR _ _ _ _ 36 _ _ _ _)
                  exact IH
              · rw [if_neg u] at IH
                by_cases z : (if (x : Int) + y ≤ t then (x : Int) else 0) = t - y
                · rw [if_pos z] at hT
                  rw [if_neg (fun z2 => u ⟨z, z2⟩)] at hT2
                  refine R_iload dX12_bargain_36 rfl (?_ : RR _ _ _ _ 38 _ _ _ _)
                  refine R_iload_n dX12_bargain_38 rfl (?_ : RR _ _ _ _ 39 _ _ _ _)
                  refine R_icmp_gt (t := 88) dX12_bargain_39 rfl (fun c39 => ?_) (fun c39 => ?_)
                  · exfalso; omega
                  refine R_iload_n dX12_bargain_42 rfl (?_ : RR _ _ _ _ 43 _ _ _ _)
                  refine R_iload dX12_bargain_43 rfl (?_ : RR _ _ _ _ 45 _ _ _ _)
                  refine R_iload_n dX12_bargain_45 rfl (?_ : RR _ _ _ _ 46 _ _ _ _)
                  refine R_cSi3 dX12_bargain_46 msX12_isRest mlX12_467 (by decide) (Nat.le_of_ble_eq_true rfl) (Nat.le_of_ble_eq_true rfl) (hT) (?_ : RR _ _ _ _ 49 _ _ _ _)
                  refine R_if_eq (t := 82) dX12_bargain_49 rfl (fun c49 => ?_) (fun c49 => ?_)
                  · exfalso; omega
                  refine R_iload dX12_bargain_52 rfl (?_ : RR _ _ _ _ 54 _ _ _ _)
                  refine R_iload_n dX12_bargain_54 rfl (?_ : RR _ _ _ _ 55 _ _ _ _)
                  refine R_iload_n dX12_bargain_55 rfl (?_ : RR _ _ _ _ 56 _ _ _ _)
                  refine R_cSi3 dX12_bargain_56 msX12_isRest mlX12_467 (by decide) (Nat.le_of_ble_eq_true rfl) (Nat.le_of_ble_eq_true rfl) (hT2) (?_ : RR _ _ _ _ 59 _ _ _ _)
                  refine R_if_eq (t := 82) dX12_bargain_59 rfl (fun c59 => ?_) (fun c59 => ?_)
                  rotate_left
                  · exfalso; omega
                  refine R_iinc dX12_bargain_82 rfl (Nat.le_of_ble_eq_true rfl) (?_ : RR _ _ _ _ 85 [_, _, _, _, _] _ _ _)
                  refine R_goto (t := 36) dX12_bargain_85 rfl (?_ : RR _ _ _ _ 36 _ _ _ _)
                  exact IH
                · rw [if_neg z] at hT
                  refine R_iload dX12_bargain_36 rfl (?_ : RR _ _ _ _ 38 _ _ _ _)
                  refine R_iload_n dX12_bargain_38 rfl (?_ : RR _ _ _ _ 39 _ _ _ _)
                  refine R_icmp_gt (t := 88) dX12_bargain_39 rfl (fun c39 => ?_) (fun c39 => ?_)
                  · exfalso; omega
                  refine R_iload_n dX12_bargain_42 rfl (?_ : RR _ _ _ _ 43 _ _ _ _)
                  refine R_iload dX12_bargain_43 rfl (?_ : RR _ _ _ _ 45 _ _ _ _)
                  refine R_iload_n dX12_bargain_45 rfl (?_ : RR _ _ _ _ 46 _ _ _ _)
                  refine R_cSi3 dX12_bargain_46 msX12_isRest mlX12_467 (by decide) (Nat.le_of_ble_eq_true rfl) (Nat.le_of_ble_eq_true rfl) (hT) (?_ : RR _ _ _ _ 49 _ _ _ _)
                  refine R_if_eq (t := 82) dX12_bargain_49 rfl (fun c49 => ?_) (fun c49 => ?_)
                  rotate_left
                  · exfalso; omega
                  refine R_iinc dX12_bargain_82 rfl (Nat.le_of_ble_eq_true rfl) (?_ : RR _ _ _ _ 85 [_, _, _, _, _] _ _ _)
                  refine R_goto (t := 36) dX12_bargain_85 rfl (?_ : RR _ _ _ _ 36 _ _ _ _)
                  exact IH
          refine R_iload_n dX12_bargain_28 rfl (?_ : RR _ _ _ _ 29 _ _ _ _)
          refine R_iload_n dX12_bargain_29 rfl (?_ : RR _ _ _ _ 30 _ _ _ _)
          refine R_icmp_gt (t := 94) dX12_bargain_30 rfl (fun c30 => ?_) (fun c30 => ?_)
          · exfalso; omega
          refine R_iconst dX12_bargain_33 (?_ : RR _ _ _ _ 34 _ _ _ _)
          refine R_istore dX12_bargain_34 (Nat.le_of_ble_eq_true rfl) (?_ : RR _ _ _ _ 36 [_, _, _, _, _] _ _ _)
          exact L2 (t + 1) 0 (by omega)
      have L0 : ∀ w4 : PV, RR mX12_bargain 2 0 0 28 [pR 147, pI t, pI 0, pI 0, w4] [] (shp0, rf0, tmR h4 []) (mQ h3 F.1 (some F.2.reverse)) := fun w4 => L1 (t + 1) 0 w4 (by omega)
      refine R_aload_n dX12_bargain_0 rfl (?_ : RR _ _ _ _ 1 _ _ _ _)
      refine R_iconst dX12_bargain_1 (?_ : RR _ _ _ _ 2 _ _ _ _)
      refine R_puti (zk := 0) dX12_bargain_2 flX12_106 cok_12 (by decide) (fun q hq => by cases hq; rfl) rfl (?_ : RR _ _ _ _ 5 _ _ _ _)
      rw [← h4e]
      refine R_iload_n dX12_bargain_5 rfl (?_ : RR _ _ _ _ 6 _ _ _ _)
      refine R_i2l dX12_bargain_6 (by first | assumption | omega) (?_ : RR _ _ _ _ 7 _ _ _ _)
      refine R_lconst (z := 1) dX12_bargain_7 rfl (?_ : RR _ _ _ _ 8 _ _ _ _)
      refine R_ldc2 (z := 20) dX12_bargain_8 klX12_465 (?_ : RR _ _ _ _ 11 _ _ _ _)
      refine R_cSi3 dX12_bargain_11 msX12_in mlX12_120 (by decide) (Nat.le_of_ble_eq_true rfl) (Nat.le_of_ble_eq_true rfl) (T_X12_in) (?_ : RR _ _ _ _ 14 _ _ _ _)
      rw [if_pos q]
      refine R_if_ne (t := 19) dX12_bargain_14 rfl (fun c14 => ?_) (fun c14 => ?_)
      rotate_left
      · exfalso; omega
      refine R_iconst dX12_bargain_19 (?_ : RR _ _ _ _ 20 _ _ _ _)
      refine R_istore_n dX12_bargain_20 (Nat.le_of_ble_eq_true rfl) (?_ : RR _ _ _ _ 21 [_, _, _, _, _] _ _ _)
      refine R_aload_n dX12_bargain_21 rfl (?_ : RR _ _ _ _ 22 _ _ _ _)
      refine R_iconst dX12_bargain_22 (?_ : RR _ _ _ _ 23 _ _ _ _)
      refine R_puti (zk := 1) dX12_bargain_23 flX12_113 cok_12 (by decide) (fun q hq => by cases hq; rfl) rfl (?_ : RR _ _ _ _ 26 _ _ _ _)
      show RR _ _ _ _ _ _ _ (shp0, rf0, tmR h4 []) _
      refine R_iconst dX12_bargain_26 (?_ : RR _ _ _ _ 27 _ _ _ _)
      refine R_istore_n dX12_bargain_27 (Nat.le_of_ble_eq_true rfl) (?_ : RR _ _ _ _ 28 [_, _, _, _, _] _ _ _)
      exact L0 _
  · refine A_q hs (z := -1) (o := none) (cQ_no (M := mX11_bargain) (d := 1) (As := [pR 0, pI v]) (MT.of (fun Q hQ => (?_ : RR mX11_bargain _ _ _ _ [pR 0, pI v, pU, pU, pU] _ _ _)))) (fun h3 e => mQ_thr (M := mX12_bargain) (d := 2) (As := [pR 147, pI v]) (MT.of (fun Q hQ => (?_ : RR mX12_bargain _ _ _ _ [pR 147, pI v, pU, pU, pU] _ _ _)))) (fun L e => by cases e)
    · refine R_iload_n dX11_bargain_0 rfl (?_ : RR _ _ _ _ 1 _ _ _ _)
      refine R_iconst dX11_bargain_1 (?_ : RR _ _ _ _ 2 _ _ _ _)
      refine R_icmp_lt (t := 11) dX11_bargain_2 rfl (fun c2 => ?_) (fun c2 => ?_)
      · first
        | (exfalso; omega)
        | (refine R_iconst dX11_bargain_11 (?_ : RR _ _ _ _ 12 _ _ _ _)
           exact R_ireturn dX11_bargain_12 trivial hQ)
      · first
        | (exfalso; omega)
        | (refine R_iload_n dX11_bargain_5 rfl (?_ : RR _ _ _ _ 6 _ _ _ _)
           refine R_bipush dX11_bargain_6 rfl (?_ : RR _ _ _ _ 8 _ _ _ _)
           refine R_icmp_le (t := 13) dX11_bargain_8 rfl (fun c8 => ?_) (fun c8 => ?_)
           · first
             | (exfalso; omega)
             | (exfalso; omega)
           · first
             | (exfalso; omega)
             | (refine R_iconst dX11_bargain_11 (?_ : RR _ _ _ _ 12 _ _ _ _)
                exact R_ireturn dX11_bargain_12 trivial hQ))
    · refine R_aload_n dX12_bargain_0 rfl (?_ : RR _ _ _ _ 1 _ _ _ _)
      refine R_iconst dX12_bargain_1 (?_ : RR _ _ _ _ 2 _ _ _ _)
      refine R_puti (zk := 0) dX12_bargain_2 flX12_106 cok_12 (by decide) (fun q hq => by cases hq; rfl) rfl (?_ : RR _ _ _ _ 5 _ _ _ _)
      try simp (disch := omega) only [rup_rup, rup_sort, rupS_def, rup_s, rup_n, fup_fup, fup_s, fup_n]
      refine R_iload_n dX12_bargain_5 rfl (?_ : RR _ _ _ _ 6 _ _ _ _)
      refine R_i2l dX12_bargain_6 (by first | assumption | omega) (?_ : RR _ _ _ _ 7 _ _ _ _)
      refine R_lconst (z := 1) dX12_bargain_7 rfl (?_ : RR _ _ _ _ 8 _ _ _ _)
      refine R_ldc2 (z := 20) dX12_bargain_8 klX12_465 (?_ : RR _ _ _ _ 11 _ _ _ _)
      refine R_cSi3 dX12_bargain_11 msX12_in mlX12_120 (by decide) (Nat.le_of_ble_eq_true rfl) (Nat.le_of_ble_eq_true rfl) (T_X12_in) (?_ : RR _ _ _ _ 14 _ _ _ _)
      try simp (disch := omega) only [rup_rup, rup_sort, rupS_def, rup_s, rup_n, fup_fup, fup_s, fup_n]
      rw [if_neg q]
      refine R_if_ne (t := 19) dX12_bargain_14 rfl (fun c14 => ?_) (fun c14 => ?_)
      · exfalso; omega
      refine R_iconst dX12_bargain_17 (?_ : RR _ _ _ _ 18 _ _ _ _)
      exact R_ireturn dX12_bargain_18 trivial hQ
end BG
