section RUA
variable {k : Nat} {h h1 h2 h3 h4 g : Nat → Int → Int} {sem sem2 : Sem} {H np nc len N d p b l m n : Nat} {σ : Int → Int} {v : (Int → Int) → Int} {u : Bool}
theorem T_X12_faultOf40 {a : Nat} {ok : Int} (hok : ok = 0 ∨ ok = 1) (ha : h 147 16 = a) (hb : h 147 17 = b) (hab : a ≤ b) (hb47 : b = min n 40) (hn80 : n ≤ 80) (r : Int) (hr : r = if ok = 1 ∧ a = n then 0 else -1 - (a : Int)) : MT mX12_faultOf 0 [pR 147, pI n, pI 40, pI ok] h (some (pI r)) h := by
  refine MT.of (fun Q hQ => (?_ : RR mX12_faultOf _ _ _ _ [pR 147, pI n, pI 40, pI ok, pU] _ _ _))
  rcases hok with z | z
  · subst z
    rw [if_neg (by omega)] at hr
    rw [hr] at hQ
    by_cases y : n > 40
    · by_cases u : a ≥ 40
      · rw [show (a : Int) = 40 by omega] at hQ
        refine R_iload_n dX12_faultOf_0 rfl (?_ : RR _ _ _ _ 1 _ _ _ _)
        refine R_if_eq (t := 19) dX12_faultOf_1 rfl (fun c1 => ?_) (fun c1 => ?_)
        rotate_left
        · exfalso; omega
        refine R_iconst dX12_faultOf_19 (?_ : RR _ _ _ _ 20 _ _ _ _)
        refine R_istore dX12_faultOf_20 (Nat.le_of_ble_eq_true rfl) (?_ : RR _ _ _ _ 22 [_, _, _, _, _] _ _ _)
        refine R_iload_n dX12_faultOf_22 rfl (?_ : RR _ _ _ _ 23 _ _ _ _)
        refine R_iload_n dX12_faultOf_23 rfl (?_ : RR _ _ _ _ 24 _ _ _ _)
        refine R_icmp_le (t := 44) dX12_faultOf_24 rfl (fun c24 => ?_) (fun c24 => ?_)
        · exfalso; omega
        refine R_iload dX12_faultOf_27 rfl (?_ : RR _ _ _ _ 29 _ _ _ _)
        refine R_if_ne (t := 40) dX12_faultOf_29 rfl (fun c29 => ?_) (fun c29 => ?_)
        · exfalso; omega
        refine R_aload_n dX12_faultOf_32 rfl (?_ : RR _ _ _ _ 33 _ _ _ _)
        refine R_geti (z := 16) dX12_faultOf_33 flX12_151 cok_12 rfl (by decide) rfl (fun q33 => (?_ : RR _ _ _ _ 36 _ _ _ _))
        rw [ha] at q33 ⊢
        refine R_iload_n dX12_faultOf_36 rfl (?_ : RR _ _ _ _ 37 _ _ _ _)
        refine R_icmp_lt (t := 44) dX12_faultOf_37 rfl (fun c37 => ?_) (fun c37 => ?_)
        · exfalso; omega
        refine R_iconst dX12_faultOf_40 (?_ : RR _ _ _ _ 41 _ _ _ _)
        refine R_iload_n dX12_faultOf_41 rfl (?_ : RR _ _ _ _ 42 _ _ _ _)
        refine R_isub dX12_faultOf_42 (?_ : RR _ _ _ _ 43 _ _ _ _)
        exact R_ireturn dX12_faultOf_43 trivial hQ
      · refine R_iload_n dX12_faultOf_0 rfl (?_ : RR _ _ _ _ 1 _ _ _ _)
        refine R_if_eq (t := 19) dX12_faultOf_1 rfl (fun c1 => ?_) (fun c1 => ?_)
        rotate_left
        · exfalso; omega
        refine R_iconst dX12_faultOf_19 (?_ : RR _ _ _ _ 20 _ _ _ _)
        refine R_istore dX12_faultOf_20 (Nat.le_of_ble_eq_true rfl) (?_ : RR _ _ _ _ 22 [_, _, _, _, _] _ _ _)
        refine R_iload_n dX12_faultOf_22 rfl (?_ : RR _ _ _ _ 23 _ _ _ _)
        refine R_iload_n dX12_faultOf_23 rfl (?_ : RR _ _ _ _ 24 _ _ _ _)
        refine R_icmp_le (t := 44) dX12_faultOf_24 rfl (fun c24 => ?_) (fun c24 => ?_)
        · exfalso; omega
        refine R_iload dX12_faultOf_27 rfl (?_ : RR _ _ _ _ 29 _ _ _ _)
        refine R_if_ne (t := 40) dX12_faultOf_29 rfl (fun c29 => ?_) (fun c29 => ?_)
        · exfalso; omega
        refine R_aload_n dX12_faultOf_32 rfl (?_ : RR _ _ _ _ 33 _ _ _ _)
        refine R_geti (z := 16) dX12_faultOf_33 flX12_151 cok_12 rfl (by decide) rfl (fun q33 => (?_ : RR _ _ _ _ 36 _ _ _ _))
        rw [ha] at q33 ⊢
        refine R_iload_n dX12_faultOf_36 rfl (?_ : RR _ _ _ _ 37 _ _ _ _)
        refine R_icmp_lt (t := 44) dX12_faultOf_37 rfl (fun c37 => ?_) (fun c37 => ?_)
        rotate_left
        · exfalso; omega
        refine R_iload dX12_faultOf_44 rfl (?_ : RR _ _ _ _ 46 _ _ _ _)
        refine R_if_eq (t := 53) dX12_faultOf_46 rfl (fun c46 => ?_) (fun c46 => ?_)
        rotate_left
        · exfalso; omega
        refine R_iconst dX12_faultOf_53 (?_ : RR _ _ _ _ 54 _ _ _ _)
        refine R_aload_n dX12_faultOf_54 rfl (?_ : RR _ _ _ _ 55 _ _ _ _)
        refine R_geti (z := 16) dX12_faultOf_55 flX12_151 cok_12 rfl (by decide) rfl (fun q55 => (?_ : RR _ _ _ _ 58 _ _ _ _))
        rw [ha] at q55 ⊢
        refine R_isub dX12_faultOf_58 (?_ : RR _ _ _ _ 59 _ _ _ _)
        exact R_ireturn dX12_faultOf_59 trivial hQ
    · refine R_iload_n dX12_faultOf_0 rfl (?_ : RR _ _ _ _ 1 _ _ _ _)
      refine R_if_eq (t := 19) dX12_faultOf_1 rfl (fun c1 => ?_) (fun c1 => ?_)
      rotate_left
      · exfalso; omega
      refine R_iconst dX12_faultOf_19 (?_ : RR _ _ _ _ 20 _ _ _ _)
      refine R_istore dX12_faultOf_20 (Nat.le_of_ble_eq_true rfl) (?_ : RR _ _ _ _ 22 [_, _, _, _, _] _ _ _)
      refine R_iload_n dX12_faultOf_22 rfl (?_ : RR _ _ _ _ 23 _ _ _ _)
      refine R_iload_n dX12_faultOf_23 rfl (?_ : RR _ _ _ _ 24 _ _ _ _)
      refine R_icmp_le (t := 44) dX12_faultOf_24 rfl (fun c24 => ?_) (fun c24 => ?_)
      rotate_left
      · exfalso; omega
      refine R_iload dX12_faultOf_44 rfl (?_ : RR _ _ _ _ 46 _ _ _ _)
      refine R_if_eq (t := 53) dX12_faultOf_46 rfl (fun c46 => ?_) (fun c46 => ?_)
      rotate_left
      · exfalso; omega
      refine R_iconst dX12_faultOf_53 (?_ : RR _ _ _ _ 54 _ _ _ _)
      refine R_aload_n dX12_faultOf_54 rfl (?_ : RR _ _ _ _ 55 _ _ _ _)
      refine R_geti (z := 16) dX12_faultOf_55 flX12_151 cok_12 rfl (by decide) rfl (fun q55 => (?_ : RR _ _ _ _ 58 _ _ _ _))
      rw [ha] at q55 ⊢
      refine R_isub dX12_faultOf_58 (?_ : RR _ _ _ _ 59 _ _ _ _)
      exact R_ireturn dX12_faultOf_59 trivial hQ
  · subst z
    by_cases y : n > 40
    · by_cases u : a = b
      · rw [if_neg (by omega)] at hr
        rw [hr, show (a : Int) = 40 by omega] at hQ
        refine R_iload_n dX12_faultOf_0 rfl (?_ : RR _ _ _ _ 1 _ _ _ _)
        refine R_if_eq (t := 19) dX12_faultOf_1 rfl (fun c1 => ?_) (fun c1 => ?_)
        · exfalso; omega
        refine R_aload_n dX12_faultOf_4 rfl (?_ : RR _ _ _ _ 5 _ _ _ _)
        refine R_geti (z := 16) dX12_faultOf_5 flX12_151 cok_12 rfl (by decide) rfl (fun q5 => (?_ : RR _ _ _ _ 8 _ _ _ _))
        rw [ha] at q5 ⊢
        refine R_aload_n dX12_faultOf_8 rfl (?_ : RR _ _ _ _ 9 _ _ _ _)
        refine R_geti (z := 17) dX12_faultOf_9 flX12_157 cok_12 rfl (by decide) rfl (fun q9 => (?_ : RR _ _ _ _ 12 _ _ _ _))
        rw [hb] at q9 ⊢
        refine R_icmp_ne (t := 19) dX12_faultOf_12 rfl (fun c12 => ?_) (fun c12 => ?_)
        · exfalso; omega
        refine R_iconst dX12_faultOf_15 (?_ : RR _ _ _ _ 16 _ _ _ _)
        refine R_goto (t := 20) dX12_faultOf_16 rfl (?_ : RR _ _ _ _ 20 _ _ _ _)
        refine R_istore dX12_faultOf_20 (Nat.le_of_ble_eq_true rfl) (?_ : RR _ _ _ _ 22 [_, _, _, _, _] _ _ _)
        refine R_iload_n dX12_faultOf_22 rfl (?_ : RR _ _ _ _ 23 _ _ _ _)
        refine R_iload_n dX12_faultOf_23 rfl (?_ : RR _ _ _ _ 24 _ _ _ _)
        refine R_icmp_le (t := 44) dX12_faultOf_24 rfl (fun c24 => ?_) (fun c24 => ?_)
        · exfalso; omega
        refine R_iload dX12_faultOf_27 rfl (?_ : RR _ _ _ _ 29 _ _ _ _)
        refine R_if_ne (t := 40) dX12_faultOf_29 rfl (fun c29 => ?_) (fun c29 => ?_)
        rotate_left
        · exfalso; omega
        refine R_iconst dX12_faultOf_40 (?_ : RR _ _ _ _ 41 _ _ _ _)
        refine R_iload_n dX12_faultOf_41 rfl (?_ : RR _ _ _ _ 42 _ _ _ _)
        refine R_isub dX12_faultOf_42 (?_ : RR _ _ _ _ 43 _ _ _ _)
        exact R_ireturn dX12_faultOf_43 trivial hQ
      · rw [if_neg (by omega)] at hr
        rw [hr] at hQ
        refine R_iload_n dX12_faultOf_0 rfl (?_ : RR _ _ _ _ 1 _ _ _ _)
        refine R_if_eq (t := 19) dX12_faultOf_1 rfl (fun c1 => ?_) (fun c1 => ?_)
        · exfalso; omega
        refine R_aload_n dX12_faultOf_4 rfl (?_ : RR _ _ _ _ 5 _ _ _ _)
        refine R_geti (z := 16) dX12_faultOf_5 flX12_151 cok_12 rfl (by decide) rfl (fun q5 => (?_ : RR _ _ _ _ 8 _ _ _ _))
        rw [ha] at q5 ⊢
        refine R_aload_n dX12_faultOf_8 rfl (?_ : RR _ _ _ _ 9 _ _ _ _)
        refine R_geti (z := 17) dX12_faultOf_9 flX12_157 cok_12 rfl (by decide) rfl (fun q9 => (?_ : RR _ _ _ _ 12 _ _ _ _))
        rw [hb] at q9 ⊢
        refine R_icmp_ne (t := 19) dX12_faultOf_12 rfl (fun c12 => ?_) (fun c12 => ?_)
        rotate_left
        · exfalso; omega
        refine R_iconst dX12_faultOf_19 (?_ : RR _ _ _ _ 20 _ _ _ _)
        refine R_istore dX12_faultOf_20 (Nat.le_of_ble_eq_true rfl) (?_ : RR _ _ _ _ 22 [_, _, _, _, _] _ _ _)
        refine R_iload_n dX12_faultOf_22 rfl (?_ : RR _ _ _ _ 23 _ _ _ _)
        refine R_iload_n dX12_faultOf_23 rfl (?_ : RR _ _ _ _ 24 _ _ _ _)
        refine R_icmp_le (t := 44) dX12_faultOf_24 rfl (fun c24 => ?_) (fun c24 => ?_)
        · exfalso; omega
        refine R_iload dX12_faultOf_27 rfl (?_ : RR _ _ _ _ 29 _ _ _ _)
        refine R_if_ne (t := 40) dX12_faultOf_29 rfl (fun c29 => ?_) (fun c29 => ?_)
        · exfalso; omega
        refine R_aload_n dX12_faultOf_32 rfl (?_ : RR _ _ _ _ 33 _ _ _ _)
        refine R_geti (z := 16) dX12_faultOf_33 flX12_151 cok_12 rfl (by decide) rfl (fun q33 => (?_ : RR _ _ _ _ 36 _ _ _ _))
        rw [ha] at q33 ⊢
        refine R_iload_n dX12_faultOf_36 rfl (?_ : RR _ _ _ _ 37 _ _ _ _)
        refine R_icmp_lt (t := 44) dX12_faultOf_37 rfl (fun c37 => ?_) (fun c37 => ?_)
        rotate_left
        · exfalso; omega
        refine R_iload dX12_faultOf_44 rfl (?_ : RR _ _ _ _ 46 _ _ _ _)
        refine R_if_eq (t := 53) dX12_faultOf_46 rfl (fun c46 => ?_) (fun c46 => ?_)
        rotate_left
        · exfalso; omega
        refine R_iconst dX12_faultOf_53 (?_ : RR _ _ _ _ 54 _ _ _ _)
        refine R_aload_n dX12_faultOf_54 rfl (?_ : RR _ _ _ _ 55 _ _ _ _)
        refine R_geti (z := 16) dX12_faultOf_55 flX12_151 cok_12 rfl (by decide) rfl (fun q55 => (?_ : RR _ _ _ _ 58 _ _ _ _))
        rw [ha] at q55 ⊢
        refine R_isub dX12_faultOf_58 (?_ : RR _ _ _ _ 59 _ _ _ _)
        exact R_ireturn dX12_faultOf_59 trivial hQ
    · by_cases u : a = b
      · rw [if_pos (by omega)] at hr
        rw [hr] at hQ
        refine R_iload_n dX12_faultOf_0 rfl (?_ : RR _ _ _ _ 1 _ _ _ _)
        refine R_if_eq (t := 19) dX12_faultOf_1 rfl (fun c1 => ?_) (fun c1 => ?_)
        · exfalso; omega
        refine R_aload_n dX12_faultOf_4 rfl (?_ : RR _ _ _ _ 5 _ _ _ _)
        refine R_geti (z := 16) dX12_faultOf_5 flX12_151 cok_12 rfl (by decide) rfl (fun q5 => (?_ : RR _ _ _ _ 8 _ _ _ _))
        rw [ha] at q5 ⊢
        refine R_aload_n dX12_faultOf_8 rfl (?_ : RR _ _ _ _ 9 _ _ _ _)
        refine R_geti (z := 17) dX12_faultOf_9 flX12_157 cok_12 rfl (by decide) rfl (fun q9 => (?_ : RR _ _ _ _ 12 _ _ _ _))
        rw [hb] at q9 ⊢
        refine R_icmp_ne (t := 19) dX12_faultOf_12 rfl (fun c12 => ?_) (fun c12 => ?_)
        · exfalso; omega
        refine R_iconst dX12_faultOf_15 (?_ : RR _ _ _ _ 16 _ _ _ _)
        refine R_goto (t := 20) dX12_faultOf_16 rfl (?_ : RR _ _ _ _ 20 _ _ _ _)
        refine R_istore dX12_faultOf_20 (Nat.le_of_ble_eq_true rfl) (?_ : RR _ _ _ _ 22 [_, _, _, _, _] _ _ _)
        refine R_iload_n dX12_faultOf_22 rfl (?_ : RR _ _ _ _ 23 _ _ _ _)
        refine R_iload_n dX12_faultOf_23 rfl (?_ : RR _ _ _ _ 24 _ _ _ _)
        refine R_icmp_le (t := 44) dX12_faultOf_24 rfl (fun c24 => ?_) (fun c24 => ?_)
        rotate_left
        · exfalso; omega
        refine R_iload dX12_faultOf_44 rfl (?_ : RR _ _ _ _ 46 _ _ _ _)
        refine R_if_eq (t := 53) dX12_faultOf_46 rfl (fun c46 => ?_) (fun c46 => ?_)
        · exfalso; omega
        refine R_iconst dX12_faultOf_49 (?_ : RR _ _ _ _ 50 _ _ _ _)
        refine R_goto (t := 59) dX12_faultOf_50 rfl (?_ : RR _ _ _ _ 59 _ _ _ _)
        exact R_ireturn dX12_faultOf_59 trivial hQ
      · rw [if_neg (by omega)] at hr
        rw [hr] at hQ
        refine R_iload_n dX12_faultOf_0 rfl (?_ : RR _ _ _ _ 1 _ _ _ _)
        refine R_if_eq (t := 19) dX12_faultOf_1 rfl (fun c1 => ?_) (fun c1 => ?_)
        · exfalso; omega
        refine R_aload_n dX12_faultOf_4 rfl (?_ : RR _ _ _ _ 5 _ _ _ _)
        refine R_geti (z := 16) dX12_faultOf_5 flX12_151 cok_12 rfl (by decide) rfl (fun q5 => (?_ : RR _ _ _ _ 8 _ _ _ _))
        rw [ha] at q5 ⊢
        refine R_aload_n dX12_faultOf_8 rfl (?_ : RR _ _ _ _ 9 _ _ _ _)
        refine R_geti (z := 17) dX12_faultOf_9 flX12_157 cok_12 rfl (by decide) rfl (fun q9 => (?_ : RR _ _ _ _ 12 _ _ _ _))
        rw [hb] at q9 ⊢
        refine R_icmp_ne (t := 19) dX12_faultOf_12 rfl (fun c12 => ?_) (fun c12 => ?_)
        rotate_left
        · exfalso; omega
        refine R_iconst dX12_faultOf_19 (?_ : RR _ _ _ _ 20 _ _ _ _)
        refine R_istore dX12_faultOf_20 (Nat.le_of_ble_eq_true rfl) (?_ : RR _ _ _ _ 22 [_, _, _, _, _] _ _ _)
        refine R_iload_n dX12_faultOf_22 rfl (?_ : RR _ _ _ _ 23 _ _ _ _)
        refine R_iload_n dX12_faultOf_23 rfl (?_ : RR _ _ _ _ 24 _ _ _ _)
        refine R_icmp_le (t := 44) dX12_faultOf_24 rfl (fun c24 => ?_) (fun c24 => ?_)
        rotate_left
        · exfalso; omega
        refine R_iload dX12_faultOf_44 rfl (?_ : RR _ _ _ _ 46 _ _ _ _)
        refine R_if_eq (t := 53) dX12_faultOf_46 rfl (fun c46 => ?_) (fun c46 => ?_)
        rotate_left
        · exfalso; omega
        refine R_iconst dX12_faultOf_53 (?_ : RR _ _ _ _ 54 _ _ _ _)
        refine R_aload_n dX12_faultOf_54 rfl (?_ : RR _ _ _ _ 55 _ _ _ _)
        refine R_geti (z := 16) dX12_faultOf_55 flX12_151 cok_12 rfl (by decide) rfl (fun q55 => (?_ : RR _ _ _ _ 58 _ _ _ _))
        rw [ha] at q55 ⊢
        refine R_isub dX12_faultOf_58 (?_ : RR _ _ _ _ 59 _ _ _ _)
        exact R_ireturn dX12_faultOf_59 trivial hQ
def mrqF (h h2 : Nat → Int → Int) : Prop := (∀ a, a ≠ 147 → a ≠ 159 → h2 a = h a) ∧ (∀ j : Int, j ≠ 15 → j ≠ 16 → j ≠ 17 → j ≠ 18 → j ≠ 24 → h2 147 j = h 147 j) ∧ h2 147 15 = 0
def mrqP (σ : Int → Int) (n : Nat) (h : Nat → Int → Int) (r' : Option PV) (g' : PH) : Prop := ∃ h2, g' = (shp0, rf0, h2) ∧ mrqF h h2 ∧ ((¬ rqG σ n ∧ r' = some (pI (-1 - ((rqX σ).1 : Int)))) ∨ (rqG σ n ∧ r' = some (pI 0) ∧ ∃ k : Nat, k ≤ 40 ∧ h2 147 24 = k ∧ (n = 0 → k = 0) ∧ (n ≠ 0 → SgM (h2 159) 0 k (rqV σ n) ∧ 1 ≤ k)))
theorem SgM_1 {C : Int → Int} {l k : Nat} (h : SgM C l k v) (hk : k ≤ 40) : 1 ≤ k := by
  by_cases z : k = 0
  · subst z
    have := (h.2 (fun _ => 0) ((fun _ => 0), 0) (by show (0 : Int) ≤ 0; omega) (by show (0 : Int) + ((0 : Nat) : Int) ≤ 80; omega)).1
    have : (0 : Int) = 0 + 1 := this
    omega
  · omega
theorem M_readsRule (hn : h 147 15 = n) (hn80 : n ≤ 80) (hb40 : b = min n 40) (hσ : mqrT σ b h) (hσn : ∀ p : Nat, b ≤ p → σ p = -1) : RR mX12_readsRule 510 0 0 0 (pm_ent [pR 147] 3) [] (shp0, rf0, h) (mrqP σ n h) := by
  show RR _ _ _ _ _ [pR 147, pU, pU] _ _ _
  have hbg := T_X12_begins (h := h) (m := 40) (n := n) hn hn80 (by omega)
  obtain ⟨h4, h4e⟩ : ∃ h4, h4 = rup h 147 (fup (fup (fup (fup (fup (h 147) 15 0) 16 0) 18 0) 17 (min (n : Int) 40)) 24 0) := ⟨_, rfl⟩
  have f4 : mrqF h h4 := ⟨fun a a1 a2 => by rw [h4e, rup_n a1], fun j j1 j2 j3 j4 j5 => by rw [h4e, rup_s]; simp (disch := omega) only [fup_n], by rw [h4e, rup_s]; simp (disch := omega) only [fup_n, fup_s]⟩
  have s4 : mqrS h4 0 0 0 b := ⟨by rw [h4e, rup_s]; simp (disch := omega) only [fup_n, fup_s]; rfl, by rw [h4e, rup_s, fup_s]; rfl, by rw [h4e, rup_s]; simp (disch := omega) only [fup_n, fup_s]; rfl, by rw [h4e, rup_s, fup_n (by omega), fup_s]; omega⟩
  have hx := rqX_b hσn (show b ≤ 40 by omega)
  have K12 : RR mX12_readsRule 510 0 0 12 [pR 147, pI n, pU] [] (shp0, rf0, h4) (mrqP σ n h) := by
    by_cases z : n = 0
    · have hT := T_X12_faultOf40 (h := h4) (n := n) (b := b) (a := 0) (Or.inr rfl) s4.1 s4.2.2.2 (by omega) hb40 hn80 0 (by rw [if_pos ⟨rfl, z.symm⟩])
      have hq : mrqP σ n h (some (pI 0)) (shp0, rf0, h4) := ⟨h4, rfl, f4, Or.inr ⟨Or.inl z, rfl, 0, by omega, s4.2.1, fun _ => rfl, fun w => absurd z w⟩⟩
      generalize mrqP σ n h = QQ at *
      clear h4e
      refine R_iload_n dX12_readsRule_12 rfl (?_ : RR _ _ _ _ 13 _ _ _ _)
      refine R_if_eq (t := 24) dX12_readsRule_13 rfl (fun c13 => ?_) (fun c13 => ?_)
      rotate_left
      · exfalso; omega
      refine R_iconst dX12_readsRule_24 (?_ : RR _ _ _ _ 25 _ _ _ _)
      refine R_goto (t := 29) dX12_readsRule_25 rfl (?_ : RR _ _ _ _ 29 _ _ _ _)
      refine R_istore_n dX12_readsRule_29 (Nat.le_of_ble_eq_true rfl) (?_ : RR _ _ _ _ 30 [_, _, _] _ _ _)
      refine R_aload_n dX12_readsRule_30 rfl (?_ : RR _ _ _ _ 31 _ _ _ _)
      refine R_iload_n dX12_readsRule_31 rfl (?_ : RR _ _ _ _ 32 _ _ _ _)
      refine R_bipush dX12_readsRule_32 rfl (?_ : RR _ _ _ _ 34 _ _ _ _)
      refine R_iload_n dX12_readsRule_34 rfl (?_ : RR _ _ _ _ 35 _ _ _ _)
      refine R_cVi3 dX12_readsRule_35 mvX12_faultOf mlX12_198 (by decide) (by omega) (Nat.le_of_ble_eq_true rfl) (Nat.le_of_ble_eq_true rfl) (hT) (?_ : RR _ _ _ _ 38 _ _ _ _)
      exact R_ireturn dX12_readsRule_38 trivial hq
    · have hL := (M_all (σ := σ) (b := b) hσn (by omega) 250).1 0 0 0 0 false (fun _ => 0) h4 (by omega) (by omega) (by omega) (by omega) (by unfold rpM; rw [if_pos (by omega)]; omega) (fun p hp => by rw [f4.1 156 (by omega) (by omega)]; exact hσ p hp) s4
      rw [show rp σ 250 0 0 0 (fun _ => 0) false = rqX σ from rfl] at hL
      have K21 : ∀ r' g', mLP (rqX σ) 0 0 0 b h4 r' g' → ∃ y : Int, r' = some (pI y) ∧ RR mX12_readsRule 510 0 0 21 [pR 147, pI n, pU] [pI y] g' (mrqP σ n h) := by
        intro r' g' hc
        obtain ⟨h6, k, rfl, f6, i6, l6, b6, kb, hz⟩ := hc
        have fr : mrqF h h6 := ⟨fun a a1 a2 => by rw [f6.1 a a1 a2]; exact f4.1 a a1 a2, fun j j1 j2 j3 j4 j5 => by rw [f6.2.1 j j2 j4 j5]; exact f4.2.1 j j1 j2 j3 j4 j5, by rw [f6.2.1 15 (by omega) (by omega) (by omega)]; exact f4.2.2⟩
        rcases hz with ⟨o6, rfl⟩ | ⟨o6, rfl, d6, g6⟩
        · refine ⟨0, rfl, ?_⟩
          have hT := T_X12_faultOf40 (h := h6) (n := n) (b := b) (a := (rqX σ).1) (ok := 0) (Or.inl rfl) i6 b6 hx hb40 hn80 (-1 - ((rqX σ).1 : Int)) (by rw [if_neg (by omega)])
          have hq : mrqP σ n h (some (pI (-1 - ((rqX σ).1 : Int)))) (shp0, rf0, h6) := ⟨h6, rfl, fr, Or.inl ⟨fun w => by rcases w with w | w; (· exact z w); (· rw [o6] at w; cases w.1), rfl⟩⟩
          generalize mrqP σ n h = QQ at *
          generalize rqX σ = x at *
          clear h4e hL
          refine R_if_eq (t := 28) dX12_readsRule_21 rfl (fun c21 => ?_) (fun c21 => ?_)
          rotate_left
          · exfalso; omega
          refine R_iconst dX12_readsRule_28 (?_ : RR _ _ _ _ 29 _ _ _ _)
          refine R_istore_n dX12_readsRule_29 (Nat.le_of_ble_eq_true rfl) (?_ : RR _ _ _ _ 30 [_, _, _] _ _ _)
          refine R_aload_n dX12_readsRule_30 rfl (?_ : RR _ _ _ _ 31 _ _ _ _)
          refine R_iload_n dX12_readsRule_31 rfl (?_ : RR _ _ _ _ 32 _ _ _ _)
          refine R_bipush dX12_readsRule_32 rfl (?_ : RR _ _ _ _ 34 _ _ _ _)
          refine R_iload_n dX12_readsRule_34 rfl (?_ : RR _ _ _ _ 35 _ _ _ _)
          refine R_cVi3 dX12_readsRule_35 mvX12_faultOf mlX12_198 (by decide) (by omega) (Nat.le_of_ble_eq_true rfl) (Nat.le_of_ble_eq_true rfl) (hT) (?_ : RR _ _ _ _ 38 _ _ _ _)
          exact R_ireturn dX12_readsRule_38 trivial hq
        · refine ⟨1, rfl, ?_⟩
          by_cases w : (rqX σ).1 = n
          · have hT := T_X12_faultOf40 (h := h6) (n := n) (b := b) (a := (rqX σ).1) (Or.inr rfl) i6 b6 hx hb40 hn80 0 (by rw [if_pos ⟨rfl, w⟩])
            have g7 : SgM (h6 159) 0 k (rqV σ n) := SgM_v g6 (fun th _ => by unfold rqV; rw [if_neg z])
            have hq : mrqP σ n h (some (pI 0)) (shp0, rf0, h6) := ⟨h6, rfl, fr, Or.inr ⟨Or.inr ⟨o6, w⟩, rfl, k, by omega, by rw [l6]; omega, fun y => absurd y z, fun _ => ⟨g7, SgM_1 g7 (by omega)⟩⟩⟩
            generalize mrqP σ n h = QQ at *
            generalize rqX σ = x at *
            clear h4e hL g6
            refine R_if_eq (t := 28) dX12_readsRule_21 rfl (fun c21 => ?_) (fun c21 => ?_)
            · exfalso; omega
            refine R_iconst dX12_readsRule_24 (?_ : RR _ _ _ _ 25 _ _ _ _)
            refine R_goto (t := 29) dX12_readsRule_25 rfl (?_ : RR _ _ _ _ 29 _ _ _ _)
            refine R_istore_n dX12_readsRule_29 (Nat.le_of_ble_eq_true rfl) (?_ : RR _ _ _ _ 30 [_, _, _] _ _ _)
            refine R_aload_n dX12_readsRule_30 rfl (?_ : RR _ _ _ _ 31 _ _ _ _)
            refine R_iload_n dX12_readsRule_31 rfl (?_ : RR _ _ _ _ 32 _ _ _ _)
            refine R_bipush dX12_readsRule_32 rfl (?_ : RR _ _ _ _ 34 _ _ _ _)
            refine R_iload_n dX12_readsRule_34 rfl (?_ : RR _ _ _ _ 35 _ _ _ _)
            refine R_cVi3 dX12_readsRule_35 mvX12_faultOf mlX12_198 (by decide) (by omega) (Nat.le_of_ble_eq_true rfl) (Nat.le_of_ble_eq_true rfl) (hT) (?_ : RR _ _ _ _ 38 _ _ _ _)
            exact R_ireturn dX12_readsRule_38 trivial hq
          · have hT := T_X12_faultOf40 (h := h6) (n := n) (b := b) (a := (rqX σ).1) (Or.inr rfl) i6 b6 hx hb40 hn80 (-1 - ((rqX σ).1 : Int)) (by rw [if_neg (fun y => w y.2)])
            have hq : mrqP σ n h (some (pI (-1 - ((rqX σ).1 : Int)))) (shp0, rf0, h6) := ⟨h6, rfl, fr, Or.inl ⟨fun y => by rcases y with y | y; (· exact z y); (· exact w y.2), rfl⟩⟩
            generalize mrqP σ n h = QQ at *
            generalize rqX σ = x at *
            clear h4e hL g6
            refine R_if_eq (t := 28) dX12_readsRule_21 rfl (fun c21 => ?_) (fun c21 => ?_)
            · exfalso; omega
            refine R_iconst dX12_readsRule_24 (?_ : RR _ _ _ _ 25 _ _ _ _)
            refine R_goto (t := 29) dX12_readsRule_25 rfl (?_ : RR _ _ _ _ 29 _ _ _ _)
            refine R_istore_n dX12_readsRule_29 (Nat.le_of_ble_eq_true rfl) (?_ : RR _ _ _ _ 30 [_, _, _] _ _ _)
            refine R_aload_n dX12_readsRule_30 rfl (?_ : RR _ _ _ _ 31 _ _ _ _)
            refine R_iload_n dX12_readsRule_31 rfl (?_ : RR _ _ _ _ 32 _ _ _ _)
            refine R_bipush dX12_readsRule_32 rfl (?_ : RR _ _ _ _ 34 _ _ _ _)
            refine R_iload_n dX12_readsRule_34 rfl (?_ : RR _ _ _ _ 35 _ _ _ _)
            refine R_cVi3 dX12_readsRule_35 mvX12_faultOf mlX12_198 (by decide) (by omega) (Nat.le_of_ble_eq_true rfl) (Nat.le_of_ble_eq_true rfl) (hT) (?_ : RR _ _ _ _ 38 _ _ _ _)
            exact R_ireturn dX12_readsRule_38 trivial hq
      rw [show ((0 : Nat) : Int) = 0 from rfl] at hL
      generalize mrqP σ n h = QQ at *
      clear h4e
      refine R_iload_n dX12_readsRule_12 rfl (?_ : RR _ _ _ _ 13 _ _ _ _)
      refine R_if_eq (t := 24) dX12_readsRule_13 rfl (fun c13 => ?_) (fun c13 => ?_)
      · exfalso; omega
      refine R_aload_n dX12_readsRule_16 rfl (?_ : RR _ _ _ _ 17 _ _ _ _)
      refine R_iconst dX12_readsRule_17 (?_ : RR _ _ _ _ 18 _ _ _ _)
      refine R_qV1 dX12_readsRule_18 mvX12_readsRank mlX12_248 (by decide) (by omega) (Nat.le_of_ble_eq_true rfl) (Nat.le_of_ble_eq_true rfl) (hL) (fun r9 g9 hq9 => (?_ : RR _ _ _ _ 21 _ _ _ _))
      obtain ⟨y, rfl, KK⟩ := K21 _ _ hq9
      show RR _ _ _ _ _ _ [pI y] _ _
      exact KK
  generalize mrqP σ n h = QQ at *
  refine R_aload_n dX12_readsRule_0 rfl (?_ : RR _ _ _ _ 1 _ _ _ _)
  refine R_bipush dX12_readsRule_1 rfl (?_ : RR _ _ _ _ 3 _ _ _ _)
  refine R_cVi1 dX12_readsRule_3 mvX12_begins mlX12_190 (by decide) (by omega) (Nat.le_of_ble_eq_true rfl) (Nat.le_of_ble_eq_true rfl) (hbg) (?_ : RR _ _ _ _ 6 _ _ _ _)
  refine R_istore_n dX12_readsRule_6 (Nat.le_of_ble_eq_true rfl) (?_ : RR _ _ _ _ 7 [_, _, _] _ _ _)
  refine R_aload_n dX12_readsRule_7 rfl (?_ : RR _ _ _ _ 8 _ _ _ _)
  refine R_iconst dX12_readsRule_8 (?_ : RR _ _ _ _ 9 _ _ _ _)
  refine R_puti (zk := 24) dX12_readsRule_9 flX12_230 cok_12 (by decide) (fun q hq => by cases hq; rfl) rfl (?_ : RR _ _ _ _ 12 _ _ _ _)
  simp (disch := omega) only [rup_rup, rup_s]
  rw [← h4e]
  exact K12
/-- what the two rows mean -/
theorem SgC_ok {r : Nat} {k : Nat} (hk : k ≤ 40) (e2 : h r 2 = k) (hg : SgC (h (r + 1)) 0 k v) (hv : gd v u) : ruOK h r (smV v) := by
  refine ⟨k, e2, hk, fun i hi => ?_, fun th sk ht => ?_⟩
  · have := hg.1 i hi
    rw [Nat.zero_add] at this
    exact this
  · obtain ⟨x1, x2, x3⟩ := hg.2 th (sk, 0) ht (by show (0 : Int) ≤ 0; omega) (by show (0 : Int) + (k : Int) ≤ 40; omega)
    rw [it_cg (F := vbR (h (r + 1)) th) (G := fun i => vbR (h (r + 1)) th (0 + i)) (fun i _ x => by rw [Nat.zero_add]), ← smV_e hv]
    exact x2
theorem SgM_ok {k : Nat} (hk : k ≤ 40) (e2 : h 147 23 = k) (h0 : n = 0 → k = 0) (hg : n ≠ 0 → SgM (h 158) 0 k (rqV σ n) ∧ 1 ≤ k) : mrOK h (smV (rqV σ n)) := by
  have hv := gd_r (σ := σ) (n := n)
  by_cases z : n = 0
  · have hk0 := h0 z
    subst hk0
    refine ⟨0, e2, by omega, fun i hi => by omega, fun th sk i hi => by omega, fun th sk ht => ?_⟩
    rw [if_pos rfl, ← smV_e hv]
    unfold rqV
    rw [if_pos z]
  · obtain ⟨hg, k1⟩ := hg z
    have cg : ∀ (th : Int → Int) (sk : Int → Int) (i : Nat), it (mrR (h 158) th) (sk, 0) i = it (fun i => mrR (h 158) th (0 + i)) (sk, 0) i := fun th sk i => it_cg (fun i _ x => by rw [Nat.zero_add])
    refine ⟨k, e2, by omega, fun i hi => ?_, fun th sk i hi => ?_, fun th sk ht => ?_⟩
    · have := hg.1 i hi
      rw [Nat.zero_add] at this
      exact this
    · obtain ⟨x1, x2, x3, x4⟩ := hg.2 th (sk, 0) (by show (0 : Int) ≤ 0; omega) (by show (0 : Int) + (k : Int) ≤ 80; omega)
      obtain ⟨y1, y2, y3⟩ := x4 i hi
      rw [Nat.zero_add] at y2 y3
      have tp := mr_top (C := h 158) (th := th) (s := (sk, 0)) (l := 0) i
      rw [cg th sk i]
      have tp : (it (fun i => mrR (h 158) th (0 + i)) (sk, 0) i).2 ≤ 0 + (i : Int) := tp
      have y1 : (0 : Int) ≤ (it (fun i => mrR (h 158) th (0 + i)) (sk, 0) i).2 := y1
      exact ⟨y1, by omega, fun w => by have := y2 w; have : (0 : Int) + 1 ≤ (it (fun i => mrR (h 158) th (0 + i)) (sk, 0) i).2 := this; omega, fun w1 w2 => by have := y3 w1 w2; have : (0 : Int) + 2 ≤ (it (fun i => mrR (h 158) th (0 + i)) (sk, 0) i).2 := this; omega⟩
    · obtain ⟨x1, x2, x3, x4⟩ := hg.2 th (sk, 0) (by show (0 : Int) ≤ 0; omega) (by show (0 : Int) + (k : Int) ≤ 80; omega)
      rw [if_neg (by omega), cg th sk k, ← smV_e hv]
      exact x2 ht
end RUA
