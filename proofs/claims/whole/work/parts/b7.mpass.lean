section MPA
variable {k : Nat} {h h1 h2 h3 h4 : Nat → Int → Int} {sem : Sem} {H np nc len n b : Nat} {σ : Int → Int}
theorem T_signIn {ba lo hi0 : Int} {i : Nat} (hi : h 147 16 = i) (hb : h 147 17 = b) (hib : i ≤ b) (hb80 : b ≤ 80) (hσ : ∀ p : Nat, p < b → h 156 p = σ p ∧ 0 ≤ σ p ∧ σ p ≤ 255) (hσn : ∀ p : Nat, b ≤ p → σ p = -1) (hba : 1 ≤ ba ∧ ba ≤ 255) (hlo : 0 ≤ lo ∧ lo ≤ 255) (hhi : -1 ≤ hi0 ∧ hi0 ≤ 255) : MT mX12_signIn 1 [pR 147, pI ba, pI lo, pI hi0] h (some (pI (if lo ≤ σ i - ba ∧ σ i - ba ≤ hi0 then σ i - ba else -1))) (rup h 147 (fup (h 147) 16 (if lo ≤ σ i - ba ∧ σ i - ba ≤ hi0 then (i : Int) + 1 else i))) := by
  have hT := T_X12_signIn (b := ba) (lo := lo) (hi0 := hi0) hi hb hib hb80 (fun p hp => by rw [(hσ p hp).1]; exact (hσ p hp).2) (by omega) hlo hhi
  by_cases q : i < b
  · rw [(hσ i q).1] at hT
    by_cases y : lo ≤ σ i - ba ∧ σ i - ba ≤ hi0
    · rw [if_pos ⟨q, y⟩, if_pos ⟨q, y⟩] at hT
      rw [if_pos y, if_pos y]; exact hT
    · rw [if_neg (fun z => y z.2), if_neg (fun z => y z.2)] at hT
      rw [if_neg y, if_neg y]; exact hT
  · rw [if_neg (fun z => q z.1), if_neg (fun z => q z.1)] at hT
    have := hσn i (by omega)
    rw [if_neg (by omega), if_neg (by omega)]; exact hT
theorem T_X12_faultOf {a : Nat} {ok : Int} (hok : ok = 0 ∨ ok = 1) (ha : h 147 16 = a) (hb : h 147 17 = b) (hab : a ≤ b) (hb47 : b = min n 47) (hn80 : n ≤ 80) (r : Int) (hr : r = if ok = 1 ∧ a = n then 0 else -1 - (a : Int)) : MT mX12_faultOf 0 [pR 147, pI n, pI 47, pI ok] h (some (pI r)) h := by
  refine MT.of (fun Q hQ => (?_ : RR mX12_faultOf _ _ _ _ [pR 147, pI n, pI 47, pI ok, pU] _ _ _))
  rcases hok with z | z
  · subst z
    rw [if_neg (by omega)] at hr
    rw [hr] at hQ
    by_cases y : n > 47
    · by_cases u : a ≥ 47
      · rw [show (a : Int) = 47 by omega] at hQ
        refine R_iload_n dX12_faultOf_0 rfl (?_ : RR _ _ _ _ 1 _ _ _ _)
        refine R_if_eq (t := 19) dX12_faultOf_1 rfl (fun c1 => ?_) (fun c1 => ?_)
        rotate_left
        · exfalso; omega
        refine R_iconst dX12_faultOf_19 (?_ : RR _ _ _ _ 20 _ _ _ _)
        refine R_istore dX12_faultOf_20 (Nat.le_of_ble_eq_true rfl) (?_ : RR _ _ _ _ 22 [_, _, _, _, _] _ _ _)
        refine R_iload_n dX12_faultOf_22 rfl (?_ : RR _ _ _ _ 23 _ _ _ _)
        refine R_iload_n dX12_faultOf_23 rfl (?_ : RR _ _ _ _ 24 _ _ _ _)
        refine R_icmp_le (t := 44) dX12_faultOf_24 rfl (fun c24 => ?_) (fun c24 => ?_)
        · exfalso; omega
        refine R_iload dX12_faultOf_27 rfl (?_ : RR _ _ _ _ 29 _ _ _ _)
        refine R_if_ne (t := 40) dX12_faultOf_29 rfl (fun c29 => ?_) (fun c29 => ?_)
        · exfalso; omega
        refine R_aload_n dX12_faultOf_32 rfl (?_ : RR _ _ _ _ 33 _ _ _ _)
        refine R_geti (z := 16) dX12_faultOf_33 flX12_151 cok_12 rfl (by decide) rfl (fun q33 => (?_ : RR _ _ _ _ 36 _ _ _ _))
        rw [ha] at q33 ⊢
        refine R_iload_n dX12_faultOf_36 rfl (?_ : RR _ _ _ _ 37 _ _ _ _)
        refine R_icmp_lt (t := 44) dX12_faultOf_37 rfl (fun c37 => ?_) (fun c37 => ?_)
        · exfalso; omega
        refine R_iconst dX12_faultOf_40 (?_ : RR _ _ _ _ 41 _ _ _ _)
        refine R_iload_n dX12_faultOf_41 rfl (?_ : RR _ _ _ _ 42 _ _ _ _)
        refine R_isub dX12_faultOf_42 (?_ : RR _ _ _ _ 43 _ _ _ _)
        exact R_ireturn dX12_faultOf_43 trivial hQ
      · refine R_iload_n dX12_faultOf_0 rfl (?_ : RR _ _ _ _ 1 _ _ _ _)
        refine R_if_eq (t := 19) dX12_faultOf_1 rfl (fun c1 => ?_) (fun c1 => ?_)
        rotate_left
        · exfalso; omega
        refine R_iconst dX12_faultOf_19 (?_ : RR _ _ _ _ 20 _ _ _ _)
        refine R_istore dX12_faultOf_20 (Nat.le_of_ble_eq_true rfl) (?_ : RR _ _ _ _ 22 [_, _, _, _, _] _ _ _)
        refine R_iload_n dX12_faultOf_22 rfl (?_ : RR _ _ _ _ 23 _ _ _ _)
        refine R_iload_n dX12_faultOf_23 rfl (?_ : RR _ _ _ _ 24 _ _ _ _)
        refine R_icmp_le (t := 44) dX12_faultOf_24 rfl (fun c24 => ?_) (fun c24 => ?_)
        · exfalso; omega
        refine R_iload dX12_faultOf_27 rfl (?_ : RR _ _ _ _ 29 _ _ _ _)
        refine R_if_ne (t := 40) dX12_faultOf_29 rfl (fun c29 => ?_) (fun c29 => ?_)
        · exfalso; omega
        refine R_aload_n dX12_faultOf_32 rfl (?_ : RR _ _ _ _ 33 _ _ _ _)
        refine R_geti (z := 16) dX12_faultOf_33 flX12_151 cok_12 rfl (by decide) rfl (fun q33 => (?_ : RR _ _ _ _ 36 _ _ _ _))
        rw [ha] at q33 ⊢
        refine R_iload_n dX12_faultOf_36 rfl (?_ : RR _ _ _ _ 37 _ _ _ _)
        refine R_icmp_lt (t := 44) dX12_faultOf_37 rfl (fun c37 => ?_) (fun c37 => ?_)
        rotate_left
        · exfalso; omega
        refine R_iload dX12_faultOf_44 rfl (?_ : RR _ _ _ _ 46 _ _ _ _)
        refine R_if_eq (t := 53) dX12_faultOf_46 rfl (fun c46 => ?_) (fun c46 => ?_)
        rotate_left
        · exfalso; omega
        refine R_iconst dX12_faultOf_53 (?_ : RR _ _ _ _ 54 _ _ _ _)
        refine R_aload_n dX12_faultOf_54 rfl (?_ : RR _ _ _ _ 55 _ _ _ _)
        refine R_geti (z := 16) dX12_faultOf_55 flX12_151 cok_12 rfl (by decide) rfl (fun q55 => (?_ : RR _ _ _ _ 58 _ _ _ _))
        rw [ha] at q55 ⊢
        refine R_isub dX12_faultOf_58 (?_ : RR _ _ _ _ 59 _ _ _ _)
        exact R_ireturn dX12_faultOf_59 trivial hQ
    · refine R_iload_n dX12_faultOf_0 rfl (?_ : RR _ _ _ _ 1 _ _ _ _)
      refine R_if_eq (t := 19) dX12_faultOf_1 rfl (fun c1 => ?_) (fun c1 => ?_)
      rotate_left
      · exfalso; omega
      refine R_iconst dX12_faultOf_19 (?_ : RR _ _ _ _ 20 _ _ _ _)
      refine R_istore dX12_faultOf_20 (Nat.le_of_ble_eq_true rfl) (?_ : RR _ _ _ _ 22 [_, _, _, _, _] _ _ _)
      refine R_iload_n dX12_faultOf_22 rfl (?_ : RR _ _ _ _ 23 _ _ _ _)
      refine R_iload_n dX12_faultOf_23 rfl (?_ : RR _ _ _ _ 24 _ _ _ _)
      refine R_icmp_le (t := 44) dX12_faultOf_24 rfl (fun c24 => ?_) (fun c24 => ?_)
      rotate_left
      · exfalso; omega
      refine R_iload dX12_faultOf_44 rfl (?_ : RR _ _ _ _ 46 _ _ _ _)
      refine R_if_eq (t := 53) dX12_faultOf_46 rfl (fun c46 => ?_) (fun c46 => ?_)
      rotate_left
      · exfalso; omega
      refine R_iconst dX12_faultOf_53 (?_ : RR _ _ _ _ 54 _ _ _ _)
      refine R_aload_n dX12_faultOf_54 rfl (?_ : RR _ _ _ _ 55 _ _ _ _)
      refine R_geti (z := 16) dX12_faultOf_55 flX12_151 cok_12 rfl (by decide) rfl (fun q55 => (?_ : RR _ _ _ _ 58 _ _ _ _))
      rw [ha] at q55 ⊢
      refine R_isub dX12_faultOf_58 (?_ : RR _ _ _ _ 59 _ _ _ _)
      exact R_ireturn dX12_faultOf_59 trivial hQ
  · subst z
    by_cases y : n > 47
    · by_cases u : a = b
      · rw [if_neg (by omega)] at hr
        rw [hr, show (a : Int) = 47 by omega] at hQ
        refine R_iload_n dX12_faultOf_0 rfl (?_ : RR _ _ _ _ 1 _ _ _ _)
        refine R_if_eq (t := 19) dX12_faultOf_1 rfl (fun c1 => ?_) (fun c1 => ?_)
        · exfalso; omega
        refine R_aload_n dX12_faultOf_4 rfl (?_ : RR _ _ _ _ 5 _ _ _ _)
        refine R_geti (z := 16) dX12_faultOf_5 flX12_151 cok_12 rfl (by decide) rfl (fun q5 => (?_ : RR _ _ _ _ 8 _ _ _ _))
        rw [ha] at q5 ⊢
        refine R_aload_n dX12_faultOf_8 rfl (?_ : RR _ _ _ _ 9 _ _ _ _)
        refine R_geti (z := 17) dX12_faultOf_9 flX12_157 cok_12 rfl (by decide) rfl (fun q9 => (?_ : RR _ _ _ _ 12 _ _ _ _))
        rw [hb] at q9 ⊢
        refine R_icmp_ne (t := 19) dX12_faultOf_12 rfl (fun c12 => ?_) (fun c12 => ?_)
        · exfalso; omega
        refine R_iconst dX12_faultOf_15 (?_ : RR _ _ _ _ 16 _ _ _ _)
        refine R_goto (t := 20) dX12_faultOf_16 rfl (?_ : RR _ _ _ _ 20 _ _ _ _)
        refine R_istore dX12_faultOf_20 (Nat.le_of_ble_eq_true rfl) (?_ : RR _ _ _ _ 22 [_, _, _, _, _] _ _ _)
        refine R_iload_n dX12_faultOf_22 rfl (?_ : RR _ _ _ _ 23 _ _ _ _)
        refine R_iload_n dX12_faultOf_23 rfl (?_ : RR _ _ _ _ 24 _ _ _ _)
        refine R_icmp_le (t := 44) dX12_faultOf_24 rfl (fun c24 => ?_) (fun c24 => ?_)
        · exfalso; omega
        refine R_iload dX12_faultOf_27 rfl (?_ : RR _ _ _ _ 29 _ _ _ _)
        refine R_if_ne (t := 40) dX12_faultOf_29 rfl (fun c29 => ?_) (fun c29 => ?_)
        rotate_left
        · exfalso; omega
        refine R_iconst dX12_faultOf_40 (?_ : RR _ _ _ _ 41 _ _ _ _)
        refine R_iload_n dX12_faultOf_41 rfl (?_ : RR _ _ _ _ 42 _ _ _ _)
        refine R_isub dX12_faultOf_42 (?_ : RR _ _ _ _ 43 _ _ _ _)
        exact R_ireturn dX12_faultOf_43 trivial hQ
      · rw [if_neg (by omega)] at hr
        rw [hr] at hQ
        refine R_iload_n dX12_faultOf_0 rfl (?_ : RR _ _ _ _ 1 _ _ _ _)
        refine R_if_eq (t := 19) dX12_faultOf_1 rfl (fun c1 => ?_) (fun c1 => ?_)
        · exfalso; omega
        refine R_aload_n dX12_faultOf_4 rfl (?_ : RR _ _ _ _ 5 _ _ _ _)
        refine R_geti (z := 16) dX12_faultOf_5 flX12_151 cok_12 rfl (by decide) rfl (fun q5 => (?_ : RR _ _ _ _ 8 _ _ _ _))
        rw [ha] at q5 ⊢
        refine R_aload_n dX12_faultOf_8 rfl (?_ : RR _ _ _ _ 9 _ _ _ _)
        refine R_geti (z := 17) dX12_faultOf_9 flX12_157 cok_12 rfl (by decide) rfl (fun q9 => (?_ : RR _ _ _ _ 12 _ _ _ _))
        rw [hb] at q9 ⊢
        refine R_icmp_ne (t := 19) dX12_faultOf_12 rfl (fun c12 => ?_) (fun c12 => ?_)
        rotate_left
        · exfalso; omega
        refine R_iconst dX12_faultOf_19 (?_ : RR _ _ _ _ 20 _ _ _ _)
        refine R_istore dX12_faultOf_20 (Nat.le_of_ble_eq_true rfl) (?_ : RR _ _ _ _ 22 [_, _, _, _, _] _ _ _)
        refine R_iload_n dX12_faultOf_22 rfl (?_ : RR _ _ _ _ 23 _ _ _ _)
        refine R_iload_n dX12_faultOf_23 rfl (?_ : RR _ _ _ _ 24 _ _ _ _)
        refine R_icmp_le (t := 44) dX12_faultOf_24 rfl (fun c24 => ?_) (fun c24 => ?_)
        · exfalso; omega
        refine R_iload dX12_faultOf_27 rfl (?_ : RR _ _ _ _ 29 _ _ _ _)
        refine R_if_ne (t := 40) dX12_faultOf_29 rfl (fun c29 => ?_) (fun c29 => ?_)
        · exfalso; omega
        refine R_aload_n dX12_faultOf_32 rfl (?_ : RR _ _ _ _ 33 _ _ _ _)
        refine R_geti (z := 16) dX12_faultOf_33 flX12_151 cok_12 rfl (by decide) rfl (fun q33 => (?_ : RR _ _ _ _ 36 _ _ _ _))
        rw [ha] at q33 ⊢
        refine R_iload_n dX12_faultOf_36 rfl (?_ : RR _ _ _ _ 37 _ _ _ _)
        refine R_icmp_lt (t := 44) dX12_faultOf_37 rfl (fun c37 => ?_) (fun c37 => ?_)
        rotate_left
        · exfalso; omega
        refine R_iload dX12_faultOf_44 rfl (?_ : RR _ _ _ _ 46 _ _ _ _)
        refine R_if_eq (t := 53) dX12_faultOf_46 rfl (fun c46 => ?_) (fun c46 => ?_)
        rotate_left
        · exfalso; omega
        refine R_iconst dX12_faultOf_53 (?_ : RR _ _ _ _ 54 _ _ _ _)
        refine R_aload_n dX12_faultOf_54 rfl (?_ : RR _ _ _ _ 55 _ _ _ _)
        refine R_geti (z := 16) dX12_faultOf_55 flX12_151 cok_12 rfl (by decide) rfl (fun q55 => (?_ : RR _ _ _ _ 58 _ _ _ _))
        rw [ha] at q55 ⊢
        refine R_isub dX12_faultOf_58 (?_ : RR _ _ _ _ 59 _ _ _ _)
        exact R_ireturn dX12_faultOf_59 trivial hQ
    · by_cases u : a = b
      · rw [if_pos (by omega)] at hr
        rw [hr] at hQ
        refine R_iload_n dX12_faultOf_0 rfl (?_ : RR _ _ _ _ 1 _ _ _ _)
        refine R_if_eq (t := 19) dX12_faultOf_1 rfl (fun c1 => ?_) (fun c1 => ?_)
        · exfalso; omega
        refine R_aload_n dX12_faultOf_4 rfl (?_ : RR _ _ _ _ 5 _ _ _ _)
        refine R_geti (z := 16) dX12_faultOf_5 flX12_151 cok_12 rfl (by decide) rfl (fun q5 => (?_ : RR _ _ _ _ 8 _ _ _ _))
        rw [ha] at q5 ⊢
        refine R_aload_n dX12_faultOf_8 rfl (?_ : RR _ _ _ _ 9 _ _ _ _)
        refine R_geti (z := 17) dX12_faultOf_9 flX12_157 cok_12 rfl (by decide) rfl (fun q9 => (?_ : RR _ _ _ _ 12 _ _ _ _))
        rw [hb] at q9 ⊢
        refine R_icmp_ne (t := 19) dX12_faultOf_12 rfl (fun c12 => ?_) (fun c12 => ?_)
        · exfalso; omega
        refine R_iconst dX12_faultOf_15 (?_ : RR _ _ _ _ 16 _ _ _ _)
        refine R_goto (t := 20) dX12_faultOf_16 rfl (?_ : RR _ _ _ _ 20 _ _ _ _)
        refine R_istore dX12_faultOf_20 (Nat.le_of_ble_eq_true rfl) (?_ : RR _ _ _ _ 22 [_, _, _, _, _] _ _ _)
        refine R_iload_n dX12_faultOf_22 rfl (?_ : RR _ _ _ _ 23 _ _ _ _)
        refine R_iload_n dX12_faultOf_23 rfl (?_ : RR _ _ _ _ 24 _ _ _ _)
        refine R_icmp_le (t := 44) dX12_faultOf_24 rfl (fun c24 => ?_) (fun c24 => ?_)
        rotate_left
        · exfalso; omega
        refine R_iload dX12_faultOf_44 rfl (?_ : RR _ _ _ _ 46 _ _ _ _)
        refine R_if_eq (t := 53) dX12_faultOf_46 rfl (fun c46 => ?_) (fun c46 => ?_)
        · exfalso; omega
        refine R_iconst dX12_faultOf_49 (?_ : RR _ _ _ _ 50 _ _ _ _)
        refine R_goto (t := 59) dX12_faultOf_50 rfl (?_ : RR _ _ _ _ 59 _ _ _ _)
        exact R_ireturn dX12_faultOf_59 trivial hQ
      · rw [if_neg (by omega)] at hr
        rw [hr] at hQ
        refine R_iload_n dX12_faultOf_0 rfl (?_ : RR _ _ _ _ 1 _ _ _ _)
        refine R_if_eq (t := 19) dX12_faultOf_1 rfl (fun c1 => ?_) (fun c1 => ?_)
        · exfalso; omega
        refine R_aload_n dX12_faultOf_4 rfl (?_ : RR _ _ _ _ 5 _ _ _ _)
        refine R_geti (z := 16) dX12_faultOf_5 flX12_151 cok_12 rfl (by decide) rfl (fun q5 => (?_ : RR _ _ _ _ 8 _ _ _ _))
        rw [ha] at q5 ⊢
        refine R_aload_n dX12_faultOf_8 rfl (?_ : RR _ _ _ _ 9 _ _ _ _)
        refine R_geti (z := 17) dX12_faultOf_9 flX12_157 cok_12 rfl (by decide) rfl (fun q9 => (?_ : RR _ _ _ _ 12 _ _ _ _))
        rw [hb] at q9 ⊢
        refine R_icmp_ne (t := 19) dX12_faultOf_12 rfl (fun c12 => ?_) (fun c12 => ?_)
        rotate_left
        · exfalso; omega
        refine R_iconst dX12_faultOf_19 (?_ : RR _ _ _ _ 20 _ _ _ _)
        refine R_istore dX12_faultOf_20 (Nat.le_of_ble_eq_true rfl) (?_ : RR _ _ _ _ 22 [_, _, _, _, _] _ _ _)
        refine R_iload_n dX12_faultOf_22 rfl (?_ : RR _ _ _ _ 23 _ _ _ _)
        refine R_iload_n dX12_faultOf_23 rfl (?_ : RR _ _ _ _ 24 _ _ _ _)
        refine R_icmp_le (t := 44) dX12_faultOf_24 rfl (fun c24 => ?_) (fun c24 => ?_)
        rotate_left
        · exfalso; omega
        refine R_iload dX12_faultOf_44 rfl (?_ : RR _ _ _ _ 46 _ _ _ _)
        refine R_if_eq (t := 53) dX12_faultOf_46 rfl (fun c46 => ?_) (fun c46 => ?_)
        rotate_left
        · exfalso; omega
        refine R_iconst dX12_faultOf_53 (?_ : RR _ _ _ _ 54 _ _ _ _)
        refine R_aload_n dX12_faultOf_54 rfl (?_ : RR _ _ _ _ 55 _ _ _ _)
        refine R_geti (z := 16) dX12_faultOf_55 flX12_151 cok_12 rfl (by decide) rfl (fun q55 => (?_ : RR _ _ _ _ 58 _ _ _ _))
        rw [ha] at q55 ⊢
        refine R_isub dX12_faultOf_58 (?_ : RR _ _ _ _ 59 _ _ _ _)
        exact R_ireturn dX12_faultOf_59 trivial hQ
/-- one line read -/
def rpF (h h1 : Nat → Int → Int) : Prop := (∀ a, a ≠ 147 → a ≠ 157 → h1 a = h a) ∧ ∀ j : Int, j ≠ 16 → j ≠ 20 → h1 147 j = h 147 j
theorem M_readsP {l : Nat} (hH : h 147 3 = H) (hH9 : 1 ≤ H ∧ H ≤ 9) (hnc : h 147 4 = nc) (h6 : nc ≤ 6) (hnp : h 147 5 = np) (hl : np + l ≤ 12) (hi : h 147 16 = ((4 * l : Nat) : Int)) (hb : h 147 17 = b) (hib : 4 * l ≤ b) (hb80 : b ≤ 47) (hm : h 147 20 = l) (hσ : ∀ p : Nat, p < b → h 156 p = σ p ∧ 0 ≤ σ p ∧ σ p ≤ 255) (hσn : ∀ p : Nat, b ≤ p → σ p = -1) : RR mX12_readsPassenger 2 0 0 0 (pm_ent [pR 147] 2) [] (shp0, rf0, h) (fun r' g' => ∃ h2, g' = (shp0, rf0, h2) ∧ rpF h h2 ∧ ((¬ pa1 σ nc np l ∧ r' = some (pI 0) ∧ h2 147 16 = 4 * l) ∨ (pa1 σ nc np l ∧ ¬ pa2 σ H l ∧ r' = some (pI 0) ∧ h2 147 16 = 4 * l + 1) ∨ (pa1 σ nc np l ∧ pa2 σ H l ∧ ¬ pa3 σ l ∧ r' = some (pI 0) ∧ h2 147 16 = 4 * l + 2) ∨ ((pa1 σ nc np l ∧ pa2 σ H l ∧ pa3 σ l) ∧ r' = some (pI 1) ∧ h2 147 16 = 4 * l + 3 ∧ h2 147 20 = l + 1 ∧ 4 * l + 3 ≤ b ∧ (∀ j : Int, j < 3 * l → h2 157 j = h 157 j) ∧ h2 157 (3 * l) = paCo σ l ∧ h2 157 (3 * l + 1) = paWa σ l ∧ h2 157 (3 * l + 2) = paRa σ l))) := by
  show RR _ _ _ _ _ [pR 147, pU] _ _ _
  obtain ⟨Q, hQe⟩ : ∃ Q : Option PV → PH → Prop, Q = (fun r' g' => ∃ h2, g' = (shp0, rf0, h2) ∧ rpF h h2 ∧ ((¬ pa1 σ nc np l ∧ r' = some (pI 0) ∧ h2 147 16 = 4 * l) ∨ (pa1 σ nc np l ∧ ¬ pa2 σ H l ∧ r' = some (pI 0) ∧ h2 147 16 = 4 * l + 1) ∨ (pa1 σ nc np l ∧ pa2 σ H l ∧ ¬ pa3 σ l ∧ r' = some (pI 0) ∧ h2 147 16 = 4 * l + 2) ∨ ((pa1 σ nc np l ∧ pa2 σ H l ∧ pa3 σ l) ∧ r' = some (pI 1) ∧ h2 147 16 = 4 * l + 3 ∧ h2 147 20 = l + 1 ∧ 4 * l + 3 ≤ b ∧ (∀ j : Int, j < 3 * l → h2 157 j = h 157 j) ∧ h2 157 (3 * l) = paCo σ l ∧ h2 157 (3 * l + 1) = paWa σ l ∧ h2 157 (3 * l + 2) = paRa σ l))) := ⟨_, rfl⟩
  rw [← hQe]
  by_cases room : np + l < 12
  · have fr : ∀ h1, rpF h h1 → (∀ p : Nat, p < b → h1 156 p = σ p ∧ 0 ≤ σ p ∧ σ p ≤ 255) ∧ h1 147 17 = b ∧ h1 147 3 = H := fun h1 f1 => ⟨fun p hp => by rw [f1.1 156 (by omega) (by omega)]; exact hσ p hp, by rw [f1.2 17 (by omega) (by omega)]; exact hb, by rw [f1.2 3 (by omega) (by omega)]; exact hH⟩
    /- the end -/
    have S4 : ∀ (h1 : Nat → Int → Int) (x : Int), rpF h h1 → h1 147 20 = l → h1 157 (3 * l + 2) = x → (-1 ≤ x ∧ x ≤ 9) → (∀ h2, rpF h h2 → h2 147 16 = h1 147 16 → h2 147 20 = l + 1 → h2 157 = h1 157 → Q (some (pI (if 0 < x then 1 else 0))) (shp0, rf0, h2)) → RR mX12_readsPassenger 2 0 0 108 [pR 147, pI (3 * l)] [] (shp0, rf0, h1) Q := by
      intro h1 x f1 e20 ex hx KK
      have hq := KK (rup h1 147 (fup (h1 147) 20 ((l : Int) + 1))) ⟨fun a a1 a2 => by rw [rup_n a1]; exact f1.1 a a1 a2, fun j j1 j2 => by rw [rup_s, fup_n j2]; exact f1.2 j j1 j2⟩ (by rw [rup_s, fup_n (by omega)]) (by rw [rup_s, fup_s]) (by rw [rup_n (by omega)])
      by_cases z : 0 < x
      · rw [if_pos z] at hq
        refine R_aload_n dX12_readsPassenger_108 rfl (?_ : RR _ _ _ _ 109 _ _ _ _)
        refine R_dup dX12_readsPassenger_109 (fun _ => rfl) (?_ : RR _ _ _ _ 110 _ _ _ _)
        refine R_geti (z := 20) dX12_readsPassenger_110 flX12_214 cok_12 rfl (by decide) rfl (fun q110 => (?_ : RR _ _ _ _ 113 _ _ _ _))
        rw [e20] at q110 ⊢
        refine R_iconst dX12_readsPassenger_113 (?_ : RR _ _ _ _ 114 _ _ _ _)
        refine R_iadd dX12_readsPassenger_114 (?_ : RR _ _ _ _ 115 _ _ _ _)
        refine R_puti (zk := 20) dX12_readsPassenger_115 flX12_214 cok_12 (by decide) (fun q hq => by cases hq; rfl) rfl (?_ : RR _ _ _ _ 118 _ _ _ _)
        refine R_aload_n dX12_readsPassenger_118 rfl (?_ : RR _ _ _ _ 119 _ _ _ _)
        refine R_getr dX12_readsPassenger_119 flX12_42 cok_12 rfl (by decide) (?_ : RR _ _ _ _ 122 _ _ _ _)
        refine R_iload_n dX12_readsPassenger_122 rfl (?_ : RR _ _ _ _ 123 _ _ _ _)
        refine R_iconst dX12_readsPassenger_123 (?_ : RR _ _ _ _ 124 _ _ _ _)
        refine R_iadd dX12_readsPassenger_124 (?_ : RR _ _ _ _ 125 _ _ _ _)
        refine R_iald dX12_readsPassenger_125 (fun q125 => (?_ : RR _ _ _ _ 126 _ _ _ _))
        rw [rup_n (by omega), ex] at q125 ⊢
        refine R_if_le (t := 133) dX12_readsPassenger_126 rfl (fun c126 => ?_) (fun c126 => ?_)
        · exfalso; omega
        refine R_iconst dX12_readsPassenger_129 (?_ : RR _ _ _ _ 130 _ _ _ _)
        refine R_goto (t := 134) dX12_readsPassenger_130 rfl (?_ : RR _ _ _ _ 134 _ _ _ _)
        exact R_ireturn dX12_readsPassenger_134 (by first | exact Or.inl rfl | exact Or.inr rfl | exact ok_ite | omega) hq
      · rw [if_neg z] at hq
        refine R_aload_n dX12_readsPassenger_108 rfl (?_ : RR _ _ _ _ 109 _ _ _ _)
        refine R_dup dX12_readsPassenger_109 (fun _ => rfl) (?_ : RR _ _ _ _ 110 _ _ _ _)
        refine R_geti (z := 20) dX12_readsPassenger_110 flX12_214 cok_12 rfl (by decide) rfl (fun q110 => (?_ : RR _ _ _ _ 113 _ _ _ _))
        rw [e20] at q110 ⊢
        refine R_iconst dX12_readsPassenger_113 (?_ : RR _ _ _ _ 114 _ _ _ _)
        refine R_iadd dX12_readsPassenger_114 (?_ : RR _ _ _ _ 115 _ _ _ _)
        refine R_puti (zk := 20) dX12_readsPassenger_115 flX12_214 cok_12 (by decide) (fun q hq => by cases hq; rfl) rfl (?_ : RR _ _ _ _ 118 _ _ _ _)
        refine R_aload_n dX12_readsPassenger_118 rfl (?_ : RR _ _ _ _ 119 _ _ _ _)
        refine R_getr dX12_readsPassenger_119 flX12_42 cok_12 rfl (by decide) (?_ : RR _ _ _ _ 122 _ _ _ _)
        refine R_iload_n dX12_readsPassenger_122 rfl (?_ : RR _ _ _ _ 123 _ _ _ _)
        refine R_iconst dX12_readsPassenger_123 (?_ : RR _ _ _ _ 124 _ _ _ _)
        refine R_iadd dX12_readsPassenger_124 (?_ : RR _ _ _ _ 125 _ _ _ _)
        refine R_iald dX12_readsPassenger_125 (fun q125 => (?_ : RR _ _ _ _ 126 _ _ _ _))
        rw [rup_n (by omega), ex] at q125 ⊢
        refine R_if_le (t := 133) dX12_readsPassenger_126 rfl (fun c126 => ?_) (fun c126 => ?_)
        rotate_left
        · exfalso; omega
        refine R_iconst dX12_readsPassenger_133 (?_ : RR _ _ _ _ 134 _ _ _ _)
        exact R_ireturn dX12_readsPassenger_134 (by first | exact Or.inl rfl | exact Or.inr rfl | exact ok_ite | omega) hq
    have S3n : ∀ (h1 : Nat → Int → Int) (y : Int) (a : Nat), rpF h h1 → h1 147 20 = l → h1 147 16 = a → h1 157 (3 * l + 1) = y → (-1 ≤ y ∧ y ≤ 9) → a ≤ b → ¬ (0 ≤ y ∧ 49 ≤ σ a ∧ σ a < 58) → (∀ h2, rpF h h2 → h2 147 16 = a → Q (some (pI 0)) (shp0, rf0, h2)) → RR mX12_readsPassenger 2 0 0 76 [pR 147, pI (3 * l)] [] (shp0, rf0, h1) Q := by
      intro h1 y a f1 e20 e16 ey hy ha hn KK
      have K := S4 (rup h1 157 (fup (h1 157) (3 * l + 2) (-1))) (-1) ⟨fun a a1 a2 => by rw [rup_n a2]; exact f1.1 a a1 a2, fun j j1 j2 => by rw [rup_n (by omega)]; exact f1.2 j j1 j2⟩ (by rw [rup_n (by omega)]; exact e20) (by rw [rup_s, fup_s]) (by omega) (fun h2 f2 g1 g2 g3 => by
        rw [if_neg (by omega)]
        exact KK h2 f2 (by rw [g1, rup_n (by omega)]; exact e16))
      by_cases z : 0 ≤ y
      · have hT := T_signIn (h := h1) (ba := 48) (lo := 1) (hi0 := 9) e16 (fr h1 f1).2.1 ha (by omega) (fr h1 f1).1 hσn (by omega) (by omega) (by omega)
        rw [if_neg (fun w => hn ⟨z, by omega, by omega⟩), if_neg (fun w => hn ⟨z, by omega, by omega⟩), ← e16, fup_self, rup_self] at hT
        refine R_aload_n dX12_readsPassenger_76 rfl (?_ : RR _ _ _ _ 77 _ _ _ _)
        refine R_getr dX12_readsPassenger_77 flX12_42 cok_12 rfl (by decide) (?_ : RR _ _ _ _ 80 _ _ _ _)
        refine R_iload_n dX12_readsPassenger_80 rfl (?_ : RR _ _ _ _ 81 _ _ _ _)
        refine R_iconst dX12_readsPassenger_81 (?_ : RR _ _ _ _ 82 _ _ _ _)
        refine R_iadd dX12_readsPassenger_82 (?_ : RR _ _ _ _ 83 _ _ _ _)
        refine R_aload_n dX12_readsPassenger_83 rfl (?_ : RR _ _ _ _ 84 _ _ _ _)
        refine R_getr dX12_readsPassenger_84 flX12_42 cok_12 rfl (by decide) (?_ : RR _ _ _ _ 87 _ _ _ _)
        refine R_iload_n dX12_readsPassenger_87 rfl (?_ : RR _ _ _ _ 88 _ _ _ _)
        refine R_iconst dX12_readsPassenger_88 (?_ : RR _ _ _ _ 89 _ _ _ _)
        refine R_iadd dX12_readsPassenger_89 (?_ : RR _ _ _ _ 90 _ _ _ _)
        refine R_iald dX12_readsPassenger_90 (fun q90 => (?_ : RR _ _ _ _ 91 _ _ _ _))
        rw [ey] at q90 ⊢
        refine R_if_ge (t := 98) dX12_readsPassenger_91 rfl (fun c91 => ?_) (fun c91 => ?_)
        rotate_left
        · exfalso; omega
        refine R_aload_n dX12_readsPassenger_98 rfl (?_ : RR _ _ _ _ 99 _ _ _ _)
        refine R_bipush dX12_readsPassenger_99 rfl (?_ : RR _ _ _ _ 101 _ _ _ _)
        refine R_iconst dX12_readsPassenger_101 (?_ : RR _ _ _ _ 102 _ _ _ _)
        refine R_bipush dX12_readsPassenger_102 rfl (?_ : RR _ _ _ _ 104 _ _ _ _)
        refine R_cVi3 dX12_readsPassenger_104 mvX12_signIn mlX12_186 (by decide) (by decide) (Nat.le_of_ble_eq_true rfl) (Nat.le_of_ble_eq_true rfl) (hT) (?_ : RR _ _ _ _ 107 _ _ _ _)
        refine R_iast dX12_readsPassenger_107 (?_ : RR _ _ _ _ 108 _ _ _ _)
        exact K
      · refine R_aload_n dX12_readsPassenger_76 rfl (?_ : RR _ _ _ _ 77 _ _ _ _)
        refine R_getr dX12_readsPassenger_77 flX12_42 cok_12 rfl (by decide) (?_ : RR _ _ _ _ 80 _ _ _ _)
        refine R_iload_n dX12_readsPassenger_80 rfl (?_ : RR _ _ _ _ 81 _ _ _ _)
        refine R_iconst dX12_readsPassenger_81 (?_ : RR _ _ _ _ 82 _ _ _ _)
        refine R_iadd dX12_readsPassenger_82 (?_ : RR _ _ _ _ 83 _ _ _ _)
        refine R_aload_n dX12_readsPassenger_83 rfl (?_ : RR _ _ _ _ 84 _ _ _ _)
        refine R_getr dX12_readsPassenger_84 flX12_42 cok_12 rfl (by decide) (?_ : RR _ _ _ _ 87 _ _ _ _)
        refine R_iload_n dX12_readsPassenger_87 rfl (?_ : RR _ _ _ _ 88 _ _ _ _)
        refine R_iconst dX12_readsPassenger_88 (?_ : RR _ _ _ _ 89 _ _ _ _)
        refine R_iadd dX12_readsPassenger_89 (?_ : RR _ _ _ _ 90 _ _ _ _)
        refine R_iald dX12_readsPassenger_90 (fun q90 => (?_ : RR _ _ _ _ 91 _ _ _ _))
        rw [ey] at q90 ⊢
        refine R_if_ge (t := 98) dX12_readsPassenger_91 rfl (fun c91 => ?_) (fun c91 => ?_)
        · exfalso; omega
        refine R_iconst dX12_readsPassenger_94 (?_ : RR _ _ _ _ 95 _ _ _ _)
        refine R_goto (t := 107) dX12_readsPassenger_95 rfl (?_ : RR _ _ _ _ 107 _ _ _ _)
        refine R_iast dX12_readsPassenger_107 (?_ : RR _ _ _ _ 108 _ _ _ _)
        exact K
    have S3y : ∀ (h1 : Nat → Int → Int) (y : Int) (a : Nat), rpF h h1 → h1 147 20 = l → h1 147 16 = a → h1 157 (3 * l + 1) = y → (0 ≤ y ∧ y ≤ 9) → a ≤ b → (49 ≤ σ a ∧ σ a < 58) → (∀ h2, rpF h h2 → h2 147 16 = a + 1 → h2 147 20 = l + 1 → h2 157 = fup (h1 157) (3 * l + 2) (σ a - 48) → Q (some (pI 1)) (shp0, rf0, h2)) → RR mX12_readsPassenger 2 0 0 76 [pR 147, pI (3 * l)] [] (shp0, rf0, h1) Q := by
      intro h1 y a f1 e20 e16 ey hy ha hn KK
      have K := S4 (rup (rup h1 147 (fup (h1 147) 16 ((a : Int) + 1))) 157 (fup (rup h1 147 (fup (h1 147) 16 ((a : Int) + 1)) 157) (3 * l + 2) (σ a - 48))) (σ a - 48) ⟨fun a a1 a2 => by rw [rup_n a2, rup_n a1]; exact f1.1 a a1 a2, fun j j1 j2 => by rw [rup_n (by omega), rup_s, fup_n j1]; exact f1.2 j j1 j2⟩ (by rw [rup_n (by omega), rup_s, fup_n (by omega)]; exact e20) (by rw [rup_s, fup_s]) (by omega) (fun h2 f2 g1 g2 g3 => by
        rw [if_pos (by omega)]
        exact KK h2 f2 (by rw [g1, rup_n (by omega), rup_s, fup_s]) g2 (by rw [g3, rup_s, rup_n (by omega)]))
      have hT := T_signIn (h := h1) (ba := 48) (lo := 1) (hi0 := 9) e16 (fr h1 f1).2.1 ha (by omega) (fr h1 f1).1 hσn (by omega) (by omega) (by omega)
      rw [if_pos (by omega), if_pos (by omega)] at hT
      refine R_aload_n dX12_readsPassenger_76 rfl (?_ : RR _ _ _ _ 77 _ _ _ _)
      refine R_getr dX12_readsPassenger_77 flX12_42 cok_12 rfl (by decide) (?_ : RR _ _ _ _ 80 _ _ _ _)
      refine R_iload_n dX12_readsPassenger_80 rfl (?_ : RR _ _ _ _ 81 _ _ _ _)
      refine R_iconst dX12_readsPassenger_81 (?_ : RR _ _ _ _ 82 _ _ _ _)
      refine R_iadd dX12_readsPassenger_82 (?_ : RR _ _ _ _ 83 _ _ _ _)
      refine R_aload_n dX12_readsPassenger_83 rfl (?_ : RR _ _ _ _ 84 _ _ _ _)
      refine R_getr dX12_readsPassenger_84 flX12_42 cok_12 rfl (by decide) (?_ : RR _ _ _ _ 87 _ _ _ _)
      refine R_iload_n dX12_readsPassenger_87 rfl (?_ : RR _ _ _ _ 88 _ _ _ _)
      refine R_iconst dX12_readsPassenger_88 (?_ : RR _ _ _ _ 89 _ _ _ _)
      refine R_iadd dX12_readsPassenger_89 (?_ : RR _ _ _ _ 90 _ _ _ _)
      refine R_iald dX12_readsPassenger_90 (fun q90 => (?_ : RR _ _ _ _ 91 _ _ _ _))
      rw [ey] at q90 ⊢
      refine R_if_ge (t := 98) dX12_readsPassenger_91 rfl (fun c91 => ?_) (fun c91 => ?_)
      rotate_left
      · exfalso; omega
      refine R_aload_n dX12_readsPassenger_98 rfl (?_ : RR _ _ _ _ 99 _ _ _ _)
      refine R_bipush dX12_readsPassenger_99 rfl (?_ : RR _ _ _ _ 101 _ _ _ _)
      refine R_iconst dX12_readsPassenger_101 (?_ : RR _ _ _ _ 102 _ _ _ _)
      refine R_bipush dX12_readsPassenger_102 rfl (?_ : RR _ _ _ _ 104 _ _ _ _)
      refine R_cVi3 dX12_readsPassenger_104 mvX12_signIn mlX12_186 (by decide) (by decide) (Nat.le_of_ble_eq_true rfl) (Nat.le_of_ble_eq_true rfl) (hT) (?_ : RR _ _ _ _ 107 _ _ _ _)
      refine R_iast dX12_readsPassenger_107 (?_ : RR _ _ _ _ 108 _ _ _ _)
      exact K
    have S2n : ∀ (h1 : Nat → Int → Int) (x : Int) (a : Nat), rpF h h1 → h1 147 20 = l → h1 147 16 = a → h1 157 (3 * l) = x → (-1 ≤ x ∧ x ≤ 9) → a ≤ b → ¬ (0 ≤ x ∧ 97 ≤ σ a ∧ σ a < 97 + (H : Int)) → (∀ h2, rpF h h2 → h2 147 16 = a → Q (some (pI 0)) (shp0, rf0, h2)) → RR mX12_readsPassenger 2 0 0 42 [pR 147, pI (3 * l)] [] (shp0, rf0, h1) Q := by
      intro h1 x a f1 e20 e16 ex hx ha hn KK
      have g3 := (fr h1 f1).2.2
      have K := S3n (rup h1 157 (fup (h1 157) (3 * l + 1) (-1))) (-1) a ⟨fun a a1 a2 => by rw [rup_n a2]; exact f1.1 a a1 a2, fun j j1 j2 => by rw [rup_n (by omega)]; exact f1.2 j j1 j2⟩ (by rw [rup_n (by omega)]; exact e20) (by rw [rup_n (by omega)]; exact e16) (by rw [rup_s, fup_s]) (by omega) ha (by omega) KK
      by_cases z : 0 ≤ x
      · have hT := T_signIn (h := h1) (ba := 97) (lo := 0) (hi0 := (H : Int) - 1) e16 (fr h1 f1).2.1 ha (by omega) (fr h1 f1).1 hσn (by omega) (by omega) (by omega)
        rw [if_neg (fun w => hn ⟨z, by omega, by omega⟩), if_neg (fun w => hn ⟨z, by omega, by omega⟩), ← e16, fup_self, rup_self] at hT
        refine R_aload_n dX12_readsPassenger_42 rfl (?_ : RR _ _ _ _ 43 _ _ _ _)
        refine R_getr dX12_readsPassenger_43 flX12_42 cok_12 rfl (by decide) (?_ : RR _ _ _ _ 46 _ _ _ _)
        refine R_iload_n dX12_readsPassenger_46 rfl (?_ : RR _ _ _ _ 47 _ _ _ _)
        refine R_iconst dX12_readsPassenger_47 (?_ : RR _ _ _ _ 48 _ _ _ _)
        refine R_iadd dX12_readsPassenger_48 (?_ : RR _ _ _ _ 49 _ _ _ _)
        refine R_aload_n dX12_readsPassenger_49 rfl (?_ : RR _ _ _ _ 50 _ _ _ _)
        refine R_getr dX12_readsPassenger_50 flX12_42 cok_12 rfl (by decide) (?_ : RR _ _ _ _ 53 _ _ _ _)
        refine R_iload_n dX12_readsPassenger_53 rfl (?_ : RR _ _ _ _ 54 _ _ _ _)
        refine R_iald dX12_readsPassenger_54 (fun q54 => (?_ : RR _ _ _ _ 55 _ _ _ _))
        rw [ex] at q54 ⊢
        refine R_if_ge (t := 62) dX12_readsPassenger_55 rfl (fun c55 => ?_) (fun c55 => ?_)
        rotate_left
        · exfalso; omega
        refine R_aload_n dX12_readsPassenger_62 rfl (?_ : RR _ _ _ _ 63 _ _ _ _)
        refine R_bipush dX12_readsPassenger_63 rfl (?_ : RR _ _ _ _ 65 _ _ _ _)
        refine R_iconst dX12_readsPassenger_65 (?_ : RR _ _ _ _ 66 _ _ _ _)
        refine R_aload_n dX12_readsPassenger_66 rfl (?_ : RR _ _ _ _ 67 _ _ _ _)
        refine R_geti (z := 3) dX12_readsPassenger_67 flX12_13 cok_12 rfl (by decide) rfl (fun q67 => (?_ : RR _ _ _ _ 70 _ _ _ _))
        rw [g3] at q67 ⊢
        refine R_iconst dX12_readsPassenger_70 (?_ : RR _ _ _ _ 71 _ _ _ _)
        refine R_isub dX12_readsPassenger_71 (?_ : RR _ _ _ _ 72 _ _ _ _)
        refine R_cVi3 dX12_readsPassenger_72 mvX12_signIn mlX12_186 (by decide) (by decide) (Nat.le_of_ble_eq_true rfl) (Nat.le_of_ble_eq_true rfl) (hT) (?_ : RR _ _ _ _ 75 _ _ _ _)
        refine R_iast dX12_readsPassenger_75 (?_ : RR _ _ _ _ 76 _ _ _ _)
        exact K
      · refine R_aload_n dX12_readsPassenger_42 rfl (?_ : RR _ _ _ _ 43 _ _ _ _)
        refine R_getr dX12_readsPassenger_43 flX12_42 cok_12 rfl (by decide) (?_ : RR _ _ _ _ 46 _ _ _ _)
        refine R_iload_n dX12_readsPassenger_46 rfl (?_ : RR _ _ _ _ 47 _ _ _ _)
        refine R_iconst dX12_readsPassenger_47 (?_ : RR _ _ _ _ 48 _ _ _ _)
        refine R_iadd dX12_readsPassenger_48 (?_ : RR _ _ _ _ 49 _ _ _ _)
        refine R_aload_n dX12_readsPassenger_49 rfl (?_ : RR _ _ _ _ 50 _ _ _ _)
        refine R_getr dX12_readsPassenger_50 flX12_42 cok_12 rfl (by decide) (?_ : RR _ _ _ _ 53 _ _ _ _)
        refine R_iload_n dX12_readsPassenger_53 rfl (?_ : RR _ _ _ _ 54 _ _ _ _)
        refine R_iald dX12_readsPassenger_54 (fun q54 => (?_ : RR _ _ _ _ 55 _ _ _ _))
        rw [ex] at q54 ⊢
        refine R_if_ge (t := 62) dX12_readsPassenger_55 rfl (fun c55 => ?_) (fun c55 => ?_)
        · exfalso; omega
        refine R_iconst dX12_readsPassenger_58 (?_ : RR _ _ _ _ 59 _ _ _ _)
        refine R_goto (t := 75) dX12_readsPassenger_59 rfl (?_ : RR _ _ _ _ 75 _ _ _ _)
        refine R_iast dX12_readsPassenger_75 (?_ : RR _ _ _ _ 76 _ _ _ _)
        exact K
    have S2y : ∀ (h1 : Nat → Int → Int) (x : Int) (a : Nat), h1 157 (3 * l) = x → (0 ≤ x ∧ x ≤ 9) → rpF h h1 → h1 147 16 = a → a ≤ b → (97 ≤ σ a ∧ σ a < 97 + (H : Int)) → (∀ h2, rpF h h2 → h2 147 20 = h1 147 20 → h2 147 16 = a + 1 → h2 157 = fup (h1 157) (3 * l + 1) (σ a - 97) → RR mX12_readsPassenger 2 0 0 76 [pR 147, pI (3 * l)] [] (shp0, rf0, h2) Q) → RR mX12_readsPassenger 2 0 0 42 [pR 147, pI (3 * l)] [] (shp0, rf0, h1) Q := by
      intro h1 x a ex hx f1 e16 ha hn KK
      have g3 := (fr h1 f1).2.2
      have K := KK (rup (rup h1 147 (fup (h1 147) 16 ((a : Int) + 1))) 157 (fup (rup h1 147 (fup (h1 147) 16 ((a : Int) + 1)) 157) (3 * l + 1) (σ a - 97))) ⟨fun a a1 a2 => by rw [rup_n a2, rup_n a1]; exact f1.1 a a1 a2, fun j j1 j2 => by rw [rup_n (by omega), rup_s, fup_n j1]; exact f1.2 j j1 j2⟩ (by rw [rup_n (by omega), rup_s, fup_n (by omega)]) (by rw [rup_n (by omega), rup_s, fup_s]) (by rw [rup_s, rup_n (by omega)])
      have hT := T_signIn (h := h1) (ba := 97) (lo := 0) (hi0 := (H : Int) - 1) e16 (fr h1 f1).2.1 ha (by omega) (fr h1 f1).1 hσn (by omega) (by omega) (by omega)
      rw [if_pos (by omega), if_pos (by omega)] at hT
      refine R_aload_n dX12_readsPassenger_42 rfl (?_ : RR _ _ _ _ 43 _ _ _ _)
      refine R_getr dX12_readsPassenger_43 flX12_42 cok_12 rfl (by decide) (?_ : RR _ _ _ _ 46 _ _ _ _)
      refine R_iload_n dX12_readsPassenger_46 rfl (?_ : RR _ _ _ _ 47 _ _ _ _)
      refine R_iconst dX12_readsPassenger_47 (?_ : RR _ _ _ _ 48 _ _ _ _)
      refine R_iadd dX12_readsPassenger_48 (?_ : RR _ _ _ _ 49 _ _ _ _)
      refine R_aload_n dX12_readsPassenger_49 rfl (?_ : RR _ _ _ _ 50 _ _ _ _)
      refine R_getr dX12_readsPassenger_50 flX12_42 cok_12 rfl (by decide) (?_ : RR _ _ _ _ 53 _ _ _ _)
      refine R_iload_n dX12_readsPassenger_53 rfl (?_ : RR _ _ _ _ 54 _ _ _ _)
      refine R_iald dX12_readsPassenger_54 (fun q54 => (?_ : RR _ _ _ _ 55 _ _ _ _))
      rw [ex] at q54 ⊢
      refine R_if_ge (t := 62) dX12_readsPassenger_55 rfl (fun c55 => ?_) (fun c55 => ?_)
      rotate_left
      · exfalso; omega
      refine R_aload_n dX12_readsPassenger_62 rfl (?_ : RR _ _ _ _ 63 _ _ _ _)
      refine R_bipush dX12_readsPassenger_63 rfl (?_ : RR _ _ _ _ 65 _ _ _ _)
      refine R_iconst dX12_readsPassenger_65 (?_ : RR _ _ _ _ 66 _ _ _ _)
      refine R_aload_n dX12_readsPassenger_66 rfl (?_ : RR _ _ _ _ 67 _ _ _ _)
      refine R_geti (z := 3) dX12_readsPassenger_67 flX12_13 cok_12 rfl (by decide) rfl (fun q67 => (?_ : RR _ _ _ _ 70 _ _ _ _))
      rw [g3] at q67 ⊢
      refine R_iconst dX12_readsPassenger_70 (?_ : RR _ _ _ _ 71 _ _ _ _)
      refine R_isub dX12_readsPassenger_71 (?_ : RR _ _ _ _ 72 _ _ _ _)
      refine R_cVi3 dX12_readsPassenger_72 mvX12_signIn mlX12_186 (by decide) (by decide) (Nat.le_of_ble_eq_true rfl) (Nat.le_of_ble_eq_true rfl) (hT) (?_ : RR _ _ _ _ 75 _ _ _ _)
      refine R_iast dX12_readsPassenger_75 (?_ : RR _ _ _ _ 76 _ _ _ _)
      exact K
    have hT := T_signIn (h := h) (ba := 48) (lo := 0) (hi0 := (nc : Int) - 1) (i := 4 * l) hi hb hib (by omega) hσ hσn (by omega) (by omega) (by omega)
    have c4 : ((4 * l : Nat) : Int) = 4 * (l : Int) := by omega
    rw [c4] at hT
    have l11 : l ≤ 11 := by omega
    by_cases a1 : 48 ≤ σ (4 * l) ∧ σ (4 * l) < 48 + (nc : Int)
    · rw [if_pos (by omega), if_pos (by omega)] at hT
      have p1 : pa1 σ nc np l := ⟨room, a1⟩
      have hib1 : 4 * l + 1 ≤ b := by
        by_cases z : 4 * l < b
        · omega
        · have := hσn (4 * l) (by omega)
          rw [c4] at this
          omega
      obtain ⟨h5, h5e⟩ : ∃ h5, h5 = rup (rup h 147 (fup (h 147) 16 (4 * (l : Int) + 1))) 157 (fup (rup h 147 (fup (h 147) 16 (4 * (l : Int) + 1)) 157) (3 * l) (σ (4 * l) - 48)) := ⟨_, rfl⟩
      have f5 : rpF h h5 := ⟨fun a a1 a2 => by rw [h5e, rup_n a2, rup_n a1], fun j j1 j2 => by rw [h5e, rup_n (by omega), rup_s, fup_n j1]⟩
      have e516 : h5 147 16 = ((4 * l + 1 : Nat) : Int) := by rw [h5e, rup_n (by omega), rup_s, fup_s]; omega
      have e520 : h5 147 20 = l := by rw [h5e, rup_n (by omega), rup_s, fup_n (by omega)]; exact hm
      have e5r : h5 157 = fup (h 157) (3 * l) (σ (4 * l) - 48) := by rw [h5e, rup_s, rup_n (by omega)]
      have K42 : RR mX12_readsPassenger 2 0 0 42 [pR 147, pI (3 * l)] [] (shp0, rf0, h5) Q := by
        by_cases a2 : pa2 σ H l
        · have a2' := a2
          unfold pa2 at a2'
          have c5 : ((4 * l + 1 : Nat) : Int) = 4 * (l : Int) + 1 := by omega
          have hib2 : 4 * l + 2 ≤ b := by
            by_cases z : 4 * l + 1 < b
            · omega
            · have := hσn (4 * l + 1) (by omega)
              rw [c5] at this
              omega
          refine S2y h5 (σ (4 * l) - 48) (4 * l + 1) (by rw [e5r, fup_s]) (by omega) f5 e516 hib1 (by rw [c5]; exact a2') (fun h6 f6 g20 g16 gr => ?_)
          rw [c5] at g16 gr
          have g16' : h6 147 16 = ((4 * l + 2 : Nat) : Int) := by rw [g16]; omega
          have c6 : ((4 * l + 2 : Nat) : Int) = 4 * (l : Int) + 2 := by omega
          have g20' : h6 147 20 = l := by rw [g20]; exact e520
          have gy : h6 157 (3 * l + 1) = σ (4 * l + 1) - 97 := by rw [gr, fup_s]
          by_cases a3 : pa3 σ l
          · have a3' := a3
            unfold pa3 at a3'
            have hib3 : 4 * l + 3 ≤ b := by
              by_cases z : 4 * l + 2 < b
              · omega
              · have := hσn (4 * l + 2) (by omega)
                rw [c6] at this
                omega
            refine S3y h6 (σ (4 * l + 1) - 97) (4 * l + 2) f6 g20' g16' gy (by omega) hib2 (by rw [c6]; exact a3') (fun h7 f7 k16 k20 kr => ?_)
            rw [c6] at k16 kr
            rw [hQe]
            exact ⟨h7, rfl, f7, Or.inr (Or.inr (Or.inr ⟨⟨p1, a2, a3⟩, rfl, by rw [k16]; omega, k20, hib3, fun j hj => by rw [kr, fup_n (by omega), gr, fup_n (by omega), e5r, fup_n (by omega)], by rw [kr, fup_n (by omega), gr, fup_n (by omega), e5r, fup_s]; rfl, by rw [kr, fup_n (by omega), gr, fup_s]; rfl, by rw [kr, fup_s]; rfl⟩))⟩
          · refine S3n h6 (σ (4 * l + 1) - 97) (4 * l + 2) f6 g20' g16' gy (by omega) hib2 (fun w => a3 (by unfold pa3; rw [c6] at w; exact w.2)) (fun h7 f7 k16 => ?_)
            rw [hQe]
            exact ⟨h7, rfl, f7, Or.inr (Or.inr (Or.inl ⟨p1, a2, a3, rfl, by rw [k16]; omega⟩))⟩
        · refine S2n h5 (σ (4 * l) - 48) (4 * l + 1) f5 e520 e516 (by rw [e5r, fup_s]) (by omega) hib1 (fun w => a2 (by unfold pa2; rw [show ((4 * l + 1 : Nat) : Int) = 4 * (l : Int) + 1 by omega] at w; exact w.2)) (fun h7 f7 k16 => ?_)
          rw [hQe]
          exact ⟨h7, rfl, f7, Or.inr (Or.inl ⟨p1, a2, rfl, by rw [k16]; omega⟩)⟩
      refine R_aload_n dX12_readsPassenger_0 rfl (?_ : RR _ _ _ _ 1 _ _ _ _)
      refine R_geti (z := 5) dX12_readsPassenger_1 flX12_127 cok_12 rfl (by decide) rfl (fun q1 => (?_ : RR _ _ _ _ 4 _ _ _ _))
      rw [hnp] at q1 ⊢
      refine R_aload_n dX12_readsPassenger_4 rfl (?_ : RR _ _ _ _ 5 _ _ _ _)
      refine R_geti (z := 20) dX12_readsPassenger_5 flX12_214 cok_12 rfl (by decide) rfl (fun q5 => (?_ : RR _ _ _ _ 8 _ _ _ _))
      rw [hm] at q5 ⊢
      refine R_iadd dX12_readsPassenger_8 (?_ : RR _ _ _ _ 9 _ _ _ _)
      refine R_bipush dX12_readsPassenger_9 rfl (?_ : RR _ _ _ _ 11 _ _ _ _)
      refine R_icmp_ne (t := 16) dX12_readsPassenger_11 rfl (fun c11 => ?_) (fun c11 => ?_)
      rotate_left
      · exfalso; omega
      refine R_iconst dX12_readsPassenger_16 (?_ : RR _ _ _ _ 17 _ _ _ _)
      refine R_aload_n dX12_readsPassenger_17 rfl (?_ : RR _ _ _ _ 18 _ _ _ _)
      refine R_geti (z := 20) dX12_readsPassenger_18 flX12_214 cok_12 rfl (by decide) rfl (fun q18 => (?_ : RR _ _ _ _ 21 _ _ _ _))
      rw [hm] at q18 ⊢
      refine R_imul dX12_readsPassenger_21 (?_ : RR _ _ _ _ 22 _ _ _ _)
      refine R_istore_n dX12_readsPassenger_22 (Nat.le_of_ble_eq_true rfl) (?_ : RR _ _ _ _ 23 [_, _] _ _ _)
      refine R_aload_n dX12_readsPassenger_23 rfl (?_ : RR _ _ _ _ 24 _ _ _ _)
      refine R_getr dX12_readsPassenger_24 flX12_42 cok_12 rfl (by decide) (?_ : RR _ _ _ _ 27 _ _ _ _)
      refine R_iload_n dX12_readsPassenger_27 rfl (?_ : RR _ _ _ _ 28 _ _ _ _)
      refine R_aload_n dX12_readsPassenger_28 rfl (?_ : RR _ _ _ _ 29 _ _ _ _)
      refine R_bipush dX12_readsPassenger_29 rfl (?_ : RR _ _ _ _ 31 _ _ _ _)
      refine R_iconst dX12_readsPassenger_31 (?_ : RR _ _ _ _ 32 _ _ _ _)
      refine R_aload_n dX12_readsPassenger_32 rfl (?_ : RR _ _ _ _ 33 _ _ _ _)
      refine R_geti (z := 4) dX12_readsPassenger_33 flX12_124 cok_12 rfl (by decide) rfl (fun q33 => (?_ : RR _ _ _ _ 36 _ _ _ _))
      rw [hnc] at q33 ⊢
      refine R_iconst dX12_readsPassenger_36 (?_ : RR _ _ _ _ 37 _ _ _ _)
      refine R_isub dX12_readsPassenger_37 (?_ : RR _ _ _ _ 38 _ _ _ _)
      refine R_cVi3 dX12_readsPassenger_38 mvX12_signIn mlX12_186 (by decide) (by decide) (Nat.le_of_ble_eq_true rfl) (Nat.le_of_ble_eq_true rfl) (hT) (?_ : RR _ _ _ _ 41 _ _ _ _)
      refine R_iast dX12_readsPassenger_41 (?_ : RR _ _ _ _ 42 _ _ _ _)
      rw [← h5e]
      exact K42
    · rw [if_neg (by omega), if_neg (by omega), show (4 * (l : Int)) = h 147 16 by rw [hi]; omega, fup_self, rup_self] at hT
      obtain ⟨h5, h5e⟩ : ∃ h5, h5 = rup h 157 (fup (h 157) (3 * l) (-1)) := ⟨_, rfl⟩
      have K42 := S2n h5 (-1) (4 * l) ⟨fun a a1 a2 => by rw [h5e, rup_n a2], fun j j1 j2 => by rw [h5e, rup_n (by omega)]⟩ (by rw [h5e, rup_n (by omega)]; exact hm) (by rw [h5e, rup_n (by omega)]; exact hi) (by rw [h5e, rup_s, fup_s]) (by omega) hib (by omega) (fun h7 f7 k16 => by
        rw [hQe]
        exact ⟨h7, rfl, f7, Or.inl ⟨fun w => a1 w.2, rfl, by rw [k16]; omega⟩⟩)
      refine R_aload_n dX12_readsPassenger_0 rfl (?_ : RR _ _ _ _ 1 _ _ _ _)
      refine R_geti (z := 5) dX12_readsPassenger_1 flX12_127 cok_12 rfl (by decide) rfl (fun q1 => (?_ : RR _ _ _ _ 4 _ _ _ _))
      rw [hnp] at q1 ⊢
      refine R_aload_n dX12_readsPassenger_4 rfl (?_ : RR _ _ _ _ 5 _ _ _ _)
      refine R_geti (z := 20) dX12_readsPassenger_5 flX12_214 cok_12 rfl (by decide) rfl (fun q5 => (?_ : RR _ _ _ _ 8 _ _ _ _))
      rw [hm] at q5 ⊢
      refine R_iadd dX12_readsPassenger_8 (?_ : RR _ _ _ _ 9 _ _ _ _)
      refine R_bipush dX12_readsPassenger_9 rfl (?_ : RR _ _ _ _ 11 _ _ _ _)
      refine R_icmp_ne (t := 16) dX12_readsPassenger_11 rfl (fun c11 => ?_) (fun c11 => ?_)
      rotate_left
      · exfalso; omega
      refine R_iconst dX12_readsPassenger_16 (?_ : RR _ _ _ _ 17 _ _ _ _)
      refine R_aload_n dX12_readsPassenger_17 rfl (?_ : RR _ _ _ _ 18 _ _ _ _)
      refine R_geti (z := 20) dX12_readsPassenger_18 flX12_214 cok_12 rfl (by decide) rfl (fun q18 => (?_ : RR _ _ _ _ 21 _ _ _ _))
      rw [hm] at q18 ⊢
      refine R_imul dX12_readsPassenger_21 (?_ : RR _ _ _ _ 22 _ _ _ _)
      refine R_istore_n dX12_readsPassenger_22 (Nat.le_of_ble_eq_true rfl) (?_ : RR _ _ _ _ 23 [_, _] _ _ _)
      refine R_aload_n dX12_readsPassenger_23 rfl (?_ : RR _ _ _ _ 24 _ _ _ _)
      refine R_getr dX12_readsPassenger_24 flX12_42 cok_12 rfl (by decide) (?_ : RR _ _ _ _ 27 _ _ _ _)
      refine R_iload_n dX12_readsPassenger_27 rfl (?_ : RR _ _ _ _ 28 _ _ _ _)
      refine R_aload_n dX12_readsPassenger_28 rfl (?_ : RR _ _ _ _ 29 _ _ _ _)
      refine R_bipush dX12_readsPassenger_29 rfl (?_ : RR _ _ _ _ 31 _ _ _ _)
      refine R_iconst dX12_readsPassenger_31 (?_ : RR _ _ _ _ 32 _ _ _ _)
      refine R_aload_n dX12_readsPassenger_32 rfl (?_ : RR _ _ _ _ 33 _ _ _ _)
      refine R_geti (z := 4) dX12_readsPassenger_33 flX12_124 cok_12 rfl (by decide) rfl (fun q33 => (?_ : RR _ _ _ _ 36 _ _ _ _))
      rw [hnc] at q33 ⊢
      refine R_iconst dX12_readsPassenger_36 (?_ : RR _ _ _ _ 37 _ _ _ _)
      refine R_isub dX12_readsPassenger_37 (?_ : RR _ _ _ _ 38 _ _ _ _)
      refine R_cVi3 dX12_readsPassenger_38 mvX12_signIn mlX12_186 (by decide) (by decide) (Nat.le_of_ble_eq_true rfl) (Nat.le_of_ble_eq_true rfl) (hT) (?_ : RR _ _ _ _ 41 _ _ _ _)
      refine R_iast dX12_readsPassenger_41 (?_ : RR _ _ _ _ 42 _ _ _ _)
      rw [← h5e]
      exact K42
  · have hq : Q (some (pI 0)) (shp0, rf0, h) := by
      rw [hQe]
      exact ⟨h, rfl, ⟨fun _ _ _ => rfl, fun _ _ _ => rfl⟩, Or.inl ⟨fun w => room w.1, rfl, by rw [hi]; omega⟩⟩
    refine R_aload_n dX12_readsPassenger_0 rfl (?_ : RR _ _ _ _ 1 _ _ _ _)
    refine R_geti (z := 5) dX12_readsPassenger_1 flX12_127 cok_12 rfl (by decide) rfl (fun q1 => (?_ : RR _ _ _ _ 4 _ _ _ _))
    rw [hnp] at q1 ⊢
    refine R_aload_n dX12_readsPassenger_4 rfl (?_ : RR _ _ _ _ 5 _ _ _ _)
    refine R_geti (z := 20) dX12_readsPassenger_5 flX12_214 cok_12 rfl (by decide) rfl (fun q5 => (?_ : RR _ _ _ _ 8 _ _ _ _))
    rw [hm] at q5 ⊢
    refine R_iadd dX12_readsPassenger_8 (?_ : RR _ _ _ _ 9 _ _ _ _)
    refine R_bipush dX12_readsPassenger_9 rfl (?_ : RR _ _ _ _ 11 _ _ _ _)
    refine R_icmp_ne (t := 16) dX12_readsPassenger_11 rfl (fun c11 => ?_) (fun c11 => ?_)
    · exfalso; omega
    refine R_iconst dX12_readsPassenger_14 (?_ : RR _ _ _ _ 15 _ _ _ _)
    exact R_ireturn dX12_readsPassenger_15 (by first | exact Or.inl rfl | exact Or.inr rfl | exact ok_ite | omega) hq
end MPA
