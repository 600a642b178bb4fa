section NI2
variable {k : Nat} {h h1 h2 h3 h4 : Nat → Int → Int} {n b i : Nat} {σ : Int → Int}
theorem stE4 : stN 4 = 6 ∧ stC 4 0 = 114 ∧ stC 4 1 = 99 ∧ stC 4 2 = 120 ∧ stC 4 3 = 103 ∧ stC 4 4 = 119 ∧ stC 4 5 = 115 := by decide +kernel
theorem stE5 : stN 5 = 12 ∧ stC 5 0 = 97 ∧ stC 5 1 = 98 ∧ stC 5 2 = 99 ∧ stC 5 3 = 100 ∧ stC 5 4 = 101 ∧ stC 5 5 = 102 ∧ stC 5 6 = 103 ∧ stC 5 7 = 104 ∧ stC 5 8 = 105 ∧ stC 5 9 = 106 ∧ stC 5 10 = 107 ∧ stC 5 11 = 108 := by decide +kernel
theorem amI_4 {c : Int} : amI 4 c = if c = 114 then 0 else if c = 99 then 1 else if c = 120 then 2 else if c = 103 then 3 else if c = 119 then 4 else if c = 115 then 5 else -1 := by
  obtain ⟨e, e0, e1, e2, e3, e4, e5⟩ := stE4
  unfold amI
  rw [e]
  unfold amgG amgG amgG amgG amgG amgG amgG
  rw [e0, e1, e2, e3, e4, e5]
  repeat' split
  all_goals omega
theorem amI_5 {c : Int} : amI 5 c = if 97 ≤ c ∧ c ≤ 108 then c - 97 else -1 := by
  obtain ⟨e, e0, e1, e2, e3, e4, e5, e6, e7, e8, e9, e10, e11⟩ := stE5
  unfold amI
  rw [e]
  unfold amgG amgG amgG amgG amgG amgG amgG amgG amgG amgG amgG amgG amgG
  rw [e0, e1, e2, e3, e4, e5, e6, e7, e8, e9, e10, e11]
  by_cases q : 97 ≤ c ∧ c ≤ 108
  · rw [if_pos q]
    obtain ⟨m, hm⟩ : ∃ m : Nat, c = 97 + m ∧ m < 12 := ⟨(c - 97).toNat, by omega⟩
    obtain ⟨rfl, hm⟩ := hm
    have : m = 0 ∨ m = 1 ∨ m = 2 ∨ m = 3 ∨ m = 4 ∨ m = 5 ∨ m = 6 ∨ m = 7 ∨ m = 8 ∨ m = 9 ∨ m = 10 ∨ m = 11 := by omega
    rcases this with rfl | rfl | rfl | rfl | rfl | rfl | rfl | rfl | rfl | rfl | rfl | rfl <;> decide
  · rw [if_neg q, if_neg (by omega), if_neg (by omega), if_neg (by omega), if_neg (by omega), if_neg (by omega), if_neg (by omega), if_neg (by omega), if_neg (by omega), if_neg (by omega), if_neg (by omega), if_neg (by omega), if_neg (by omega)]
/-- the frame of reading an act -/
def raF (h h1 : Nat → Int → Int) (k : Nat) : Prop := (∀ a, a ≠ 147 → a ≠ 164 → a ≠ 165 → a ≠ 166 → h1 a = h a) ∧ (∀ j : Int, j ≠ 16 → j ≠ 34 → h1 147 j = h 147 j) ∧ ∀ j : Int, j ≠ k → h1 164 j = h 164 j ∧ h1 165 j = h 165 j ∧ h1 166 j = h 166 j
/-- what an act says -/
def raV (σ : Int → Int) (p k : Nat) (h1 : Nat → Int → Int) : Prop := h1 164 k = amI 4 (σ p) ∧ (σ p = 120 ∨ σ p = 115 ∨ σ p = 103 → h1 165 k = σ (p + 1) - 48) ∧ (σ p = 119 → h1 165 k = σ (p + 1) - 97) ∧ (σ p = 103 ∨ σ p = 119 → h1 166 k = σ (p + 2) - 48)
def raG (h h1 : Nat → Int → Int) (k : Nat) : Prop := (∀ a, a ≠ 147 → a ≠ 165 → a ≠ 166 → h1 a = h a) ∧ (∀ j : Int, j ≠ 16 → h1 147 j = h 147 j) ∧ ∀ j : Int, j ≠ k → h1 165 j = h 165 j ∧ h1 166 j = h 166 j
theorem RA_28a {Q : Option PV → PH → Prop} {s : Int} (hs : s = 0 ∨ s = 1) (hk : k < 60) (v5 : h 164 k = s) (hQ : Q (some (pI 1)) (shp0, rf0, h)) : RR mX12_readsAct 6 0 0 28 [pR 147, pI k] [] (shp0, rf0, h) Q := by
  refine R_aload_n dX12_readsAct_28 rfl (?_ : RR _ _ _ _ 29 _ _ _ _)
  refine R_getr dX12_readsAct_29 flX12_63 cok_12 rfl (by decide) (?_ : RR _ _ _ _ 32 _ _ _ _)
  refine R_iload_n dX12_readsAct_32 rfl (?_ : RR _ _ _ _ 33 _ _ _ _)
  refine R_iald dX12_readsAct_33 (fun q33 => (?_ : RR _ _ _ _ 34 _ _ _ _))
  rw [v5] at q33 ⊢
  refine R_iconst dX12_readsAct_34 (?_ : RR _ _ _ _ 35 _ _ _ _)
  refine R_icmp_ge (t := 53) dX12_readsAct_35 rfl (fun c35 => ?_) (fun c35 => ?_)
  · exfalso; omega
  refine R_aload_n dX12_readsAct_38 rfl (?_ : RR _ _ _ _ 39 _ _ _ _)
  refine R_getr dX12_readsAct_39 flX12_63 cok_12 rfl (by decide) (?_ : RR _ _ _ _ 42 _ _ _ _)
  refine R_iload_n dX12_readsAct_42 rfl (?_ : RR _ _ _ _ 43 _ _ _ _)
  refine R_iald dX12_readsAct_43 (fun q43 => (?_ : RR _ _ _ _ 44 _ _ _ _))
  rw [v5] at q43 ⊢
  refine R_if_lt (t := 51) dX12_readsAct_44 rfl (fun c44 => ?_) (fun c44 => ?_)
  · exfalso; omega
  refine R_iconst dX12_readsAct_47 (?_ : RR _ _ _ _ 48 _ _ _ _)
  refine R_goto (t := 52) dX12_readsAct_48 rfl (?_ : RR _ _ _ _ 52 _ _ _ _)
  exact R_ireturn dX12_readsAct_52 (by first | exact Or.inl rfl | exact Or.inr rfl | exact ok_ite | omega) hQ
theorem RA_28b {Q : Option PV → PH → Prop} {s : Int} {p : Nat} (hs : s = 2 ∨ s = 5) (hk : k < 60) (v5 : h 164 k = s) (hi : h 147 16 = p) (hb : h 147 17 = b) (hpb : p ≤ b) (hb60 : b ≤ 60) (hσ : ∀ p : Nat, p < b → h 156 p = σ p ∧ 0 ≤ σ p ∧ σ p ≤ 255) (hσn : ∀ p : Nat, b ≤ p → σ p = -1)
    (hQ1 : (48 ≤ σ p ∧ σ p ≤ 57) → ∀ h2, raG h h2 k → h2 147 16 = (p : Int) + 1 → h2 165 k = σ p - 48 → Q (some (pI 1)) (shp0, rf0, h2)) (hQ0 : ¬ (48 ≤ σ p ∧ σ p ≤ 57) → ∀ h2, raG h h2 k → h2 147 16 = p → Q (some (pI 0)) (shp0, rf0, h2)) : RR mX12_readsAct 6 0 0 28 [pR 147, pI k] [] (shp0, rf0, h) Q := by
  have hN := T_number1 (h := h) hi hb hpb (by omega) hσ hσn
  by_cases q : 48 ≤ σ p ∧ σ p ≤ 57
  · rw [if_pos q, if_pos q] at hN
    have hq := hQ1 q (rup (rup h 147 (fup (h 147) 16 ((p : Int) + 1))) 165 (fup (h 165) k (σ p - 48))) ⟨fun a a1 a2 a3 => by rw [rup_n a2, rup_n a1], fun j j1 => by rw [rup_n (by omega), rup_s, fup_n j1], fun j j1 => ⟨by rw [rup_s, fup_n j1], by rw [rup_n (by omega), rup_n (by omega)]⟩⟩ (by rw [rup_n (by omega), rup_s, fup_s]) (by rw [rup_s, fup_s])
    clear hQ1 hQ0 hσ hσn
    generalize σ p = c at *
    rcases hs with rfl | rfl
    · refine R_aload_n dX12_readsAct_28 rfl (?_ : RR _ _ _ _ 29 _ _ _ _)
      refine R_getr dX12_readsAct_29 flX12_63 cok_12 rfl (by decide) (?_ : RR _ _ _ _ 32 _ _ _ _)
      refine R_iload_n dX12_readsAct_32 rfl (?_ : RR _ _ _ _ 33 _ _ _ _)
      refine R_iald dX12_readsAct_33 (fun q33 => (?_ : RR _ _ _ _ 34 _ _ _ _))
      try simp (disch := omega) only [rup_rup, rup_sort, rupS_def, rup_s, rup_n, fup_fup, fup_s, fup_n, v5] at q33 ⊢
      refine R_iconst dX12_readsAct_34 (?_ : RR _ _ _ _ 35 _ _ _ _)
      refine R_icmp_ge (t := 53) dX12_readsAct_35 rfl (fun c35 => ?_) (fun c35 => ?_)
      rotate_left
      · exfalso; omega
      refine R_aload_n dX12_readsAct_53 rfl (?_ : RR _ _ _ _ 54 _ _ _ _)
      refine R_getr dX12_readsAct_54 flX12_66 cok_12 rfl (by decide) (?_ : RR _ _ _ _ 57 _ _ _ _)
      refine R_iload_n dX12_readsAct_57 rfl (?_ : RR _ _ _ _ 58 _ _ _ _)
      refine R_aload_n dX12_readsAct_58 rfl (?_ : RR _ _ _ _ 59 _ _ _ _)
      refine R_getr dX12_readsAct_59 flX12_63 cok_12 rfl (by decide) (?_ : RR _ _ _ _ 62 _ _ _ _)
      refine R_iload_n dX12_readsAct_62 rfl (?_ : RR _ _ _ _ 63 _ _ _ _)
      refine R_iald dX12_readsAct_63 (fun q63 => (?_ : RR _ _ _ _ 64 _ _ _ _))
      try simp (disch := omega) only [rup_rup, rup_sort, rupS_def, rup_s, rup_n, fup_fup, fup_s, fup_n, v5] at q63 ⊢
      refine R_iconst dX12_readsAct_64 (?_ : RR _ _ _ _ 65 _ _ _ _)
      refine R_icmp_ne (t := 79) dX12_readsAct_65 rfl (fun c65 => ?_) (fun c65 => ?_)
      rotate_left
      · exfalso; omega
      refine R_aload_n dX12_readsAct_79 rfl (?_ : RR _ _ _ _ 80 _ _ _ _)
      refine R_getr dX12_readsAct_80 flX12_63 cok_12 rfl (by decide) (?_ : RR _ _ _ _ 83 _ _ _ _)
      refine R_iload_n dX12_readsAct_83 rfl (?_ : RR _ _ _ _ 84 _ _ _ _)
      refine R_iald dX12_readsAct_84 (fun q84 => (?_ : RR _ _ _ _ 85 _ _ _ _))
      try simp (disch := omega) only [rup_rup, rup_sort, rupS_def, rup_s, rup_n, fup_fup, fup_s, fup_n, v5] at q84 ⊢
      refine R_iconst dX12_readsAct_85 (?_ : RR _ _ _ _ 86 _ _ _ _)
      refine R_icmp_ne (t := 99) dX12_readsAct_86 rfl (fun c86 => ?_) (fun c86 => ?_)
      rotate_left
      · exfalso; omega
      refine R_aload_n dX12_readsAct_99 rfl (?_ : RR _ _ _ _ 100 _ _ _ _)
      refine R_iconst dX12_readsAct_100 (?_ : RR _ _ _ _ 101 _ _ _ _)
      refine R_cVi1 dX12_readsAct_101 mvX12_number mlX12_240 (by decide) (by decide) (Nat.le_of_ble_eq_true rfl) (Nat.le_of_ble_eq_true rfl) (hN) (?_ : RR _ _ _ _ 104 _ _ _ _)
      try simp (disch := omega) only [rup_rup, rup_sort, rupS_def, rup_s, rup_n, fup_fup, fup_s, fup_n, v5]
      refine R_iast dX12_readsAct_104 (?_ : RR _ _ _ _ 105 _ _ _ _)
      try simp (disch := omega) only [rup_rup, rup_sort, rupS_def, rup_s, rup_n, fup_fup, fup_s, fup_n, v5]
      refine R_aload_n dX12_readsAct_105 rfl (?_ : RR _ _ _ _ 106 _ _ _ _)
      refine R_getr dX12_readsAct_106 flX12_66 cok_12 rfl (by decide) (?_ : RR _ _ _ _ 109 _ _ _ _)
      refine R_iload_n dX12_readsAct_109 rfl (?_ : RR _ _ _ _ 110 _ _ _ _)
      refine R_iald dX12_readsAct_110 (fun q110 => (?_ : RR _ _ _ _ 111 _ _ _ _))
      try simp (disch := omega) only [rup_rup, rup_sort, rupS_def, rup_s, rup_n, fup_fup, fup_s, fup_n, v5] at q110 ⊢
      refine R_if_lt (t := 134) dX12_readsAct_111 rfl (fun c111 => ?_) (fun c111 => ?_)
      · exfalso; omega
      refine R_aload_n dX12_readsAct_114 rfl (?_ : RR _ _ _ _ 115 _ _ _ _)
      refine R_getr dX12_readsAct_115 flX12_63 cok_12 rfl (by decide) (?_ : RR _ _ _ _ 118 _ _ _ _)
      refine R_iload_n dX12_readsAct_118 rfl (?_ : RR _ _ _ _ 119 _ _ _ _)
      refine R_iald dX12_readsAct_119 (fun q119 => (?_ : RR _ _ _ _ 120 _ _ _ _))
      try simp (disch := omega) only [rup_rup, rup_sort, rupS_def, rup_s, rup_n, fup_fup, fup_s, fup_n, v5] at q119 ⊢
      refine R_iconst dX12_readsAct_120 (?_ : RR _ _ _ _ 121 _ _ _ _)
      refine R_icmp_eq (t := 134) dX12_readsAct_121 rfl (fun c121 => ?_) (fun c121 => ?_)
      rotate_left
      · exfalso; omega
      refine R_aload_n dX12_readsAct_134 rfl (?_ : RR _ _ _ _ 135 _ _ _ _)
      refine R_getr dX12_readsAct_135 flX12_66 cok_12 rfl (by decide) (?_ : RR _ _ _ _ 138 _ _ _ _)
      refine R_iload_n dX12_readsAct_138 rfl (?_ : RR _ _ _ _ 139 _ _ _ _)
      refine R_iald dX12_readsAct_139 (fun q139 => (?_ : RR _ _ _ _ 140 _ _ _ _))
      try simp (disch := omega) only [rup_rup, rup_sort, rupS_def, rup_s, rup_n, fup_fup, fup_s, fup_n, v5] at q139 ⊢
      refine R_if_lt (t := 147) dX12_readsAct_140 rfl (fun c140 => ?_) (fun c140 => ?_)
      · exfalso; omega
      refine R_iconst dX12_readsAct_143 (?_ : RR _ _ _ _ 144 _ _ _ _)
      refine R_goto (t := 148) dX12_readsAct_144 rfl (?_ : RR _ _ _ _ 148 _ _ _ _)
      exact R_ireturn dX12_readsAct_148 (by first | exact Or.inl rfl | exact Or.inr rfl | exact ok_ite | omega) hq
    · refine R_aload_n dX12_readsAct_28 rfl (?_ : RR _ _ _ _ 29 _ _ _ _)
      refine R_getr dX12_readsAct_29 flX12_63 cok_12 rfl (by decide) (?_ : RR _ _ _ _ 32 _ _ _ _)
      refine R_iload_n dX12_readsAct_32 rfl (?_ : RR _ _ _ _ 33 _ _ _ _)
      refine R_iald dX12_readsAct_33 (fun q33 => (?_ : RR _ _ _ _ 34 _ _ _ _))
      try simp (disch := omega) only [rup_rup, rup_sort, rupS_def, rup_s, rup_n, fup_fup, fup_s, fup_n, v5] at q33 ⊢
      refine R_iconst dX12_readsAct_34 (?_ : RR _ _ _ _ 35 _ _ _ _)
      refine R_icmp_ge (t := 53) dX12_readsAct_35 rfl (fun c35 => ?_) (fun c35 => ?_)
      rotate_left
      · exfalso; omega
      refine R_aload_n dX12_readsAct_53 rfl (?_ : RR _ _ _ _ 54 _ _ _ _)
      refine R_getr dX12_readsAct_54 flX12_66 cok_12 rfl (by decide) (?_ : RR _ _ _ _ 57 _ _ _ _)
      refine R_iload_n dX12_readsAct_57 rfl (?_ : RR _ _ _ _ 58 _ _ _ _)
      refine R_aload_n dX12_readsAct_58 rfl (?_ : RR _ _ _ _ 59 _ _ _ _)
      refine R_getr dX12_readsAct_59 flX12_63 cok_12 rfl (by decide) (?_ : RR _ _ _ _ 62 _ _ _ _)
      refine R_iload_n dX12_readsAct_62 rfl (?_ : RR _ _ _ _ 63 _ _ _ _)
      refine R_iald dX12_readsAct_63 (fun q63 => (?_ : RR _ _ _ _ 64 _ _ _ _))
      try simp (disch := omega) only [rup_rup, rup_sort, rupS_def, rup_s, rup_n, fup_fup, fup_s, fup_n, v5] at q63 ⊢
      refine R_iconst dX12_readsAct_64 (?_ : RR _ _ _ _ 65 _ _ _ _)
      refine R_icmp_ne (t := 79) dX12_readsAct_65 rfl (fun c65 => ?_) (fun c65 => ?_)
      rotate_left
      · exfalso; omega
      refine R_aload_n dX12_readsAct_79 rfl (?_ : RR _ _ _ _ 80 _ _ _ _)
      refine R_getr dX12_readsAct_80 flX12_63 cok_12 rfl (by decide) (?_ : RR _ _ _ _ 83 _ _ _ _)
      refine R_iload_n dX12_readsAct_83 rfl (?_ : RR _ _ _ _ 84 _ _ _ _)
      refine R_iald dX12_readsAct_84 (fun q84 => (?_ : RR _ _ _ _ 85 _ _ _ _))
      try simp (disch := omega) only [rup_rup, rup_sort, rupS_def, rup_s, rup_n, fup_fup, fup_s, fup_n, v5] at q84 ⊢
      refine R_iconst dX12_readsAct_85 (?_ : RR _ _ _ _ 86 _ _ _ _)
      refine R_icmp_ne (t := 99) dX12_readsAct_86 rfl (fun c86 => ?_) (fun c86 => ?_)
      rotate_left
      · exfalso; omega
      refine R_aload_n dX12_readsAct_99 rfl (?_ : RR _ _ _ _ 100 _ _ _ _)
      refine R_iconst dX12_readsAct_100 (?_ : RR _ _ _ _ 101 _ _ _ _)
      refine R_cVi1 dX12_readsAct_101 mvX12_number mlX12_240 (by decide) (by decide) (Nat.le_of_ble_eq_true rfl) (Nat.le_of_ble_eq_true rfl) (hN) (?_ : RR _ _ _ _ 104 _ _ _ _)
      try simp (disch := omega) only [rup_rup, rup_sort, rupS_def, rup_s, rup_n, fup_fup, fup_s, fup_n, v5]
      refine R_iast dX12_readsAct_104 (?_ : RR _ _ _ _ 105 _ _ _ _)
      try simp (disch := omega) only [rup_rup, rup_sort, rupS_def, rup_s, rup_n, fup_fup, fup_s, fup_n, v5]
      refine R_aload_n dX12_readsAct_105 rfl (?_ : RR _ _ _ _ 106 _ _ _ _)
      refine R_getr dX12_readsAct_106 flX12_66 cok_12 rfl (by decide) (?_ : RR _ _ _ _ 109 _ _ _ _)
      refine R_iload_n dX12_readsAct_109 rfl (?_ : RR _ _ _ _ 110 _ _ _ _)
      refine R_iald dX12_readsAct_110 (fun q110 => (?_ : RR _ _ _ _ 111 _ _ _ _))
      try simp (disch := omega) only [rup_rup, rup_sort, rupS_def, rup_s, rup_n, fup_fup, fup_s, fup_n, v5] at q110 ⊢
      refine R_if_lt (t := 134) dX12_readsAct_111 rfl (fun c111 => ?_) (fun c111 => ?_)
      · exfalso; omega
      refine R_aload_n dX12_readsAct_114 rfl (?_ : RR _ _ _ _ 115 _ _ _ _)
      refine R_getr dX12_readsAct_115 flX12_63 cok_12 rfl (by decide) (?_ : RR _ _ _ _ 118 _ _ _ _)
      refine R_iload_n dX12_readsAct_118 rfl (?_ : RR _ _ _ _ 119 _ _ _ _)
      refine R_iald dX12_readsAct_119 (fun q119 => (?_ : RR _ _ _ _ 120 _ _ _ _))
      try simp (disch := omega) only [rup_rup, rup_sort, rupS_def, rup_s, rup_n, fup_fup, fup_s, fup_n, v5] at q119 ⊢
      refine R_iconst dX12_readsAct_120 (?_ : RR _ _ _ _ 121 _ _ _ _)
      refine R_icmp_eq (t := 134) dX12_readsAct_121 rfl (fun c121 => ?_) (fun c121 => ?_)
      · exfalso; omega
      refine R_aload_n dX12_readsAct_124 rfl (?_ : RR _ _ _ _ 125 _ _ _ _)
      refine R_getr dX12_readsAct_125 flX12_63 cok_12 rfl (by decide) (?_ : RR _ _ _ _ 128 _ _ _ _)
      refine R_iload_n dX12_readsAct_128 rfl (?_ : RR _ _ _ _ 129 _ _ _ _)
      refine R_iald dX12_readsAct_129 (fun q129 => (?_ : RR _ _ _ _ 130 _ _ _ _))
      try simp (disch := omega) only [rup_rup, rup_sort, rupS_def, rup_s, rup_n, fup_fup, fup_s, fup_n, v5] at q129 ⊢
      refine R_iconst dX12_readsAct_130 (?_ : RR _ _ _ _ 131 _ _ _ _)
      refine R_icmp_ne (t := 149) dX12_readsAct_131 rfl (fun c131 => ?_) (fun c131 => ?_)
      · exfalso; omega
      refine R_aload_n dX12_readsAct_134 rfl (?_ : RR _ _ _ _ 135 _ _ _ _)
      refine R_getr dX12_readsAct_135 flX12_66 cok_12 rfl (by decide) (?_ : RR _ _ _ _ 138 _ _ _ _)
      refine R_iload_n dX12_readsAct_138 rfl (?_ : RR _ _ _ _ 139 _ _ _ _)
      refine R_iald dX12_readsAct_139 (fun q139 => (?_ : RR _ _ _ _ 140 _ _ _ _))
      try simp (disch := omega) only [rup_rup, rup_sort, rupS_def, rup_s, rup_n, fup_fup, fup_s, fup_n, v5] at q139 ⊢
      refine R_if_lt (t := 147) dX12_readsAct_140 rfl (fun c140 => ?_) (fun c140 => ?_)
      · exfalso; omega
      refine R_iconst dX12_readsAct_143 (?_ : RR _ _ _ _ 144 _ _ _ _)
      refine R_goto (t := 148) dX12_readsAct_144 rfl (?_ : RR _ _ _ _ 148 _ _ _ _)
      exact R_ireturn dX12_readsAct_148 (by first | exact Or.inl rfl | exact Or.inr rfl | exact ok_ite | omega) hq
  · rw [if_neg q, if_neg q, ← hi, fup_self, rup_self] at hN
    have hq := hQ0 q (rup h 165 (fup (h 165) k (-1))) ⟨fun a a1 a2 a3 => by rw [rup_n a2], fun j j1 => by rw [rup_n (by omega)], fun j j1 => ⟨by rw [rup_s, fup_n j1], by rw [rup_n (by omega)]⟩⟩ (by rw [rup_n (by omega)]; exact hi)
    clear hQ1 hQ0 hσ hσn
    rcases hs with rfl | rfl
    · refine R_aload_n dX12_readsAct_28 rfl (?_ : RR _ _ _ _ 29 _ _ _ _)
      refine R_getr dX12_readsAct_29 flX12_63 cok_12 rfl (by decide) (?_ : RR _ _ _ _ 32 _ _ _ _)
      refine R_iload_n dX12_readsAct_32 rfl (?_ : RR _ _ _ _ 33 _ _ _ _)
      refine R_iald dX12_readsAct_33 (fun q33 => (?_ : RR _ _ _ _ 34 _ _ _ _))
      try simp (disch := omega) only [rup_rup, rup_sort, rupS_def, rup_s, rup_n, fup_fup, fup_s, fup_n, v5] at q33 ⊢
      refine R_iconst dX12_readsAct_34 (?_ : RR _ _ _ _ 35 _ _ _ _)
      refine R_icmp_ge (t := 53) dX12_readsAct_35 rfl (fun c35 => ?_) (fun c35 => ?_)
      rotate_left
      · exfalso; omega
      refine R_aload_n dX12_readsAct_53 rfl (?_ : RR _ _ _ _ 54 _ _ _ _)
      refine R_getr dX12_readsAct_54 flX12_66 cok_12 rfl (by decide) (?_ : RR _ _ _ _ 57 _ _ _ _)
      refine R_iload_n dX12_readsAct_57 rfl (?_ : RR _ _ _ _ 58 _ _ _ _)
      refine R_aload_n dX12_readsAct_58 rfl (?_ : RR _ _ _ _ 59 _ _ _ _)
      refine R_getr dX12_readsAct_59 flX12_63 cok_12 rfl (by decide) (?_ : RR _ _ _ _ 62 _ _ _ _)
      refine R_iload_n dX12_readsAct_62 rfl (?_ : RR _ _ _ _ 63 _ _ _ _)
      refine R_iald dX12_readsAct_63 (fun q63 => (?_ : RR _ _ _ _ 64 _ _ _ _))
      try simp (disch := omega) only [rup_rup, rup_sort, rupS_def, rup_s, rup_n, fup_fup, fup_s, fup_n, v5] at q63 ⊢
      refine R_iconst dX12_readsAct_64 (?_ : RR _ _ _ _ 65 _ _ _ _)
      refine R_icmp_ne (t := 79) dX12_readsAct_65 rfl (fun c65 => ?_) (fun c65 => ?_)
      rotate_left
      · exfalso; omega
      refine R_aload_n dX12_readsAct_79 rfl (?_ : RR _ _ _ _ 80 _ _ _ _)
      refine R_getr dX12_readsAct_80 flX12_63 cok_12 rfl (by decide) (?_ : RR _ _ _ _ 83 _ _ _ _)
      refine R_iload_n dX12_readsAct_83 rfl (?_ : RR _ _ _ _ 84 _ _ _ _)
      refine R_iald dX12_readsAct_84 (fun q84 => (?_ : RR _ _ _ _ 85 _ _ _ _))
      try simp (disch := omega) only [rup_rup, rup_sort, rupS_def, rup_s, rup_n, fup_fup, fup_s, fup_n, v5] at q84 ⊢
      refine R_iconst dX12_readsAct_85 (?_ : RR _ _ _ _ 86 _ _ _ _)
      refine R_icmp_ne (t := 99) dX12_readsAct_86 rfl (fun c86 => ?_) (fun c86 => ?_)
      rotate_left
      · exfalso; omega
      refine R_aload_n dX12_readsAct_99 rfl (?_ : RR _ _ _ _ 100 _ _ _ _)
      refine R_iconst dX12_readsAct_100 (?_ : RR _ _ _ _ 101 _ _ _ _)
      refine R_cVi1 dX12_readsAct_101 mvX12_number mlX12_240 (by decide) (by decide) (Nat.le_of_ble_eq_true rfl) (Nat.le_of_ble_eq_true rfl) (hN) (?_ : RR _ _ _ _ 104 _ _ _ _)
      try simp (disch := omega) only [rup_rup, rup_sort, rupS_def, rup_s, rup_n, fup_fup, fup_s, fup_n, v5]
      refine R_iast dX12_readsAct_104 (?_ : RR _ _ _ _ 105 _ _ _ _)
      try simp (disch := omega) only [rup_rup, rup_sort, rupS_def, rup_s, rup_n, fup_fup, fup_s, fup_n, v5]
      refine R_aload_n dX12_readsAct_105 rfl (?_ : RR _ _ _ _ 106 _ _ _ _)
      refine R_getr dX12_readsAct_106 flX12_66 cok_12 rfl (by decide) (?_ : RR _ _ _ _ 109 _ _ _ _)
      refine R_iload_n dX12_readsAct_109 rfl (?_ : RR _ _ _ _ 110 _ _ _ _)
      refine R_iald dX12_readsAct_110 (fun q110 => (?_ : RR _ _ _ _ 111 _ _ _ _))
      try simp (disch := omega) only [rup_rup, rup_sort, rupS_def, rup_s, rup_n, fup_fup, fup_s, fup_n, v5] at q110 ⊢
      refine R_if_lt (t := 134) dX12_readsAct_111 rfl (fun c111 => ?_) (fun c111 => ?_)
      rotate_left
      · exfalso; omega
      refine R_aload_n dX12_readsAct_134 rfl (?_ : RR _ _ _ _ 135 _ _ _ _)
      refine R_getr dX12_readsAct_135 flX12_66 cok_12 rfl (by decide) (?_ : RR _ _ _ _ 138 _ _ _ _)
      refine R_iload_n dX12_readsAct_138 rfl (?_ : RR _ _ _ _ 139 _ _ _ _)
      refine R_iald dX12_readsAct_139 (fun q139 => (?_ : RR _ _ _ _ 140 _ _ _ _))
      try simp (disch := omega) only [rup_rup, rup_sort, rupS_def, rup_s, rup_n, fup_fup, fup_s, fup_n, v5] at q139 ⊢
      refine R_if_lt (t := 147) dX12_readsAct_140 rfl (fun c140 => ?_) (fun c140 => ?_)
      rotate_left
      · exfalso; omega
      refine R_iconst dX12_readsAct_147 (?_ : RR _ _ _ _ 148 _ _ _ _)
      exact R_ireturn dX12_readsAct_148 (by first | exact Or.inl rfl | exact Or.inr rfl | exact ok_ite | omega) hq
    · refine R_aload_n dX12_readsAct_28 rfl (?_ : RR _ _ _ _ 29 _ _ _ _)
      refine R_getr dX12_readsAct_29 flX12_63 cok_12 rfl (by decide) (?_ : RR _ _ _ _ 32 _ _ _ _)
      refine R_iload_n dX12_readsAct_32 rfl (?_ : RR _ _ _ _ 33 _ _ _ _)
      refine R_iald dX12_readsAct_33 (fun q33 => (?_ : RR _ _ _ _ 34 _ _ _ _))
      try simp (disch := omega) only [rup_rup, rup_sort, rupS_def, rup_s, rup_n, fup_fup, fup_s, fup_n, v5] at q33 ⊢
      refine R_iconst dX12_readsAct_34 (?_ : RR _ _ _ _ 35 _ _ _ _)
      refine R_icmp_ge (t := 53) dX12_readsAct_35 rfl (fun c35 => ?_) (fun c35 => ?_)
      rotate_left
      · exfalso; omega
      refine R_aload_n dX12_readsAct_53 rfl (?_ : RR _ _ _ _ 54 _ _ _ _)
      refine R_getr dX12_readsAct_54 flX12_66 cok_12 rfl (by decide) (?_ : RR _ _ _ _ 57 _ _ _ _)
      refine R_iload_n dX12_readsAct_57 rfl (?_ : RR _ _ _ _ 58 _ _ _ _)
      refine R_aload_n dX12_readsAct_58 rfl (?_ : RR _ _ _ _ 59 _ _ _ _)
      refine R_getr dX12_readsAct_59 flX12_63 cok_12 rfl (by decide) (?_ : RR _ _ _ _ 62 _ _ _ _)
      refine R_iload_n dX12_readsAct_62 rfl (?_ : RR _ _ _ _ 63 _ _ _ _)
      refine R_iald dX12_readsAct_63 (fun q63 => (?_ : RR _ _ _ _ 64 _ _ _ _))
      try simp (disch := omega) only [rup_rup, rup_sort, rupS_def, rup_s, rup_n, fup_fup, fup_s, fup_n, v5] at q63 ⊢
      refine R_iconst dX12_readsAct_64 (?_ : RR _ _ _ _ 65 _ _ _ _)
      refine R_icmp_ne (t := 79) dX12_readsAct_65 rfl (fun c65 => ?_) (fun c65 => ?_)
      rotate_left
      · exfalso; omega
      refine R_aload_n dX12_readsAct_79 rfl (?_ : RR _ _ _ _ 80 _ _ _ _)
      refine R_getr dX12_readsAct_80 flX12_63 cok_12 rfl (by decide) (?_ : RR _ _ _ _ 83 _ _ _ _)
      refine R_iload_n dX12_readsAct_83 rfl (?_ : RR _ _ _ _ 84 _ _ _ _)
      refine R_iald dX12_readsAct_84 (fun q84 => (?_ : RR _ _ _ _ 85 _ _ _ _))
      try simp (disch := omega) only [rup_rup, rup_sort, rupS_def, rup_s, rup_n, fup_fup, fup_s, fup_n, v5] at q84 ⊢
      refine R_iconst dX12_readsAct_85 (?_ : RR _ _ _ _ 86 _ _ _ _)
      refine R_icmp_ne (t := 99) dX12_readsAct_86 rfl (fun c86 => ?_) (fun c86 => ?_)
      rotate_left
      · exfalso; omega
      refine R_aload_n dX12_readsAct_99 rfl (?_ : RR _ _ _ _ 100 _ _ _ _)
      refine R_iconst dX12_readsAct_100 (?_ : RR _ _ _ _ 101 _ _ _ _)
      refine R_cVi1 dX12_readsAct_101 mvX12_number mlX12_240 (by decide) (by decide) (Nat.le_of_ble_eq_true rfl) (Nat.le_of_ble_eq_true rfl) (hN) (?_ : RR _ _ _ _ 104 _ _ _ _)
      try simp (disch := omega) only [rup_rup, rup_sort, rupS_def, rup_s, rup_n, fup_fup, fup_s, fup_n, v5]
      refine R_iast dX12_readsAct_104 (?_ : RR _ _ _ _ 105 _ _ _ _)
      try simp (disch := omega) only [rup_rup, rup_sort, rupS_def, rup_s, rup_n, fup_fup, fup_s, fup_n, v5]
      refine R_aload_n dX12_readsAct_105 rfl (?_ : RR _ _ _ _ 106 _ _ _ _)
      refine R_getr dX12_readsAct_106 flX12_66 cok_12 rfl (by decide) (?_ : RR _ _ _ _ 109 _ _ _ _)
      refine R_iload_n dX12_readsAct_109 rfl (?_ : RR _ _ _ _ 110 _ _ _ _)
      refine R_iald dX12_readsAct_110 (fun q110 => (?_ : RR _ _ _ _ 111 _ _ _ _))
      try simp (disch := omega) only [rup_rup, rup_sort, rupS_def, rup_s, rup_n, fup_fup, fup_s, fup_n, v5] at q110 ⊢
      refine R_if_lt (t := 134) dX12_readsAct_111 rfl (fun c111 => ?_) (fun c111 => ?_)
      rotate_left
      · exfalso; omega
      refine R_aload_n dX12_readsAct_134 rfl (?_ : RR _ _ _ _ 135 _ _ _ _)
      refine R_getr dX12_readsAct_135 flX12_66 cok_12 rfl (by decide) (?_ : RR _ _ _ _ 138 _ _ _ _)
      refine R_iload_n dX12_readsAct_138 rfl (?_ : RR _ _ _ _ 139 _ _ _ _)
      refine R_iald dX12_readsAct_139 (fun q139 => (?_ : RR _ _ _ _ 140 _ _ _ _))
      try simp (disch := omega) only [rup_rup, rup_sort, rupS_def, rup_s, rup_n, fup_fup, fup_s, fup_n, v5] at q139 ⊢
      refine R_if_lt (t := 147) dX12_readsAct_140 rfl (fun c140 => ?_) (fun c140 => ?_)
      rotate_left
      · exfalso; omega
      refine R_iconst dX12_readsAct_147 (?_ : RR _ _ _ _ 148 _ _ _ _)
      exact R_ireturn dX12_readsAct_148 (by first | exact Or.inl rfl | exact Or.inr rfl | exact ok_ite | omega) hq
/-- behind the first number of g, w -/
theorem RA_105 {Q : Option PV → PH → Prop} {s v : Int} {p : Nat} (hs : s = 3 ∨ s = 4) (hk : k < 60) (hv : 0 ≤ v ∧ v ≤ 100) (v5 : h 164 k = s) (v6 : h 165 k = v) (hi : h 147 16 = p) (hb : h 147 17 = b) (hpb : p ≤ b) (hb60 : b ≤ 60) (hσ : ∀ p : Nat, p < b → h 156 p = σ p ∧ 0 ≤ σ p ∧ σ p ≤ 255) (hσn : ∀ p : Nat, b ≤ p → σ p = -1)
    (hQ1 : (48 ≤ σ p ∧ σ p ≤ 57) → ∀ h2, raG h h2 k → h2 147 16 = (p : Int) + 1 → h2 165 k = v → h2 166 k = σ p - 48 → Q (some (pI 1)) (shp0, rf0, h2)) (hQ0 : ¬ (48 ≤ σ p ∧ σ p ≤ 57) → ∀ h2, raG h h2 k → h2 147 16 = p → Q (some (pI 0)) (shp0, rf0, h2)) : RR mX12_readsAct 6 0 0 105 [pR 147, pI k] [] (shp0, rf0, h) Q := by
  have hN := T_number1 (h := h) hi hb hpb (by omega) hσ hσn
  by_cases q : 48 ≤ σ p ∧ σ p ≤ 57
  · rw [if_pos q, if_pos q] at hN
    have hq := hQ1 q (rup (rup h 147 (fup (h 147) 16 ((p : Int) + 1))) 166 (fup (h 166) k (σ p - 48))) ⟨fun a a1 a2 a3 => by rw [rup_n a3, rup_n a1], fun j j1 => by rw [rup_n (by omega), rup_s, fup_n j1], fun j j1 => ⟨by rw [rup_n (by omega), rup_n (by omega)], by rw [rup_s, fup_n j1]⟩⟩ (by rw [rup_n (by omega), rup_s, fup_s]) (by rw [rup_n (by omega), rup_n (by omega)]; exact v6) (by rw [rup_s, fup_s])
    clear hQ1 hQ0 hσ hσn
    generalize σ p = c at *
    refine R_aload_n dX12_readsAct_105 rfl (?_ : RR _ _ _ _ 106 _ _ _ _)
    refine R_getr dX12_readsAct_106 flX12_66 cok_12 rfl (by decide) (?_ : RR _ _ _ _ 109 _ _ _ _)
    refine R_iload_n dX12_readsAct_109 rfl (?_ : RR _ _ _ _ 110 _ _ _ _)
    refine R_iald dX12_readsAct_110 (fun q110 => (?_ : RR _ _ _ _ 111 _ _ _ _))
    try simp (disch := omega) only [rup_rup, rup_sort, rupS_def, rup_s, rup_n, fup_fup, fup_s, fup_n, v5, v6] at q110 ⊢
    refine R_if_lt (t := 134) dX12_readsAct_111 rfl (fun c111 => ?_) (fun c111 => ?_)
    · exfalso; omega
    refine R_aload_n dX12_readsAct_114 rfl (?_ : RR _ _ _ _ 115 _ _ _ _)
    refine R_getr dX12_readsAct_115 flX12_63 cok_12 rfl (by decide) (?_ : RR _ _ _ _ 118 _ _ _ _)
    refine R_iload_n dX12_readsAct_118 rfl (?_ : RR _ _ _ _ 119 _ _ _ _)
    refine R_iald dX12_readsAct_119 (fun q119 => (?_ : RR _ _ _ _ 120 _ _ _ _))
    try simp (disch := omega) only [rup_rup, rup_sort, rupS_def, rup_s, rup_n, fup_fup, fup_s, fup_n, v5, v6] at q119 ⊢
    refine R_iconst dX12_readsAct_120 (?_ : RR _ _ _ _ 121 _ _ _ _)
    refine R_icmp_eq (t := 134) dX12_readsAct_121 rfl (fun c121 => ?_) (fun c121 => ?_)
    · exfalso; omega
    refine R_aload_n dX12_readsAct_124 rfl (?_ : RR _ _ _ _ 125 _ _ _ _)
    refine R_getr dX12_readsAct_125 flX12_63 cok_12 rfl (by decide) (?_ : RR _ _ _ _ 128 _ _ _ _)
    refine R_iload_n dX12_readsAct_128 rfl (?_ : RR _ _ _ _ 129 _ _ _ _)
    refine R_iald dX12_readsAct_129 (fun q129 => (?_ : RR _ _ _ _ 130 _ _ _ _))
    try simp (disch := omega) only [rup_rup, rup_sort, rupS_def, rup_s, rup_n, fup_fup, fup_s, fup_n, v5, v6] at q129 ⊢
    refine R_iconst dX12_readsAct_130 (?_ : RR _ _ _ _ 131 _ _ _ _)
    refine R_icmp_ne (t := 149) dX12_readsAct_131 rfl (fun c131 => ?_) (fun c131 => ?_)
    rotate_left
    · exfalso; omega
    refine R_aload_n dX12_readsAct_149 rfl (?_ : RR _ _ _ _ 150 _ _ _ _)
    refine R_getr dX12_readsAct_150 flX12_69 cok_12 rfl (by decide) (?_ : RR _ _ _ _ 153 _ _ _ _)
    refine R_iload_n dX12_readsAct_153 rfl (?_ : RR _ _ _ _ 154 _ _ _ _)
    refine R_aload_n dX12_readsAct_154 rfl (?_ : RR _ _ _ _ 155 _ _ _ _)
    refine R_iconst dX12_readsAct_155 (?_ : RR _ _ _ _ 156 _ _ _ _)
    refine R_cVi1 dX12_readsAct_156 mvX12_number mlX12_240 (by decide) (by decide) (Nat.le_of_ble_eq_true rfl) (Nat.le_of_ble_eq_true rfl) (hN) (?_ : RR _ _ _ _ 159 _ _ _ _)
    try simp (disch := omega) only [rup_rup, rup_sort, rupS_def, rup_s, rup_n, fup_fup, fup_s, fup_n, v5, v6]
    refine R_iast dX12_readsAct_159 (?_ : RR _ _ _ _ 160 _ _ _ _)
    try simp (disch := omega) only [rup_rup, rup_sort, rupS_def, rup_s, rup_n, fup_fup, fup_s, fup_n, v5, v6]
    refine R_aload_n dX12_readsAct_160 rfl (?_ : RR _ _ _ _ 161 _ _ _ _)
    refine R_getr dX12_readsAct_161 flX12_69 cok_12 rfl (by decide) (?_ : RR _ _ _ _ 164 _ _ _ _)
    refine R_iload_n dX12_readsAct_164 rfl (?_ : RR _ _ _ _ 165 _ _ _ _)
    refine R_iald dX12_readsAct_165 (fun q165 => (?_ : RR _ _ _ _ 166 _ _ _ _))
    try simp (disch := omega) only [rup_rup, rup_sort, rupS_def, rup_s, rup_n, fup_fup, fup_s, fup_n, v5, v6] at q165 ⊢
    refine R_if_lt (t := 173) dX12_readsAct_166 rfl (fun c166 => ?_) (fun c166 => ?_)
    · exfalso; omega
    refine R_iconst dX12_readsAct_169 (?_ : RR _ _ _ _ 170 _ _ _ _)
    refine R_goto (t := 174) dX12_readsAct_170 rfl (?_ : RR _ _ _ _ 174 _ _ _ _)
    exact R_ireturn dX12_readsAct_174 (by first | exact Or.inl rfl | exact Or.inr rfl | exact ok_ite | omega) hq
  · rw [if_neg q, if_neg q, ← hi, fup_self, rup_self] at hN
    have hq := hQ0 q (rup h 166 (fup (h 166) k (-1))) ⟨fun a a1 a2 a3 => by rw [rup_n a3], fun j j1 => by rw [rup_n (by omega)], fun j j1 => ⟨by rw [rup_n (by omega)], by rw [rup_s, fup_n j1]⟩⟩ (by rw [rup_n (by omega)]; exact hi)
    clear hQ1 hQ0 hσ hσn
    refine R_aload_n dX12_readsAct_105 rfl (?_ : RR _ _ _ _ 106 _ _ _ _)
    refine R_getr dX12_readsAct_106 flX12_66 cok_12 rfl (by decide) (?_ : RR _ _ _ _ 109 _ _ _ _)
    refine R_iload_n dX12_readsAct_109 rfl (?_ : RR _ _ _ _ 110 _ _ _ _)
    refine R_iald dX12_readsAct_110 (fun q110 => (?_ : RR _ _ _ _ 111 _ _ _ _))
    try simp (disch := omega) only [rup_rup, rup_sort, rupS_def, rup_s, rup_n, fup_fup, fup_s, fup_n, v5, v6] at q110 ⊢
    refine R_if_lt (t := 134) dX12_readsAct_111 rfl (fun c111 => ?_) (fun c111 => ?_)
    · exfalso; omega
    refine R_aload_n dX12_readsAct_114 rfl (?_ : RR _ _ _ _ 115 _ _ _ _)
    refine R_getr dX12_readsAct_115 flX12_63 cok_12 rfl (by decide) (?_ : RR _ _ _ _ 118 _ _ _ _)
    refine R_iload_n dX12_readsAct_118 rfl (?_ : RR _ _ _ _ 119 _ _ _ _)
    refine R_iald dX12_readsAct_119 (fun q119 => (?_ : RR _ _ _ _ 120 _ _ _ _))
    try simp (disch := omega) only [rup_rup, rup_sort, rupS_def, rup_s, rup_n, fup_fup, fup_s, fup_n, v5, v6] at q119 ⊢
    refine R_iconst dX12_readsAct_120 (?_ : RR _ _ _ _ 121 _ _ _ _)
    refine R_icmp_eq (t := 134) dX12_readsAct_121 rfl (fun c121 => ?_) (fun c121 => ?_)
    · exfalso; omega
    refine R_aload_n dX12_readsAct_124 rfl (?_ : RR _ _ _ _ 125 _ _ _ _)
    refine R_getr dX12_readsAct_125 flX12_63 cok_12 rfl (by decide) (?_ : RR _ _ _ _ 128 _ _ _ _)
    refine R_iload_n dX12_readsAct_128 rfl (?_ : RR _ _ _ _ 129 _ _ _ _)
    refine R_iald dX12_readsAct_129 (fun q129 => (?_ : RR _ _ _ _ 130 _ _ _ _))
    try simp (disch := omega) only [rup_rup, rup_sort, rupS_def, rup_s, rup_n, fup_fup, fup_s, fup_n, v5, v6] at q129 ⊢
    refine R_iconst dX12_readsAct_130 (?_ : RR _ _ _ _ 131 _ _ _ _)
    refine R_icmp_ne (t := 149) dX12_readsAct_131 rfl (fun c131 => ?_) (fun c131 => ?_)
    rotate_left
    · exfalso; omega
    refine R_aload_n dX12_readsAct_149 rfl (?_ : RR _ _ _ _ 150 _ _ _ _)
    refine R_getr dX12_readsAct_150 flX12_69 cok_12 rfl (by decide) (?_ : RR _ _ _ _ 153 _ _ _ _)
    refine R_iload_n dX12_readsAct_153 rfl (?_ : RR _ _ _ _ 154 _ _ _ _)
    refine R_aload_n dX12_readsAct_154 rfl (?_ : RR _ _ _ _ 155 _ _ _ _)
    refine R_iconst dX12_readsAct_155 (?_ : RR _ _ _ _ 156 _ _ _ _)
    refine R_cVi1 dX12_readsAct_156 mvX12_number mlX12_240 (by decide) (by decide) (Nat.le_of_ble_eq_true rfl) (Nat.le_of_ble_eq_true rfl) (hN) (?_ : RR _ _ _ _ 159 _ _ _ _)
    try simp (disch := omega) only [rup_rup, rup_sort, rupS_def, rup_s, rup_n, fup_fup, fup_s, fup_n, v5, v6]
    refine R_iast dX12_readsAct_159 (?_ : RR _ _ _ _ 160 _ _ _ _)
    try simp (disch := omega) only [rup_rup, rup_sort, rupS_def, rup_s, rup_n, fup_fup, fup_s, fup_n, v5, v6]
    refine R_aload_n dX12_readsAct_160 rfl (?_ : RR _ _ _ _ 161 _ _ _ _)
    refine R_getr dX12_readsAct_161 flX12_69 cok_12 rfl (by decide) (?_ : RR _ _ _ _ 164 _ _ _ _)
    refine R_iload_n dX12_readsAct_164 rfl (?_ : RR _ _ _ _ 165 _ _ _ _)
    refine R_iald dX12_readsAct_165 (fun q165 => (?_ : RR _ _ _ _ 166 _ _ _ _))
    try simp (disch := omega) only [rup_rup, rup_sort, rupS_def, rup_s, rup_n, fup_fup, fup_s, fup_n, v5, v6] at q165 ⊢
    refine R_if_lt (t := 173) dX12_readsAct_166 rfl (fun c166 => ?_) (fun c166 => ?_)
    rotate_left
    · exfalso; omega
    refine R_iconst dX12_readsAct_173 (?_ : RR _ _ _ _ 174 _ _ _ _)
    exact R_ireturn dX12_readsAct_174 (by first | exact Or.inl rfl | exact Or.inr rfl | exact ok_ite | omega) hq
theorem RA_28c {Q : Option PV → PH → Prop} {s B : Int} {p L : Nat} (hs : (s = 3 ∧ B = 48 ∧ L = 1) ∨ (s = 4 ∧ B = 97 ∧ L = 11)) (hk : k < 60) (v5 : h 164 k = s) (hi : h 147 16 = p) (hb : h 147 17 = b) (hpb : p ≤ b) (hb60 : b ≤ 60) (hσ : ∀ p : Nat, p < b → h 156 p = σ p ∧ 0 ≤ σ p ∧ σ p ≤ 255) (hσn : ∀ p : Nat, b ≤ p → σ p = -1)
    (hQ2 : (B ≤ σ p ∧ σ p ≤ B + L) → (48 ≤ σ (p + 1) ∧ σ (p + 1) ≤ 57) → ∀ h2, raG h h2 k → h2 147 16 = (p : Int) + 2 → h2 165 k = σ p - B → h2 166 k = σ (p + 1) - 48 → Q (some (pI 1)) (shp0, rf0, h2)) (hQ1 : (B ≤ σ p ∧ σ p ≤ B + L) → ¬ (48 ≤ σ (p + 1) ∧ σ (p + 1) ≤ 57) → ∀ h2, raG h h2 k → h2 147 16 = (p : Int) + 1 → Q (some (pI 0)) (shp0, rf0, h2)) (hQ0 : ¬ (B ≤ σ p ∧ σ p ≤ B + L) → ∀ h2, raG h h2 k → h2 147 16 = p → Q (some (pI 0)) (shp0, rf0, h2)) : RR mX12_readsAct 6 0 0 28 [pR 147, pI k] [] (shp0, rf0, h) Q := by
  have hN : s = 3 → MT mX12_signIn 1 [pR 147, pI 48, pI 0, pI 1] h (some (pI (if B ≤ σ p ∧ σ p ≤ B + L then σ p - B else -1))) (rup h 147 (fup (h 147) 16 (if B ≤ σ p ∧ σ p ≤ B + L then (p : Int) + 1 else p))) := fun w => by
    have hT := T_signIn (h := h) (ba := 48) (lo := 0) (hi0 := 1) hi hb hpb (by omega) hσ hσn (by omega) (by omega) (by omega)
    by_cases q : B ≤ σ p ∧ σ p ≤ B + L
    · rw [if_pos q, if_pos q]
      rw [if_pos (by omega), if_pos (by omega)] at hT
      rw [show B = 48 by omega]
      exact hT
    · rw [if_neg q, if_neg q]
      rw [if_neg (by omega), if_neg (by omega)] at hT
      exact hT
  have hN4 : s = 4 → MT mX12_takesOf 5 [pR 147, pR (1000 + 5)] h (some (pI (if B ≤ σ p ∧ σ p ≤ B + L then σ p - B else -1))) (rup h 147 (fup (h 147) 16 (if B ≤ σ p ∧ σ p ≤ B + L then (p : Int) + 1 else p))) := fun w => by
    have hT := T_X12_takesOf (h := h) (i := 5) (by decide) hi hb hpb (by omega) hσ hσn
    rw [amI_5] at hT
    by_cases q : B ≤ σ p ∧ σ p ≤ B + L
    · rw [if_pos q, if_pos q]
      rw [if_pos (show 97 ≤ σ p ∧ σ p ≤ 108 by omega), if_pos (by omega)] at hT
      rw [show B = 97 by omega]
      exact hT
    · rw [if_neg q, if_neg q]
      rw [if_neg (show ¬ (97 ≤ σ p ∧ σ p ≤ 108) by omega), if_neg (by omega)] at hT
      exact hT
  by_cases q : B ≤ σ p ∧ σ p ≤ B + L
  · rw [if_pos q, if_pos q] at hN hN4
    have hpb2 : p < b := by
      by_cases z : p < b
      · exact z
      · have := hσn p (by omega); omega
    obtain ⟨h6, h6e⟩ : ∃ h6, h6 = rup (rup h 147 (fup (h 147) 16 ((p : Int) + 1))) 165 (fup (h 165) k (σ p - B)) := ⟨_, rfl⟩
    have f6 : raG h h6 k := ⟨fun a a1 a2 a3 => by rw [h6e, rup_n a2, rup_n a1], fun j j1 => by rw [h6e, rup_n (by omega), rup_s, fup_n j1], fun j j1 => ⟨by rw [h6e, rup_s, fup_n j1], by rw [h6e, rup_n (by omega), rup_n (by omega)]⟩⟩
    have tr : ∀ h2, raG h6 h2 k → raG h h2 k := fun h2 g => ⟨fun a a1 a2 a3 => by rw [g.1 a a1 a2 a3]; exact f6.1 a a1 a2 a3, fun j j1 => by rw [g.2.1 j j1]; exact f6.2.1 j j1, fun j j1 => ⟨by rw [(g.2.2 j j1).1]; exact (f6.2.2 j j1).1, by rw [(g.2.2 j j1).2]; exact (f6.2.2 j j1).2⟩⟩
    have c1 : ((p + 1 : Nat) : Int) = (p : Int) + 1 := by omega
    have K := RA_105 (h := h6) (Q := Q) (s := s) (v := σ p - B) (p := p + 1) (b := b) (σ := σ) (by omega) hk (by omega) (by rw [f6.1 164 (by omega) (by omega) (by omega)]; exact v5) (by rw [h6e, rup_s, fup_s]) (by rw [h6e, rup_n (by omega), rup_s, fup_s]; omega) (by rw [f6.2.1 17 (by omega)]; exact hb) hpb2 hb60 (fun p hp => by rw [f6.1 156 (by omega) (by omega) (by omega)]; exact hσ p hp) hσn (fun w h2 g g16 g5 g6 => hQ2 q (by rw [← c1]; exact w) h2 (tr h2 g) (by rw [g16]; omega) g5 (by rw [← c1]; exact g6)) (fun w h2 g g16 => hQ1 q (by rw [← c1]; exact w) h2 (tr h2 g) (by rw [g16]; omega))
    rw [h6e] at K
    clear hQ2 hQ1 hQ0 hσ hσn f6 tr
    generalize σ p = c at *
    rcases hs with ⟨rfl, rfl, rfl⟩ | ⟨rfl, rfl, rfl⟩
    · have hN := hN rfl
      refine R_aload_n dX12_readsAct_28 rfl (?_ : RR _ _ _ _ 29 _ _ _ _)
      refine R_getr dX12_readsAct_29 flX12_63 cok_12 rfl (by decide) (?_ : RR _ _ _ _ 32 _ _ _ _)
      refine R_iload_n dX12_readsAct_32 rfl (?_ : RR _ _ _ _ 33 _ _ _ _)
      refine R_iald dX12_readsAct_33 (fun q33 => (?_ : RR _ _ _ _ 34 _ _ _ _))
      try simp (disch := omega) only [rup_rup, rup_sort, rupS_def, rup_s, rup_n, fup_fup, fup_s, fup_n, v5] at q33 ⊢
      refine R_iconst dX12_readsAct_34 (?_ : RR _ _ _ _ 35 _ _ _ _)
      refine R_icmp_ge (t := 53) dX12_readsAct_35 rfl (fun c35 => ?_) (fun c35 => ?_)
      rotate_left
      · exfalso; omega
      refine R_aload_n dX12_readsAct_53 rfl (?_ : RR _ _ _ _ 54 _ _ _ _)
      refine R_getr dX12_readsAct_54 flX12_66 cok_12 rfl (by decide) (?_ : RR _ _ _ _ 57 _ _ _ _)
      refine R_iload_n dX12_readsAct_57 rfl (?_ : RR _ _ _ _ 58 _ _ _ _)
      refine R_aload_n dX12_readsAct_58 rfl (?_ : RR _ _ _ _ 59 _ _ _ _)
      refine R_getr dX12_readsAct_59 flX12_63 cok_12 rfl (by decide) (?_ : RR _ _ _ _ 62 _ _ _ _)
      refine R_iload_n dX12_readsAct_62 rfl (?_ : RR _ _ _ _ 63 _ _ _ _)
      refine R_iald dX12_readsAct_63 (fun q63 => (?_ : RR _ _ _ _ 64 _ _ _ _))
      try simp (disch := omega) only [rup_rup, rup_sort, rupS_def, rup_s, rup_n, fup_fup, fup_s, fup_n, v5] at q63 ⊢
      refine R_iconst dX12_readsAct_64 (?_ : RR _ _ _ _ 65 _ _ _ _)
      refine R_icmp_ne (t := 79) dX12_readsAct_65 rfl (fun c65 => ?_) (fun c65 => ?_)
      · exfalso; omega
      refine R_aload_n dX12_readsAct_68 rfl (?_ : RR _ _ _ _ 69 _ _ _ _)
      refine R_bipush dX12_readsAct_69 rfl (?_ : RR _ _ _ _ 71 _ _ _ _)
      refine R_iconst dX12_readsAct_71 (?_ : RR _ _ _ _ 72 _ _ _ _)
      refine R_iconst dX12_readsAct_72 (?_ : RR _ _ _ _ 73 _ _ _ _)
      refine R_cVi3 dX12_readsAct_73 mvX12_signIn mlX12_186 (by decide) (by decide) (Nat.le_of_ble_eq_true rfl) (Nat.le_of_ble_eq_true rfl) (hN) (?_ : RR _ _ _ _ 76 _ _ _ _)
      try simp (disch := omega) only [rup_rup, rup_sort, rupS_def, rup_s, rup_n, fup_fup, fup_s, fup_n, v5]
      refine R_goto (t := 104) dX12_readsAct_76 rfl (?_ : RR _ _ _ _ 104 _ _ _ _)
      refine R_iast dX12_readsAct_104 (?_ : RR _ _ _ _ 105 _ _ _ _)
      try simp (disch := omega) only [rup_rup, rup_sort, rupS_def, rup_s, rup_n, fup_fup, fup_s, fup_n, v5]
      exact K
    · have hN4 := hN4 rfl
      refine R_aload_n dX12_readsAct_28 rfl (?_ : RR _ _ _ _ 29 _ _ _ _)
      refine R_getr dX12_readsAct_29 flX12_63 cok_12 rfl (by decide) (?_ : RR _ _ _ _ 32 _ _ _ _)
      refine R_iload_n dX12_readsAct_32 rfl (?_ : RR _ _ _ _ 33 _ _ _ _)
      refine R_iald dX12_readsAct_33 (fun q33 => (?_ : RR _ _ _ _ 34 _ _ _ _))
      try simp (disch := omega) only [rup_rup, rup_sort, rupS_def, rup_s, rup_n, fup_fup, fup_s, fup_n, v5] at q33 ⊢
      refine R_iconst dX12_readsAct_34 (?_ : RR _ _ _ _ 35 _ _ _ _)
      refine R_icmp_ge (t := 53) dX12_readsAct_35 rfl (fun c35 => ?_) (fun c35 => ?_)
      rotate_left
      · exfalso; omega
      refine R_aload_n dX12_readsAct_53 rfl (?_ : RR _ _ _ _ 54 _ _ _ _)
      refine R_getr dX12_readsAct_54 flX12_66 cok_12 rfl (by decide) (?_ : RR _ _ _ _ 57 _ _ _ _)
      refine R_iload_n dX12_readsAct_57 rfl (?_ : RR _ _ _ _ 58 _ _ _ _)
      refine R_aload_n dX12_readsAct_58 rfl (?_ : RR _ _ _ _ 59 _ _ _ _)
      refine R_getr dX12_readsAct_59 flX12_63 cok_12 rfl (by decide) (?_ : RR _ _ _ _ 62 _ _ _ _)
      refine R_iload_n dX12_readsAct_62 rfl (?_ : RR _ _ _ _ 63 _ _ _ _)
      refine R_iald dX12_readsAct_63 (fun q63 => (?_ : RR _ _ _ _ 64 _ _ _ _))
      try simp (disch := omega) only [rup_rup, rup_sort, rupS_def, rup_s, rup_n, fup_fup, fup_s, fup_n, v5] at q63 ⊢
      refine R_iconst dX12_readsAct_64 (?_ : RR _ _ _ _ 65 _ _ _ _)
      refine R_icmp_ne (t := 79) dX12_readsAct_65 rfl (fun c65 => ?_) (fun c65 => ?_)
      rotate_left
      · exfalso; omega
      refine R_aload_n dX12_readsAct_79 rfl (?_ : RR _ _ _ _ 80 _ _ _ _)
      refine R_getr dX12_readsAct_80 flX12_63 cok_12 rfl (by decide) (?_ : RR _ _ _ _ 83 _ _ _ _)
      refine R_iload_n dX12_readsAct_83 rfl (?_ : RR _ _ _ _ 84 _ _ _ _)
      refine R_iald dX12_readsAct_84 (fun q84 => (?_ : RR _ _ _ _ 85 _ _ _ _))
      try simp (disch := omega) only [rup_rup, rup_sort, rupS_def, rup_s, rup_n, fup_fup, fup_s, fup_n, v5] at q84 ⊢
      refine R_iconst dX12_readsAct_85 (?_ : RR _ _ _ _ 86 _ _ _ _)
      refine R_icmp_ne (t := 99) dX12_readsAct_86 rfl (fun c86 => ?_) (fun c86 => ?_)
      · exfalso; omega
      refine R_aload_n dX12_readsAct_89 rfl (?_ : RR _ _ _ _ 90 _ _ _ _)
      refine R_ldcSW (i := 5) (by decide) rfl dX12_readsAct_90 (?_ : RR _ _ _ _ 93 _ _ _ _)
      refine R_cVi1 dX12_readsAct_93 mvX12_takesOf mlX12_245 (by decide) (by decide) (Nat.le_of_ble_eq_true rfl) (Nat.le_of_ble_eq_true rfl) (hN4) (?_ : RR _ _ _ _ 96 _ _ _ _)
      try simp (disch := omega) only [rup_rup, rup_sort, rupS_def, rup_s, rup_n, fup_fup, fup_s, fup_n, v5]
      refine R_goto (t := 104) dX12_readsAct_96 rfl (?_ : RR _ _ _ _ 104 _ _ _ _)
      refine R_iast dX12_readsAct_104 (?_ : RR _ _ _ _ 105 _ _ _ _)
      try simp (disch := omega) only [rup_rup, rup_sort, rupS_def, rup_s, rup_n, fup_fup, fup_s, fup_n, v5]
      exact K
  · rw [if_neg q, if_neg q, ← hi, fup_self, rup_self] at hN hN4
    have hq := hQ0 q (rup h 165 (fup (h 165) k (-1))) ⟨fun a a1 a2 a3 => by rw [rup_n a2], fun j j1 => by rw [rup_n (by omega)], fun j j1 => ⟨by rw [rup_s, fup_n j1], by rw [rup_n (by omega)]⟩⟩ (by rw [rup_n (by omega)]; exact hi)
    clear hQ2 hQ1 hQ0 hσ hσn
    rcases hs with ⟨rfl, rfl, rfl⟩ | ⟨rfl, rfl, rfl⟩
    · have hN := hN rfl
      refine R_aload_n dX12_readsAct_28 rfl (?_ : RR _ _ _ _ 29 _ _ _ _)
      refine R_getr dX12_readsAct_29 flX12_63 cok_12 rfl (by decide) (?_ : RR _ _ _ _ 32 _ _ _ _)
      refine R_iload_n dX12_readsAct_32 rfl (?_ : RR _ _ _ _ 33 _ _ _ _)
      refine R_iald dX12_readsAct_33 (fun q33 => (?_ : RR _ _ _ _ 34 _ _ _ _))
      try simp (disch := omega) only [rup_rup, rup_sort, rupS_def, rup_s, rup_n, fup_fup, fup_s, fup_n, v5] at q33 ⊢
      refine R_iconst dX12_readsAct_34 (?_ : RR _ _ _ _ 35 _ _ _ _)
      refine R_icmp_ge (t := 53) dX12_readsAct_35 rfl (fun c35 => ?_) (fun c35 => ?_)
      rotate_left
      · exfalso; omega
      refine R_aload_n dX12_readsAct_53 rfl (?_ : RR _ _ _ _ 54 _ _ _ _)
      refine R_getr dX12_readsAct_54 flX12_66 cok_12 rfl (by decide) (?_ : RR _ _ _ _ 57 _ _ _ _)
      refine R_iload_n dX12_readsAct_57 rfl (?_ : RR _ _ _ _ 58 _ _ _ _)
      refine R_aload_n dX12_readsAct_58 rfl (?_ : RR _ _ _ _ 59 _ _ _ _)
      refine R_getr dX12_readsAct_59 flX12_63 cok_12 rfl (by decide) (?_ : RR _ _ _ _ 62 _ _ _ _)
      refine R_iload_n dX12_readsAct_62 rfl (?_ : RR _ _ _ _ 63 _ _ _ _)
      refine R_iald dX12_readsAct_63 (fun q63 => (?_ : RR _ _ _ _ 64 _ _ _ _))
      try simp (disch := omega) only [rup_rup, rup_sort, rupS_def, rup_s, rup_n, fup_fup, fup_s, fup_n, v5] at q63 ⊢
      refine R_iconst dX12_readsAct_64 (?_ : RR _ _ _ _ 65 _ _ _ _)
      refine R_icmp_ne (t := 79) dX12_readsAct_65 rfl (fun c65 => ?_) (fun c65 => ?_)
      · exfalso; omega
      refine R_aload_n dX12_readsAct_68 rfl (?_ : RR _ _ _ _ 69 _ _ _ _)
      refine R_bipush dX12_readsAct_69 rfl (?_ : RR _ _ _ _ 71 _ _ _ _)
      refine R_iconst dX12_readsAct_71 (?_ : RR _ _ _ _ 72 _ _ _ _)
      refine R_iconst dX12_readsAct_72 (?_ : RR _ _ _ _ 73 _ _ _ _)
      refine R_cVi3 dX12_readsAct_73 mvX12_signIn mlX12_186 (by decide) (by decide) (Nat.le_of_ble_eq_true rfl) (Nat.le_of_ble_eq_true rfl) (hN) (?_ : RR _ _ _ _ 76 _ _ _ _)
      try simp (disch := omega) only [rup_rup, rup_sort, rupS_def, rup_s, rup_n, fup_fup, fup_s, fup_n, v5]
      refine R_goto (t := 104) dX12_readsAct_76 rfl (?_ : RR _ _ _ _ 104 _ _ _ _)
      refine R_iast dX12_readsAct_104 (?_ : RR _ _ _ _ 105 _ _ _ _)
      try simp (disch := omega) only [rup_rup, rup_sort, rupS_def, rup_s, rup_n, fup_fup, fup_s, fup_n, v5]
      refine R_aload_n dX12_readsAct_105 rfl (?_ : RR _ _ _ _ 106 _ _ _ _)
      refine R_getr dX12_readsAct_106 flX12_66 cok_12 rfl (by decide) (?_ : RR _ _ _ _ 109 _ _ _ _)
      refine R_iload_n dX12_readsAct_109 rfl (?_ : RR _ _ _ _ 110 _ _ _ _)
      refine R_iald dX12_readsAct_110 (fun q110 => (?_ : RR _ _ _ _ 111 _ _ _ _))
      try simp (disch := omega) only [rup_rup, rup_sort, rupS_def, rup_s, rup_n, fup_fup, fup_s, fup_n, v5] at q110 ⊢
      refine R_if_lt (t := 134) dX12_readsAct_111 rfl (fun c111 => ?_) (fun c111 => ?_)
      rotate_left
      · exfalso; omega
      refine R_aload_n dX12_readsAct_134 rfl (?_ : RR _ _ _ _ 135 _ _ _ _)
      refine R_getr dX12_readsAct_135 flX12_66 cok_12 rfl (by decide) (?_ : RR _ _ _ _ 138 _ _ _ _)
      refine R_iload_n dX12_readsAct_138 rfl (?_ : RR _ _ _ _ 139 _ _ _ _)
      refine R_iald dX12_readsAct_139 (fun q139 => (?_ : RR _ _ _ _ 140 _ _ _ _))
      try simp (disch := omega) only [rup_rup, rup_sort, rupS_def, rup_s, rup_n, fup_fup, fup_s, fup_n, v5] at q139 ⊢
      refine R_if_lt (t := 147) dX12_readsAct_140 rfl (fun c140 => ?_) (fun c140 => ?_)
      rotate_left
      · exfalso; omega
      refine R_iconst dX12_readsAct_147 (?_ : RR _ _ _ _ 148 _ _ _ _)
      exact R_ireturn dX12_readsAct_148 (by first | exact Or.inl rfl | exact Or.inr rfl | exact ok_ite | omega) hq
    · have hN4 := hN4 rfl
      refine R_aload_n dX12_readsAct_28 rfl (?_ : RR _ _ _ _ 29 _ _ _ _)
      refine R_getr dX12_readsAct_29 flX12_63 cok_12 rfl (by decide) (?_ : RR _ _ _ _ 32 _ _ _ _)
      refine R_iload_n dX12_readsAct_32 rfl (?_ : RR _ _ _ _ 33 _ _ _ _)
      refine R_iald dX12_readsAct_33 (fun q33 => (?_ : RR _ _ _ _ 34 _ _ _ _))
      try simp (disch := omega) only [rup_rup, rup_sort, rupS_def, rup_s, rup_n, fup_fup, fup_s, fup_n, v5] at q33 ⊢
      refine R_iconst dX12_readsAct_34 (?_ : RR _ _ _ _ 35 _ _ _ _)
      refine R_icmp_ge (t := 53) dX12_readsAct_35 rfl (fun c35 => ?_) (fun c35 => ?_)
      rotate_left
      · exfalso; omega
      refine R_aload_n dX12_readsAct_53 rfl (?_ : RR _ _ _ _ 54 _ _ _ _)
      refine R_getr dX12_readsAct_54 flX12_66 cok_12 rfl (by decide) (?_ : RR _ _ _ _ 57 _ _ _ _)
      refine R_iload_n dX12_readsAct_57 rfl (?_ : RR _ _ _ _ 58 _ _ _ _)
      refine R_aload_n dX12_readsAct_58 rfl (?_ : RR _ _ _ _ 59 _ _ _ _)
      refine R_getr dX12_readsAct_59 flX12_63 cok_12 rfl (by decide) (?_ : RR _ _ _ _ 62 _ _ _ _)
      refine R_iload_n dX12_readsAct_62 rfl (?_ : RR _ _ _ _ 63 _ _ _ _)
      refine R_iald dX12_readsAct_63 (fun q63 => (?_ : RR _ _ _ _ 64 _ _ _ _))
      try simp (disch := omega) only [rup_rup, rup_sort, rupS_def, rup_s, rup_n, fup_fup, fup_s, fup_n, v5] at q63 ⊢
      refine R_iconst dX12_readsAct_64 (?_ : RR _ _ _ _ 65 _ _ _ _)
      refine R_icmp_ne (t := 79) dX12_readsAct_65 rfl (fun c65 => ?_) (fun c65 => ?_)
      rotate_left
      · exfalso; omega
      refine R_aload_n dX12_readsAct_79 rfl (?_ : RR _ _ _ _ 80 _ _ _ _)
      refine R_getr dX12_readsAct_80 flX12_63 cok_12 rfl (by decide) (?_ : RR _ _ _ _ 83 _ _ _ _)
      refine R_iload_n dX12_readsAct_83 rfl (?_ : RR _ _ _ _ 84 _ _ _ _)
      refine R_iald dX12_readsAct_84 (fun q84 => (?_ : RR _ _ _ _ 85 _ _ _ _))
      try simp (disch := omega) only [rup_rup, rup_sort, rupS_def, rup_s, rup_n, fup_fup, fup_s, fup_n, v5] at q84 ⊢
      refine R_iconst dX12_readsAct_85 (?_ : RR _ _ _ _ 86 _ _ _ _)
      refine R_icmp_ne (t := 99) dX12_readsAct_86 rfl (fun c86 => ?_) (fun c86 => ?_)
      · exfalso; omega
      refine R_aload_n dX12_readsAct_89 rfl (?_ : RR _ _ _ _ 90 _ _ _ _)
      refine R_ldcSW (i := 5) (by decide) rfl dX12_readsAct_90 (?_ : RR _ _ _ _ 93 _ _ _ _)
      refine R_cVi1 dX12_readsAct_93 mvX12_takesOf mlX12_245 (by decide) (by decide) (Nat.le_of_ble_eq_true rfl) (Nat.le_of_ble_eq_true rfl) (hN4) (?_ : RR _ _ _ _ 96 _ _ _ _)
      try simp (disch := omega) only [rup_rup, rup_sort, rupS_def, rup_s, rup_n, fup_fup, fup_s, fup_n, v5]
      refine R_goto (t := 104) dX12_readsAct_96 rfl (?_ : RR _ _ _ _ 104 _ _ _ _)
      refine R_iast dX12_readsAct_104 (?_ : RR _ _ _ _ 105 _ _ _ _)
      try simp (disch := omega) only [rup_rup, rup_sort, rupS_def, rup_s, rup_n, fup_fup, fup_s, fup_n, v5]
      refine R_aload_n dX12_readsAct_105 rfl (?_ : RR _ _ _ _ 106 _ _ _ _)
      refine R_getr dX12_readsAct_106 flX12_66 cok_12 rfl (by decide) (?_ : RR _ _ _ _ 109 _ _ _ _)
      refine R_iload_n dX12_readsAct_109 rfl (?_ : RR _ _ _ _ 110 _ _ _ _)
      refine R_iald dX12_readsAct_110 (fun q110 => (?_ : RR _ _ _ _ 111 _ _ _ _))
      try simp (disch := omega) only [rup_rup, rup_sort, rupS_def, rup_s, rup_n, fup_fup, fup_s, fup_n, v5] at q110 ⊢
      refine R_if_lt (t := 134) dX12_readsAct_111 rfl (fun c111 => ?_) (fun c111 => ?_)
      rotate_left
      · exfalso; omega
      refine R_aload_n dX12_readsAct_134 rfl (?_ : RR _ _ _ _ 135 _ _ _ _)
      refine R_getr dX12_readsAct_135 flX12_66 cok_12 rfl (by decide) (?_ : RR _ _ _ _ 138 _ _ _ _)
      refine R_iload_n dX12_readsAct_138 rfl (?_ : RR _ _ _ _ 139 _ _ _ _)
      refine R_iald dX12_readsAct_139 (fun q139 => (?_ : RR _ _ _ _ 140 _ _ _ _))
      try simp (disch := omega) only [rup_rup, rup_sort, rupS_def, rup_s, rup_n, fup_fup, fup_s, fup_n, v5] at q139 ⊢
      refine R_if_lt (t := 147) dX12_readsAct_140 rfl (fun c140 => ?_) (fun c140 => ?_)
      rotate_left
      · exfalso; omega
      refine R_iconst dX12_readsAct_147 (?_ : RR _ _ _ _ 148 _ _ _ _)
      exact R_ireturn dX12_readsAct_148 (by first | exact Or.inl rfl | exact Or.inr rfl | exact ok_ite | omega) hq
theorem M_readsAct {p : Nat} (hk : k < 60) (hi : h 147 16 = p) (hb : h 147 17 = b) (h34 : h 147 34 = k) (hpb : p < b) (hb60 : b ≤ 60) (hσ : ∀ p : Nat, p < b → h 156 p = σ p ∧ 0 ≤ σ p ∧ σ p ≤ 255) (hσn : ∀ p : Nat, b ≤ p → σ p = -1) : RR mX12_readsAct 6 0 0 0 (pm_ent [pR 147] 2) [] (shp0, rf0, h) (fun r' g' => r' = some (pI (if (naE σ p).2 then 1 else 0)) ∧ ∃ h2, g' = (shp0, rf0, h2) ∧ raF h h2 k ∧ h2 147 16 = ((naE σ p).1 : Int) ∧ h2 147 34 = (k : Int) + 1 ∧ ((naE σ p).2 = true → raV σ p k h2)) := by
  show RR _ _ _ _ _ [pR 147, pU] _ _ _
  suffices hS : ∀ Q : Option PV → PH → Prop, (∀ h2, raF h h2 k → h2 147 16 = ((naE σ p).1 : Int) → h2 147 34 = (k : Int) + 1 → ((naE σ p).2 = true → raV σ p k h2) → Q (some (pI (if (naE σ p).2 then 1 else 0))) (shp0, rf0, h2)) → RR mX12_readsAct 6 0 0 0 [pR 147, pU] [] (shp0, rf0, h) Q from hS _ (fun h2 q1 q2 q3 q4 => ⟨rfl, h2, rfl, q1, q2, q3, q4⟩)
  intro Q hQ
  have hTk := T_X12_takesOf (h := h) (i := 4) (by decide) hi hb (by omega) (by omega) hσ hσn
  have c1 : ((p + 1 : Nat) : Int) = (p : Int) + 1 := by omega
  have c2 : (p : Int) + 1 + 1 = (p : Int) + 2 := by omega
  /- behind the sign -/
  have base : ∀ s : Int, amI 4 (σ p) = s → 0 ≤ s → s ≤ 5 → (∀ h5, raF h h5 k → h5 147 16 = ((p + 1 : Nat) : Int) → h5 147 17 = b → h5 147 34 = (k : Int) + 1 → h5 164 k = s → (∀ p : Nat, p < b → h5 156 p = σ p ∧ 0 ≤ σ p ∧ σ p ≤ 255) → RR mX12_readsAct 6 0 0 28 [pR 147, pI k] [] (shp0, rf0, h5) Q) → RR mX12_readsAct 6 0 0 0 [pR 147, pU] [] (shp0, rf0, h) Q := by
    intro s es s0 s1 K
    rw [es, if_pos s0] at hTk
    obtain ⟨h5, h5e⟩ : ∃ h5, h5 = rup (rup h 147 (fup (fup (h 147) 16 ((p : Int) + 1)) 34 ((k : Int) + 1))) 164 (fup (h 164) k s) := ⟨_, rfl⟩
    have f5 : raF h h5 k := ⟨fun a a1 a2 a3 a4 => by rw [h5e, rup_n a2, rup_n a1], fun j j1 j2 => by rw [h5e, rup_n (by omega), rup_s, fup_n j2, fup_n j1], fun j j1 => ⟨by rw [h5e, rup_s, fup_n j1], by rw [h5e, rup_n (by omega), rup_n (by omega)], by rw [h5e, rup_n (by omega), rup_n (by omega)]⟩⟩
    have K28 := K h5 f5 (by rw [h5e, rup_n (by omega), rup_s, fup_n (by omega), fup_s]; omega) (by rw [h5e, rup_n (by omega), rup_s, fup_n (by omega), fup_n (by omega)]; exact hb) (by rw [h5e, rup_n (by omega), rup_s, fup_s]) (by rw [h5e, rup_s, fup_s]) (fun p hp => by rw [f5.1 156 (by omega) (by omega) (by omega) (by omega)]; exact hσ p hp)
    clear hQ K hσ hσn
    rw [h5e] at K28
    refine R_aload_n dX12_readsAct_0 rfl (?_ : RR _ _ _ _ 1 _ _ _ _)
    refine R_geti (z := 34) dX12_readsAct_1 flX12_394 cok_12 rfl (by decide) rfl (fun q1 => (?_ : RR _ _ _ _ 4 _ _ _ _))
    try simp (disch := omega) only [rup_rup, rup_sort, rupS_def, rup_s, rup_n, fup_fup, fup_s, fup_n, h34] at q1 ⊢
    refine R_istore_n dX12_readsAct_4 (Nat.le_of_ble_eq_true rfl) (?_ : RR _ _ _ _ 5 [_, _] _ _ _)
    refine R_aload_n dX12_readsAct_5 rfl (?_ : RR _ _ _ _ 6 _ _ _ _)
    refine R_getr dX12_readsAct_6 flX12_63 cok_12 rfl (by decide) (?_ : RR _ _ _ _ 9 _ _ _ _)
    refine R_iload_n dX12_readsAct_9 rfl (?_ : RR _ _ _ _ 10 _ _ _ _)
    refine R_aload_n dX12_readsAct_10 rfl (?_ : RR _ _ _ _ 11 _ _ _ _)
    refine R_ldcSW (i := 4) (by decide) rfl dX12_readsAct_11 (?_ : RR _ _ _ _ 14 _ _ _ _)
    refine R_cVi1 dX12_readsAct_14 mvX12_takesOf mlX12_245 (by decide) (by decide) (Nat.le_of_ble_eq_true rfl) (Nat.le_of_ble_eq_true rfl) (hTk) (?_ : RR _ _ _ _ 17 _ _ _ _)
    try simp (disch := omega) only [rup_rup, rup_sort, rupS_def, rup_s, rup_n, fup_fup, fup_s, fup_n, h34]
    refine R_iast dX12_readsAct_17 (?_ : RR _ _ _ _ 18 _ _ _ _)
    try simp (disch := omega) only [rup_rup, rup_sort, rupS_def, rup_s, rup_n, fup_fup, fup_s, fup_n, h34]
    refine R_aload_n dX12_readsAct_18 rfl (?_ : RR _ _ _ _ 19 _ _ _ _)
    refine R_dup dX12_readsAct_19 (fun _ => rfl) (?_ : RR _ _ _ _ 20 _ _ _ _)
    refine R_geti (z := 34) dX12_readsAct_20 flX12_394 cok_12 rfl (by decide) rfl (fun q20 => (?_ : RR _ _ _ _ 23 _ _ _ _))
    try simp (disch := omega) only [rup_rup, rup_sort, rupS_def, rup_s, rup_n, fup_fup, fup_s, fup_n, h34] at q20 ⊢
    refine R_iconst dX12_readsAct_23 (?_ : RR _ _ _ _ 24 _ _ _ _)
    refine R_iadd dX12_readsAct_24 (?_ : RR _ _ _ _ 25 _ _ _ _)
    refine R_puti (zk := 34) dX12_readsAct_25 flX12_394 cok_12 (by decide) (fun q hq => by cases hq; rfl) rfl (?_ : RR _ _ _ _ 28 _ _ _ _)
    try simp (disch := omega) only [rup_rup, rup_sort, rupS_def, rup_s, rup_n, fup_fup, fup_s, fup_n, h34]
    exact K28
  have trF : ∀ h5 h2, raF h h5 k → raG h5 h2 k → raF h h2 k := fun h5 h2 f g => ⟨fun a a1 a2 a3 a4 => by rw [g.1 a a1 a3 a4]; exact f.1 a a1 a2 a3 a4, fun j j1 j2 => by rw [g.2.1 j j1]; exact f.2.1 j j1 j2, fun j j1 => ⟨by rw [g.1 164 (by omega) (by omega) (by omega)]; exact (f.2.2 j j1).1, by rw [(g.2.2 j j1).1]; exact (f.2.2 j j1).2.1, by rw [(g.2.2 j j1).2]; exact (f.2.2 j j1).2.2⟩⟩
  have z34 : ∀ h5 h2, h5 147 34 = (k : Int) + 1 → raG h5 h2 k → h2 147 34 = (k : Int) + 1 := fun h5 h2 e g => by rw [g.2.1 34 (by omega)]; exact e
  have z164 : ∀ (h5 h2 : Nat → Int → Int) (s : Int), h5 164 k = s → raG h5 h2 k → h2 164 k = s := fun h5 h2 s e g => by rw [g.1 164 (by omega) (by omega) (by omega)]; exact e
  by_cases q1 : σ p = 114 ∨ σ p = 99
  · have e : naE σ p = (p + 1, true) := if_pos q1
    rw [e] at hQ
    have ea : amI 4 (σ p) = 0 ∨ amI 4 (σ p) = 1 := by
      rcases q1 with w | w
      · left; rw [w, amI_4]; rfl
      · right; rw [w, amI_4]; rfl
    refine base (amI 4 (σ p)) rfl (by omega) (by omega) (fun h5 f5 i5 b5 a5 v5 σ5 => RA_28a ea hk v5 (hQ h5 f5 i5 a5 (fun _ => ⟨v5, fun w => by omega, fun w => by omega, fun w => by omega⟩)))
  · by_cases q2 : σ p = 120 ∨ σ p = 115
    · have ea : amI 4 (σ p) = 2 ∨ amI 4 (σ p) = 5 := by
        rcases q2 with w | w
        · left; rw [w, amI_4]; rfl
        · right; rw [w, amI_4]; rfl
      have e : naE σ p = if 48 ≤ σ (p + 1) ∧ σ (p + 1) ≤ 57 then (p + 2, true) else (p + 1, false) := by unfold naE; rw [if_neg q1, if_pos q2]
      refine base (amI 4 (σ p)) rfl (by omega) (by omega) (fun h5 f5 i5 b5 a5 v5 σ5 => RA_28b (σ := σ) ea hk v5 i5 b5 hpb hb60 σ5 hσn (fun w h2 g g16 g5 => ?_) (fun w h2 g g16 => ?_))
      · rw [c1] at w g5
        rw [if_pos w] at e
        rw [e] at hQ
        exact hQ h2 (trF h5 h2 f5 g) (by rw [g16]; show _ = ((p + 2 : Nat) : Int); omega) (z34 h5 h2 a5 g) (fun _ => ⟨z164 h5 h2 _ v5 g, fun _ => g5, fun y => by omega, fun y => by omega⟩)
      · rw [c1] at w
        rw [if_neg w] at e
        rw [e] at hQ
        exact hQ h2 (trF h5 h2 f5 g) g16 (z34 h5 h2 a5 g) (fun y => by cases y)
    · by_cases q3 : σ p = 103 ∨ σ p = 119
      · obtain ⟨B, L, ea, eF⟩ : ∃ (B : Int) (L : Nat), ((amI 4 (σ p) = 3 ∧ B = 48 ∧ L = 1) ∨ (amI 4 (σ p) = 4 ∧ B = 97 ∧ L = 11)) ∧ ((σ p = 103 ∧ B = 48 ∧ L = 1) ∨ (σ p = 119 ∧ B = 97 ∧ L = 11)) := by
          rcases q3 with w | w
          · exact ⟨48, 1, Or.inl ⟨by rw [w, amI_4]; rfl, rfl, rfl⟩, Or.inl ⟨w, rfl, rfl⟩⟩
          · exact ⟨97, 11, Or.inr ⟨by rw [w, amI_4]; rfl, rfl, rfl⟩, Or.inr ⟨w, rfl, rfl⟩⟩
        have e : naE σ p = if naF σ p then (if 48 ≤ σ (p + 2) ∧ σ (p + 2) ≤ 57 then (p + 3, true) else (p + 2, false)) else (p + 1, false) := by unfold naE; rw [if_neg q1, if_neg q2, if_pos q3]
        refine base (amI 4 (σ p)) rfl (by omega) (by omega) (fun h5 f5 i5 b5 a5 v5 σ5 => RA_28c (σ := σ) ea hk v5 i5 b5 hpb hb60 σ5 hσn (fun w w2 h2 g g16 g5 g6 => ?_) (fun w w2 h2 g g16 => ?_) (fun w h2 g g16 => ?_))
        · rw [c1] at w g5 w2 g6
          rw [c2] at w2 g6
          rw [if_pos (show naF σ p by unfold naF; omega), if_pos w2] at e
          rw [e] at hQ
          exact hQ h2 (trF h5 h2 f5 g) (by rw [g16]; show _ = ((p + 3 : Nat) : Int); omega) (z34 h5 h2 a5 g) (fun _ => ⟨z164 h5 h2 _ v5 g, fun y => by rw [g5]; omega, fun y => by rw [g5]; omega, fun _ => g6⟩)
        · rw [c1] at w w2
          rw [c2] at w2
          rw [if_pos (show naF σ p by unfold naF; omega), if_neg w2] at e
          rw [e] at hQ
          exact hQ h2 (trF h5 h2 f5 g) (by rw [g16]; show _ = ((p + 2 : Nat) : Int); omega) (z34 h5 h2 a5 g) (fun y => by cases y)
        · rw [c1] at w
          rw [if_neg (show ¬ naF σ p by unfold naF; omega)] at e
          rw [e] at hQ
          exact hQ h2 (trF h5 h2 f5 g) g16 (z34 h5 h2 a5 g) (fun y => by cases y)
      · have e : naE σ p = (p, false) := by unfold naE; rw [if_neg q1, if_neg q2, if_neg q3]
        rw [e] at hQ
        have ea : amI 4 (σ p) = -1 := by
          rw [amI_4, if_neg (by omega), if_neg (by omega), if_neg (by omega), if_neg (by omega), if_neg (by omega), if_neg (by omega)]
        rw [ea, if_neg (by omega), ← hi, fup_self, rup_self] at hTk
        have hq := hQ (rup (rup h 147 (fup (h 147) 34 ((k : Int) + 1))) 164 (fup (h 164) k (-1))) ⟨fun a a1 a2 a3 a4 => by rw [rup_n a2, rup_n a1], fun j j1 j2 => by rw [rup_n (by omega), rup_s, fup_n j2], fun j j1 => ⟨by rw [rup_s, fup_n j1], by rw [rup_n (by omega), rup_n (by omega)], by rw [rup_n (by omega), rup_n (by omega)]⟩⟩ (by rw [rup_n (by omega), rup_s, fup_n (by omega)]; exact hi) (by rw [rup_n (by omega), rup_s, fup_s]) (fun w => by cases w)
        clear hQ hσ hσn base
        refine R_aload_n dX12_readsAct_0 rfl (?_ : RR _ _ _ _ 1 _ _ _ _)
        refine R_geti (z := 34) dX12_readsAct_1 flX12_394 cok_12 rfl (by decide) rfl (fun q1 => (?_ : RR _ _ _ _ 4 _ _ _ _))
        try simp (disch := omega) only [rup_rup, rup_sort, rupS_def, rup_s, rup_n, fup_fup, fup_s, fup_n, h34] at q1 ⊢
        refine R_istore_n dX12_readsAct_4 (Nat.le_of_ble_eq_true rfl) (?_ : RR _ _ _ _ 5 [_, _] _ _ _)
        refine R_aload_n dX12_readsAct_5 rfl (?_ : RR _ _ _ _ 6 _ _ _ _)
        refine R_getr dX12_readsAct_6 flX12_63 cok_12 rfl (by decide) (?_ : RR _ _ _ _ 9 _ _ _ _)
        refine R_iload_n dX12_readsAct_9 rfl (?_ : RR _ _ _ _ 10 _ _ _ _)
        refine R_aload_n dX12_readsAct_10 rfl (?_ : RR _ _ _ _ 11 _ _ _ _)
        refine R_ldcSW (i := 4) (by decide) rfl dX12_readsAct_11 (?_ : RR _ _ _ _ 14 _ _ _ _)
        refine R_cVi1 dX12_readsAct_14 mvX12_takesOf mlX12_245 (by decide) (by decide) (Nat.le_of_ble_eq_true rfl) (Nat.le_of_ble_eq_true rfl) (hTk) (?_ : RR _ _ _ _ 17 _ _ _ _)
        try simp (disch := omega) only [rup_rup, rup_sort, rupS_def, rup_s, rup_n, fup_fup, fup_s, fup_n, h34]
        refine R_iast dX12_readsAct_17 (?_ : RR _ _ _ _ 18 _ _ _ _)
        try simp (disch := omega) only [rup_rup, rup_sort, rupS_def, rup_s, rup_n, fup_fup, fup_s, fup_n, h34]
        refine R_aload_n dX12_readsAct_18 rfl (?_ : RR _ _ _ _ 19 _ _ _ _)
        refine R_dup dX12_readsAct_19 (fun _ => rfl) (?_ : RR _ _ _ _ 20 _ _ _ _)
        refine R_geti (z := 34) dX12_readsAct_20 flX12_394 cok_12 rfl (by decide) rfl (fun q20 => (?_ : RR _ _ _ _ 23 _ _ _ _))
        try simp (disch := omega) only [rup_rup, rup_sort, rupS_def, rup_s, rup_n, fup_fup, fup_s, fup_n, h34] at q20 ⊢
        refine R_iconst dX12_readsAct_23 (?_ : RR _ _ _ _ 24 _ _ _ _)
        refine R_iadd dX12_readsAct_24 (?_ : RR _ _ _ _ 25 _ _ _ _)
        refine R_puti (zk := 34) dX12_readsAct_25 flX12_394 cok_12 (by decide) (fun q hq => by cases hq; rfl) rfl (?_ : RR _ _ _ _ 28 _ _ _ _)
        try simp (disch := omega) only [rup_rup, rup_sort, rupS_def, rup_s, rup_n, fup_fup, fup_s, fup_n, h34]
        refine R_aload_n dX12_readsAct_28 rfl (?_ : RR _ _ _ _ 29 _ _ _ _)
        refine R_getr dX12_readsAct_29 flX12_63 cok_12 rfl (by decide) (?_ : RR _ _ _ _ 32 _ _ _ _)
        refine R_iload_n dX12_readsAct_32 rfl (?_ : RR _ _ _ _ 33 _ _ _ _)
        refine R_iald dX12_readsAct_33 (fun q33 => (?_ : RR _ _ _ _ 34 _ _ _ _))
        try simp (disch := omega) only [rup_rup, rup_sort, rupS_def, rup_s, rup_n, fup_fup, fup_s, fup_n, h34] at q33 ⊢
        refine R_iconst dX12_readsAct_34 (?_ : RR _ _ _ _ 35 _ _ _ _)
        refine R_icmp_ge (t := 53) dX12_readsAct_35 rfl (fun c35 => ?_) (fun c35 => ?_)
        · exfalso; omega
        refine R_aload_n dX12_readsAct_38 rfl (?_ : RR _ _ _ _ 39 _ _ _ _)
        refine R_getr dX12_readsAct_39 flX12_63 cok_12 rfl (by decide) (?_ : RR _ _ _ _ 42 _ _ _ _)
        refine R_iload_n dX12_readsAct_42 rfl (?_ : RR _ _ _ _ 43 _ _ _ _)
        refine R_iald dX12_readsAct_43 (fun q43 => (?_ : RR _ _ _ _ 44 _ _ _ _))
        try simp (disch := omega) only [rup_rup, rup_sort, rupS_def, rup_s, rup_n, fup_fup, fup_s, fup_n, h34] at q43 ⊢
        refine R_if_lt (t := 51) dX12_readsAct_44 rfl (fun c44 => ?_) (fun c44 => ?_)
        rotate_left
        · exfalso; omega
        refine R_iconst dX12_readsAct_51 (?_ : RR _ _ _ _ 52 _ _ _ _)
        exact R_ireturn dX12_readsAct_52 (by first | exact Or.inl rfl | exact Or.inr rfl | exact ok_ite | omega) hq
end NI2
