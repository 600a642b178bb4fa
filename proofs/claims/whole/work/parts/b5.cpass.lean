/-! passengers that come -/
section CPA
variable {k : Nat} {h h1 h2 h3 h4 : Nat → Int → Int} {sem : Sem} {H np nc len n : Nat} {σ : Int → Int}
def pa1 (σ : Int → Int) (nc np l : Nat) : Prop := np + l < 12 ∧ 48 ≤ σ (4 * l) ∧ σ (4 * l) < 48 + (nc : Int)
def pa2 (σ : Int → Int) (H l : Nat) : Prop := 97 ≤ σ (4 * l + 1) ∧ σ (4 * l + 1) < 97 + (H : Int)
def pa3 (σ : Int → Int) (l : Nat) : Prop := 49 ≤ σ (4 * l + 2) ∧ σ (4 * l + 2) < 58
/-- the line is one, and another follows -/
def paC (σ : Int → Int) (H nc np n l : Nat) : Prop := (pa1 σ nc np l ∧ pa2 σ H l ∧ pa3 σ l) ∧ n ≠ 4 * l + 3 ∧ σ (4 * l + 3) = 59
/-- the reading ends in this line, with this answer -/
def paS (σ : Int → Int) (H nc np n l : Nat) (r : Int) : Prop := (¬ pa1 σ nc np l ∧ r = -1 - 4 * l) ∨ (pa1 σ nc np l ∧ ¬ pa2 σ H l ∧ r = -2 - 4 * l) ∨ (pa1 σ nc np l ∧ pa2 σ H l ∧ ¬ pa3 σ l ∧ r = -3 - 4 * l) ∨ ((pa1 σ nc np l ∧ pa2 σ H l ∧ pa3 σ l) ∧ n = 4 * l + 3 ∧ r = l + 1) ∨ ((pa1 σ nc np l ∧ pa2 σ H l ∧ pa3 σ l) ∧ n ≠ 4 * l + 3 ∧ σ (4 * l + 3) ≠ 59 ∧ r = -4 - 4 * l)
theorem pa_ex : ∃ (l : Nat) (r : Int), l ≤ 12 ∧ (∀ j, j < l → paC σ H nc np n j) ∧ paS σ H nc np n l r := by
  haveI : DecidablePred (paC σ H nc np n) := fun i => by unfold paC pa1 pa2 pa3; infer_instance
  rcases fst_bad (paC σ H nc np n) 13 with hg | ⟨l, l1, l2, l3⟩
  · have := (hg 12 (by omega)).1.1.1
    omega
  · have : ∃ r, paS σ H nc np n l r := by
      unfold paS
      by_cases a1 : pa1 σ nc np l
      · by_cases a2 : pa2 σ H l
        · by_cases a3 : pa3 σ l
          · by_cases a4 : n = 4 * l + 3
            · exact ⟨l + 1, Or.inr (Or.inr (Or.inr (Or.inl ⟨⟨a1, a2, a3⟩, a4, rfl⟩)))⟩
            · exact ⟨-4 - 4 * l, Or.inr (Or.inr (Or.inr (Or.inr ⟨⟨a1, a2, a3⟩, a4, fun z => l2 ⟨⟨a1, a2, a3⟩, a4, z⟩, rfl⟩)))⟩
          · exact ⟨-3 - 4 * l, Or.inr (Or.inr (Or.inl ⟨a1, a2, a3, rfl⟩))⟩
        · exact ⟨-2 - 4 * l, Or.inr (Or.inl ⟨a1, a2, rfl⟩)⟩
      · exact ⟨-1 - 4 * l, Or.inl ⟨a1, rfl⟩⟩
    obtain ⟨r, hr⟩ := this
    exact ⟨l, r, by omega, l3, hr⟩
theorem T_X11_checkPassengers {l : Nat} {r : Int} (hσ : ∀ p : Int, 0 ≤ p → signAt h p = σ p) (hσb : ∀ p : Int, -1 ≤ σ p ∧ σ p ≤ 255) (h1n : h 1 1 = n) (hn80 : n ≤ 80) (hH : h 3 0 = H) (hH9 : H ≤ 9) (hnc : h 14 2 = nc) (h6 : nc ≤ 6) (hnp : h 11 0 = np) (h12 : np ≤ 12) (hl12 : l ≤ 12) (hg : ∀ j, j < l → paC σ H nc np n j) (hr : paS σ H nc np n l r) : MT mX11_checkPassengers 2 [pR 0] h (some (pI r)) h := by
  refine MT.of (fun Q hQ => (?_ : RR mX11_checkPassengers _ _ _ _ [pR 0, pU, pU] _ _ _))
  have L : ∀ (j i : Nat), i + j = l → RR mX11_checkPassengers 2 0 0 4 [pR 0, pI (4 * i), pI i] [] (shp0, rf0, h) Q := by
    intro j
    induction j with
    | zero =>
      intro i hi
      obtain rfl : i = l := by omega
      have N1 := T_X7_numberAt (h := h) (p := 4 * (i : Int)) (f := 48) (m := nc) (by rw [hσ _ (by omega)]; exact hσb _)
      have N2 := T_X7_numberAt (h := h) (p := 4 * (i : Int) + 1) (f := 97) (m := H) (by rw [hσ _ (by omega)]; exact hσb _)
      have N3 := T_X7_numberAt (h := h) (p := 4 * (i : Int) + 2) (f := 49) (m := 9) (by rw [hσ _ (by omega)]; exact hσb _)
      have A4 := T_X7_at (h := h) (p := 4 * (i : Int) + 3)
      unfold numAt at N1 N2 N3
      rw [hσ _ (by omega)] at N1 N2 N3 A4
      have b4 := hσb (4 * i + 3)
      rcases hr with ⟨r1, r2⟩ | ⟨r1, r2, r3⟩ | ⟨r1, r2, r3, r4⟩ | ⟨⟨r1, r2, r3⟩, r4, r5⟩ | ⟨⟨r1, r2, r3⟩, r4, r5, r6⟩
      · rw [r2] at hQ
        by_cases y : np + i < 12
        · rw [if_neg (fun z => r1 ⟨y, by omega, by omega⟩)] at N1
          refine R_aload_n dX11_checkPassengers_4 rfl (?_ : RR _ _ _ _ 5 _ _ _ _)
          refine R_getr dX11_checkPassengers_5 flX11_29 cok_11 rfl (by decide) (?_ : RR _ _ _ _ 8 _ _ _ _)
          refine R_geti (z := 0) dX11_checkPassengers_8 flX11_116 cok_2 rfl (by decide) rfl (fun q8 => (?_ : RR _ _ _ _ 11 _ _ _ _))
          rw [hnp] at q8 ⊢
          refine R_iload_n dX11_checkPassengers_11 rfl (?_ : RR _ _ _ _ 12 _ _ _ _)
          refine R_iadd dX11_checkPassengers_12 (?_ : RR _ _ _ _ 13 _ _ _ _)
          refine R_bipush dX11_checkPassengers_13 rfl (?_ : RR _ _ _ _ 15 _ _ _ _)
          refine R_icmp_ge (t := 138) dX11_checkPassengers_15 rfl (fun c15 => ?_) (fun c15 => ?_)
          · exfalso; omega
          refine R_aload_n dX11_checkPassengers_18 rfl (?_ : RR _ _ _ _ 19 _ _ _ _)
          refine R_getr dX11_checkPassengers_19 flX11_10 cok_11 rfl (by decide) (?_ : RR _ _ _ _ 22 _ _ _ _)
          refine R_iload_n dX11_checkPassengers_22 rfl (?_ : RR _ _ _ _ 23 _ _ _ _)
          refine R_bipush dX11_checkPassengers_23 rfl (?_ : RR _ _ _ _ 25 _ _ _ _)
          refine R_aload_n dX11_checkPassengers_25 rfl (?_ : RR _ _ _ _ 26 _ _ _ _)
          refine R_getr dX11_checkPassengers_26 flX11_36 cok_11 rfl (by decide) (?_ : RR _ _ _ _ 29 _ _ _ _)
          refine R_geti (z := 2) dX11_checkPassengers_29 flX11_349 cok_9 rfl (by decide) rfl (fun q29 => (?_ : RR _ _ _ _ 32 _ _ _ _))
          rw [hnc] at q29 ⊢
          refine R_cVi3 dX11_checkPassengers_32 mvX7_numberAt mlX11_132 (by decide) (by decide) (Nat.le_of_ble_eq_true rfl) (Nat.le_of_ble_eq_true rfl) (N1) (?_ : RR _ _ _ _ 35 _ _ _ _)
          refine R_iconst dX11_checkPassengers_35 (?_ : RR _ _ _ _ 36 _ _ _ _)
          refine R_icmp_ne (t := 43) dX11_checkPassengers_36 rfl (fun c36 => ?_) (fun c36 => ?_)
          · exfalso; omega
          refine R_iconst dX11_checkPassengers_39 (?_ : RR _ _ _ _ 40 _ _ _ _)
          refine R_iload_n dX11_checkPassengers_40 rfl (?_ : RR _ _ _ _ 41 _ _ _ _)
          refine R_isub dX11_checkPassengers_41 (?_ : RR _ _ _ _ 42 _ _ _ _)
          exact R_ireturn dX11_checkPassengers_42 trivial hQ
        · refine R_aload_n dX11_checkPassengers_4 rfl (?_ : RR _ _ _ _ 5 _ _ _ _)
          refine R_getr dX11_checkPassengers_5 flX11_29 cok_11 rfl (by decide) (?_ : RR _ _ _ _ 8 _ _ _ _)
          refine R_geti (z := 0) dX11_checkPassengers_8 flX11_116 cok_2 rfl (by decide) rfl (fun q8 => (?_ : RR _ _ _ _ 11 _ _ _ _))
          rw [hnp] at q8 ⊢
          refine R_iload_n dX11_checkPassengers_11 rfl (?_ : RR _ _ _ _ 12 _ _ _ _)
          refine R_iadd dX11_checkPassengers_12 (?_ : RR _ _ _ _ 13 _ _ _ _)
          refine R_bipush dX11_checkPassengers_13 rfl (?_ : RR _ _ _ _ 15 _ _ _ _)
          refine R_icmp_ge (t := 138) dX11_checkPassengers_15 rfl (fun c15 => ?_) (fun c15 => ?_)
          rotate_left
          · exfalso; omega
          refine R_iconst dX11_checkPassengers_138 (?_ : RR _ _ _ _ 139 _ _ _ _)
          refine R_iload_n dX11_checkPassengers_139 rfl (?_ : RR _ _ _ _ 140 _ _ _ _)
          refine R_isub dX11_checkPassengers_140 (?_ : RR _ _ _ _ 141 _ _ _ _)
          exact R_ireturn dX11_checkPassengers_141 trivial hQ
      · rw [r3] at hQ
        obtain ⟨y, y1, y2⟩ := r1
        rw [if_pos (by omega)] at N1
        rw [if_neg (fun z => r2 ⟨by omega, by omega⟩)] at N2
        refine R_aload_n dX11_checkPassengers_4 rfl (?_ : RR _ _ _ _ 5 _ _ _ _)
        refine R_getr dX11_checkPassengers_5 flX11_29 cok_11 rfl (by decide) (?_ : RR _ _ _ _ 8 _ _ _ _)
        refine R_geti (z := 0) dX11_checkPassengers_8 flX11_116 cok_2 rfl (by decide) rfl (fun q8 => (?_ : RR _ _ _ _ 11 _ _ _ _))
        rw [hnp] at q8 ⊢
        refine R_iload_n dX11_checkPassengers_11 rfl (?_ : RR _ _ _ _ 12 _ _ _ _)
        refine R_iadd dX11_checkPassengers_12 (?_ : RR _ _ _ _ 13 _ _ _ _)
        refine R_bipush dX11_checkPassengers_13 rfl (?_ : RR _ _ _ _ 15 _ _ _ _)
        refine R_icmp_ge (t := 138) dX11_checkPassengers_15 rfl (fun c15 => ?_) (fun c15 => ?_)
        · exfalso; omega
        refine R_aload_n dX11_checkPassengers_18 rfl (?_ : RR _ _ _ _ 19 _ _ _ _)
        refine R_getr dX11_checkPassengers_19 flX11_10 cok_11 rfl (by decide) (?_ : RR _ _ _ _ 22 _ _ _ _)
        refine R_iload_n dX11_checkPassengers_22 rfl (?_ : RR _ _ _ _ 23 _ _ _ _)
        refine R_bipush dX11_checkPassengers_23 rfl (?_ : RR _ _ _ _ 25 _ _ _ _)
        refine R_aload_n dX11_checkPassengers_25 rfl (?_ : RR _ _ _ _ 26 _ _ _ _)
        refine R_getr dX11_checkPassengers_26 flX11_36 cok_11 rfl (by decide) (?_ : RR _ _ _ _ 29 _ _ _ _)
        refine R_geti (z := 2) dX11_checkPassengers_29 flX11_349 cok_9 rfl (by decide) rfl (fun q29 => (?_ : RR _ _ _ _ 32 _ _ _ _))
        rw [hnc] at q29 ⊢
        refine R_cVi3 dX11_checkPassengers_32 mvX7_numberAt mlX11_132 (by decide) (by decide) (Nat.le_of_ble_eq_true rfl) (Nat.le_of_ble_eq_true rfl) (N1) (?_ : RR _ _ _ _ 35 _ _ _ _)
        refine R_iconst dX11_checkPassengers_35 (?_ : RR _ _ _ _ 36 _ _ _ _)
        refine R_icmp_ne (t := 43) dX11_checkPassengers_36 rfl (fun c36 => ?_) (fun c36 => ?_)
        rotate_left
        · exfalso; omega
        refine R_aload_n dX11_checkPassengers_43 rfl (?_ : RR _ _ _ _ 44 _ _ _ _)
        refine R_getr dX11_checkPassengers_44 flX11_10 cok_11 rfl (by decide) (?_ : RR _ _ _ _ 47 _ _ _ _)
        refine R_iload_n dX11_checkPassengers_47 rfl (?_ : RR _ _ _ _ 48 _ _ _ _)
        refine R_iconst dX11_checkPassengers_48 (?_ : RR _ _ _ _ 49 _ _ _ _)
        refine R_iadd dX11_checkPassengers_49 (?_ : RR _ _ _ _ 50 _ _ _ _)
        refine R_bipush dX11_checkPassengers_50 rfl (?_ : RR _ _ _ _ 52 _ _ _ _)
        refine R_aload_n dX11_checkPassengers_52 rfl (?_ : RR _ _ _ _ 53 _ _ _ _)
        refine R_getr dX11_checkPassengers_53 flX11_19 cok_11 rfl (by decide) (?_ : RR _ _ _ _ 56 _ _ _ _)
        refine R_geti (z := 0) dX11_checkPassengers_56 flX11_129 cok_0 rfl (by decide) rfl (fun q56 => (?_ : RR _ _ _ _ 59 _ _ _ _))
        rw [hH] at q56 ⊢
        refine R_cVi3 dX11_checkPassengers_59 mvX7_numberAt mlX11_132 (by decide) (by decide) (Nat.le_of_ble_eq_true rfl) (Nat.le_of_ble_eq_true rfl) (N2) (?_ : RR _ _ _ _ 62 _ _ _ _)
        refine R_iconst dX11_checkPassengers_62 (?_ : RR _ _ _ _ 63 _ _ _ _)
        refine R_icmp_ne (t := 71) dX11_checkPassengers_63 rfl (fun c63 => ?_) (fun c63 => ?_)
        · exfalso; omega
        refine R_bipush dX11_checkPassengers_66 rfl (?_ : RR _ _ _ _ 68 _ _ _ _)
        refine R_iload_n dX11_checkPassengers_68 rfl (?_ : RR _ _ _ _ 69 _ _ _ _)
        refine R_isub dX11_checkPassengers_69 (?_ : RR _ _ _ _ 70 _ _ _ _)
        exact R_ireturn dX11_checkPassengers_70 trivial hQ
      · rw [r4] at hQ
        obtain ⟨y, y1, y2⟩ := r1
        obtain ⟨u1, u2⟩ := r2
        rw [if_pos (by omega)] at N1 N2
        rw [if_neg (fun z => r3 ⟨by omega, by omega⟩)] at N3
        refine R_aload_n dX11_checkPassengers_4 rfl (?_ : RR _ _ _ _ 5 _ _ _ _)
        refine R_getr dX11_checkPassengers_5 flX11_29 cok_11 rfl (by decide) (?_ : RR _ _ _ _ 8 _ _ _ _)
        refine R_geti (z := 0) dX11_checkPassengers_8 flX11_116 cok_2 rfl (by decide) rfl (fun q8 => (?_ : RR _ _ _ _ 11 _ _ _ _))
        rw [hnp] at q8 ⊢
        refine R_iload_n dX11_checkPassengers_11 rfl (?_ : RR _ _ _ _ 12 _ _ _ _)
        refine R_iadd dX11_checkPassengers_12 (?_ : RR _ _ _ _ 13 _ _ _ _)
        refine R_bipush dX11_checkPassengers_13 rfl (?_ : RR _ _ _ _ 15 _ _ _ _)
        refine R_icmp_ge (t := 138) dX11_checkPassengers_15 rfl (fun c15 => ?_) (fun c15 => ?_)
        · exfalso; omega
        refine R_aload_n dX11_checkPassengers_18 rfl (?_ : RR _ _ _ _ 19 _ _ _ _)
        refine R_getr dX11_checkPassengers_19 flX11_10 cok_11 rfl (by decide) (?_ : RR _ _ _ _ 22 _ _ _ _)
        refine R_iload_n dX11_checkPassengers_22 rfl (?_ : RR _ _ _ _ 23 _ _ _ _)
        refine R_bipush dX11_checkPassengers_23 rfl (?_ : RR _ _ _ _ 25 _ _ _ _)
        refine R_aload_n dX11_checkPassengers_25 rfl (?_ : RR _ _ _ _ 26 _ _ _ _)
        refine R_getr dX11_checkPassengers_26 flX11_36 cok_11 rfl (by decide) (?_ : RR _ _ _ _ 29 _ _ _ _)
        refine R_geti (z := 2) dX11_checkPassengers_29 flX11_349 cok_9 rfl (by decide) rfl (fun q29 => (?_ : RR _ _ _ _ 32 _ _ _ _))
        rw [hnc] at q29 ⊢
        refine R_cVi3 dX11_checkPassengers_32 mvX7_numberAt mlX11_132 (by decide) (by decide) (Nat.le_of_ble_eq_true rfl) (Nat.le_of_ble_eq_true rfl) (N1) (?_ : RR _ _ _ _ 35 _ _ _ _)
        refine R_iconst dX11_checkPassengers_35 (?_ : RR _ _ _ _ 36 _ _ _ _)
        refine R_icmp_ne (t := 43) dX11_checkPassengers_36 rfl (fun c36 => ?_) (fun c36 => ?_)
        rotate_left
        · exfalso; omega
        refine R_aload_n dX11_checkPassengers_43 rfl (?_ : RR _ _ _ _ 44 _ _ _ _)
        refine R_getr dX11_checkPassengers_44 flX11_10 cok_11 rfl (by decide) (?_ : RR _ _ _ _ 47 _ _ _ _)
        refine R_iload_n dX11_checkPassengers_47 rfl (?_ : RR _ _ _ _ 48 _ _ _ _)
        refine R_iconst dX11_checkPassengers_48 (?_ : RR _ _ _ _ 49 _ _ _ _)
        refine R_iadd dX11_checkPassengers_49 (?_ : RR _ _ _ _ 50 _ _ _ _)
        refine R_bipush dX11_checkPassengers_50 rfl (?_ : RR _ _ _ _ 52 _ _ _ _)
        refine R_aload_n dX11_checkPassengers_52 rfl (?_ : RR _ _ _ _ 53 _ _ _ _)
        refine R_getr dX11_checkPassengers_53 flX11_19 cok_11 rfl (by decide) (?_ : RR _ _ _ _ 56 _ _ _ _)
        refine R_geti (z := 0) dX11_checkPassengers_56 flX11_129 cok_0 rfl (by decide) rfl (fun q56 => (?_ : RR _ _ _ _ 59 _ _ _ _))
        rw [hH] at q56 ⊢
        refine R_cVi3 dX11_checkPassengers_59 mvX7_numberAt mlX11_132 (by decide) (by decide) (Nat.le_of_ble_eq_true rfl) (Nat.le_of_ble_eq_true rfl) (N2) (?_ : RR _ _ _ _ 62 _ _ _ _)
        refine R_iconst dX11_checkPassengers_62 (?_ : RR _ _ _ _ 63 _ _ _ _)
        refine R_icmp_ne (t := 71) dX11_checkPassengers_63 rfl (fun c63 => ?_) (fun c63 => ?_)
        rotate_left
        · exfalso; omega
        refine R_aload_n dX11_checkPassengers_71 rfl (?_ : RR _ _ _ _ 72 _ _ _ _)
        refine R_getr dX11_checkPassengers_72 flX11_10 cok_11 rfl (by decide) (?_ : RR _ _ _ _ 75 _ _ _ _)
        refine R_iload_n dX11_checkPassengers_75 rfl (?_ : RR _ _ _ _ 76 _ _ _ _)
        refine R_iconst dX11_checkPassengers_76 (?_ : RR _ _ _ _ 77 _ _ _ _)
        refine R_iadd dX11_checkPassengers_77 (?_ : RR _ _ _ _ 78 _ _ _ _)
        refine R_bipush dX11_checkPassengers_78 rfl (?_ : RR _ _ _ _ 80 _ _ _ _)
        refine R_bipush dX11_checkPassengers_80 rfl (?_ : RR _ _ _ _ 82 _ _ _ _)
        refine R_cVi3 dX11_checkPassengers_82 mvX7_numberAt mlX11_132 (by decide) (by decide) (Nat.le_of_ble_eq_true rfl) (Nat.le_of_ble_eq_true rfl) (N3) (?_ : RR _ _ _ _ 85 _ _ _ _)
        refine R_iconst dX11_checkPassengers_85 (?_ : RR _ _ _ _ 86 _ _ _ _)
        refine R_icmp_ne (t := 94) dX11_checkPassengers_86 rfl (fun c86 => ?_) (fun c86 => ?_)
        · exfalso; omega
        refine R_bipush dX11_checkPassengers_89 rfl (?_ : RR _ _ _ _ 91 _ _ _ _)
        refine R_iload_n dX11_checkPassengers_91 rfl (?_ : RR _ _ _ _ 92 _ _ _ _)
        refine R_isub dX11_checkPassengers_92 (?_ : RR _ _ _ _ 93 _ _ _ _)
        exact R_ireturn dX11_checkPassengers_93 trivial hQ
      · rw [r5] at hQ
        obtain ⟨y, y1, y2⟩ := r1
        obtain ⟨u1, u2⟩ := r2
        obtain ⟨v1, v2⟩ := r3
        rw [if_pos (by omega)] at N1 N2 N3
        refine R_aload_n dX11_checkPassengers_4 rfl (?_ : RR _ _ _ _ 5 _ _ _ _)
        refine R_getr dX11_checkPassengers_5 flX11_29 cok_11 rfl (by decide) (?_ : RR _ _ _ _ 8 _ _ _ _)
        refine R_geti (z := 0) dX11_checkPassengers_8 flX11_116 cok_2 rfl (by decide) rfl (fun q8 => (?_ : RR _ _ _ _ 11 _ _ _ _))
        rw [hnp] at q8 ⊢
        refine R_iload_n dX11_checkPassengers_11 rfl (?_ : RR _ _ _ _ 12 _ _ _ _)
        refine R_iadd dX11_checkPassengers_12 (?_ : RR _ _ _ _ 13 _ _ _ _)
        refine R_bipush dX11_checkPassengers_13 rfl (?_ : RR _ _ _ _ 15 _ _ _ _)
        refine R_icmp_ge (t := 138) dX11_checkPassengers_15 rfl (fun c15 => ?_) (fun c15 => ?_)
        · exfalso; omega
        refine R_aload_n dX11_checkPassengers_18 rfl (?_ : RR _ _ _ _ 19 _ _ _ _)
        refine R_getr dX11_checkPassengers_19 flX11_10 cok_11 rfl (by decide) (?_ : RR _ _ _ _ 22 _ _ _ _)
        refine R_iload_n dX11_checkPassengers_22 rfl (?_ : RR _ _ _ _ 23 _ _ _ _)
        refine R_bipush dX11_checkPassengers_23 rfl (?_ : RR _ _ _ _ 25 _ _ _ _)
        refine R_aload_n dX11_checkPassengers_25 rfl (?_ : RR _ _ _ _ 26 _ _ _ _)
        refine R_getr dX11_checkPassengers_26 flX11_36 cok_11 rfl (by decide) (?_ : RR _ _ _ _ 29 _ _ _ _)
        refine R_geti (z := 2) dX11_checkPassengers_29 flX11_349 cok_9 rfl (by decide) rfl (fun q29 => (?_ : RR _ _ _ _ 32 _ _ _ _))
        rw [hnc] at q29 ⊢
        refine R_cVi3 dX11_checkPassengers_32 mvX7_numberAt mlX11_132 (by decide) (by decide) (Nat.le_of_ble_eq_true rfl) (Nat.le_of_ble_eq_true rfl) (N1) (?_ : RR _ _ _ _ 35 _ _ _ _)
        refine R_iconst dX11_checkPassengers_35 (?_ : RR _ _ _ _ 36 _ _ _ _)
        refine R_icmp_ne (t := 43) dX11_checkPassengers_36 rfl (fun c36 => ?_) (fun c36 => ?_)
        rotate_left
        · exfalso; omega
        refine R_aload_n dX11_checkPassengers_43 rfl (?_ : RR _ _ _ _ 44 _ _ _ _)
        refine R_getr dX11_checkPassengers_44 flX11_10 cok_11 rfl (by decide) (?_ : RR _ _ _ _ 47 _ _ _ _)
        refine R_iload_n dX11_checkPassengers_47 rfl (?_ : RR _ _ _ _ 48 _ _ _ _)
        refine R_iconst dX11_checkPassengers_48 (?_ : RR _ _ _ _ 49 _ _ _ _)
        refine R_iadd dX11_checkPassengers_49 (?_ : RR _ _ _ _ 50 _ _ _ _)
        refine R_bipush dX11_checkPassengers_50 rfl (?_ : RR _ _ _ _ 52 _ _ _ _)
        refine R_aload_n dX11_checkPassengers_52 rfl (?_ : RR _ _ _ _ 53 _ _ _ _)
        refine R_getr dX11_checkPassengers_53 flX11_19 cok_11 rfl (by decide) (?_ : RR _ _ _ _ 56 _ _ _ _)
        refine R_geti (z := 0) dX11_checkPassengers_56 flX11_129 cok_0 rfl (by decide) rfl (fun q56 => (?_ : RR _ _ _ _ 59 _ _ _ _))
        rw [hH] at q56 ⊢
        refine R_cVi3 dX11_checkPassengers_59 mvX7_numberAt mlX11_132 (by decide) (by decide) (Nat.le_of_ble_eq_true rfl) (Nat.le_of_ble_eq_true rfl) (N2) (?_ : RR _ _ _ _ 62 _ _ _ _)
        refine R_iconst dX11_checkPassengers_62 (?_ : RR _ _ _ _ 63 _ _ _ _)
        refine R_icmp_ne (t := 71) dX11_checkPassengers_63 rfl (fun c63 => ?_) (fun c63 => ?_)
        rotate_left
        · exfalso; omega
        refine R_aload_n dX11_checkPassengers_71 rfl (?_ : RR _ _ _ _ 72 _ _ _ _)
        refine R_getr dX11_checkPassengers_72 flX11_10 cok_11 rfl (by decide) (?_ : RR _ _ _ _ 75 _ _ _ _)
        refine R_iload_n dX11_checkPassengers_75 rfl (?_ : RR _ _ _ _ 76 _ _ _ _)
        refine R_iconst dX11_checkPassengers_76 (?_ : RR _ _ _ _ 77 _ _ _ _)
        refine R_iadd dX11_checkPassengers_77 (?_ : RR _ _ _ _ 78 _ _ _ _)
        refine R_bipush dX11_checkPassengers_78 rfl (?_ : RR _ _ _ _ 80 _ _ _ _)
        refine R_bipush dX11_checkPassengers_80 rfl (?_ : RR _ _ _ _ 82 _ _ _ _)
        refine R_cVi3 dX11_checkPassengers_82 mvX7_numberAt mlX11_132 (by decide) (by decide) (Nat.le_of_ble_eq_true rfl) (Nat.le_of_ble_eq_true rfl) (N3) (?_ : RR _ _ _ _ 85 _ _ _ _)
        refine R_iconst dX11_checkPassengers_85 (?_ : RR _ _ _ _ 86 _ _ _ _)
        refine R_icmp_ne (t := 94) dX11_checkPassengers_86 rfl (fun c86 => ?_) (fun c86 => ?_)
        rotate_left
        · exfalso; omega
        refine R_iinc dX11_checkPassengers_94 rfl (Nat.le_of_ble_eq_true rfl) (?_ : RR _ _ _ _ 97 [_, _, _] _ _ _)
        refine R_aload_n dX11_checkPassengers_97 rfl (?_ : RR _ _ _ _ 98 _ _ _ _)
        refine R_getr dX11_checkPassengers_98 flX11_10 cok_11 rfl (by decide) (?_ : RR _ _ _ _ 101 _ _ _ _)
        refine R_geti (z := 1) dX11_checkPassengers_101 flX11_91 cok_7 rfl (by decide) rfl (fun q101 => (?_ : RR _ _ _ _ 104 _ _ _ _))
        rw [h1n] at q101 ⊢
        refine R_iload_n dX11_checkPassengers_104 rfl (?_ : RR _ _ _ _ 105 _ _ _ _)
        refine R_icmp_ne (t := 112) dX11_checkPassengers_105 rfl (fun c105 => ?_) (fun c105 => ?_)
        · exfalso; omega
        refine R_iload_n dX11_checkPassengers_108 rfl (?_ : RR _ _ _ _ 109 _ _ _ _)
        refine R_iconst dX11_checkPassengers_109 (?_ : RR _ _ _ _ 110 _ _ _ _)
        refine R_iadd dX11_checkPassengers_110 (?_ : RR _ _ _ _ 111 _ _ _ _)
        exact R_ireturn dX11_checkPassengers_111 trivial hQ
      · rw [r6] at hQ
        obtain ⟨y, y1, y2⟩ := r1
        obtain ⟨u1, u2⟩ := r2
        obtain ⟨v1, v2⟩ := r3
        rw [if_pos (by omega)] at N1 N2 N3
        rw [show (-4 : Int) - 4 * i = -1 - (4 * i + 3) by omega] at hQ
        refine R_aload_n dX11_checkPassengers_4 rfl (?_ : RR _ _ _ _ 5 _ _ _ _)
        refine R_getr dX11_checkPassengers_5 flX11_29 cok_11 rfl (by decide) (?_ : RR _ _ _ _ 8 _ _ _ _)
        refine R_geti (z := 0) dX11_checkPassengers_8 flX11_116 cok_2 rfl (by decide) rfl (fun q8 => (?_ : RR _ _ _ _ 11 _ _ _ _))
        rw [hnp] at q8 ⊢
        refine R_iload_n dX11_checkPassengers_11 rfl (?_ : RR _ _ _ _ 12 _ _ _ _)
        refine R_iadd dX11_checkPassengers_12 (?_ : RR _ _ _ _ 13 _ _ _ _)
        refine R_bipush dX11_checkPassengers_13 rfl (?_ : RR _ _ _ _ 15 _ _ _ _)
        refine R_icmp_ge (t := 138) dX11_checkPassengers_15 rfl (fun c15 => ?_) (fun c15 => ?_)
        · exfalso; omega
        refine R_aload_n dX11_checkPassengers_18 rfl (?_ : RR _ _ _ _ 19 _ _ _ _)
        refine R_getr dX11_checkPassengers_19 flX11_10 cok_11 rfl (by decide) (?_ : RR _ _ _ _ 22 _ _ _ _)
        refine R_iload_n dX11_checkPassengers_22 rfl (?_ : RR _ _ _ _ 23 _ _ _ _)
        refine R_bipush dX11_checkPassengers_23 rfl (?_ : RR _ _ _ _ 25 _ _ _ _)
        refine R_aload_n dX11_checkPassengers_25 rfl (?_ : RR _ _ _ _ 26 _ _ _ _)
        refine R_getr dX11_checkPassengers_26 flX11_36 cok_11 rfl (by decide) (?_ : RR _ _ _ _ 29 _ _ _ _)
        refine R_geti (z := 2) dX11_checkPassengers_29 flX11_349 cok_9 rfl (by decide) rfl (fun q29 => (?_ : RR _ _ _ _ 32 _ _ _ _))
        rw [hnc] at q29 ⊢
        refine R_cVi3 dX11_checkPassengers_32 mvX7_numberAt mlX11_132 (by decide) (by decide) (Nat.le_of_ble_eq_true rfl) (Nat.le_of_ble_eq_true rfl) (N1) (?_ : RR _ _ _ _ 35 _ _ _ _)
        refine R_iconst dX11_checkPassengers_35 (?_ : RR _ _ _ _ 36 _ _ _ _)
        refine R_icmp_ne (t := 43) dX11_checkPassengers_36 rfl (fun c36 => ?_) (fun c36 => ?_)
        rotate_left
        · exfalso; omega
        refine R_aload_n dX11_checkPassengers_43 rfl (?_ : RR _ _ _ _ 44 _ _ _ _)
        refine R_getr dX11_checkPassengers_44 flX11_10 cok_11 rfl (by decide) (?_ : RR _ _ _ _ 47 _ _ _ _)
        refine R_iload_n dX11_checkPassengers_47 rfl (?_ : RR _ _ _ _ 48 _ _ _ _)
        refine R_iconst dX11_checkPassengers_48 (?_ : RR _ _ _ _ 49 _ _ _ _)
        refine R_iadd dX11_checkPassengers_49 (?_ : RR _ _ _ _ 50 _ _ _ _)
        refine R_bipush dX11_checkPassengers_50 rfl (?_ : RR _ _ _ _ 52 _ _ _ _)
        refine R_aload_n dX11_checkPassengers_52 rfl (?_ : RR _ _ _ _ 53 _ _ _ _)
        refine R_getr dX11_checkPassengers_53 flX11_19 cok_11 rfl (by decide) (?_ : RR _ _ _ _ 56 _ _ _ _)
        refine R_geti (z := 0) dX11_checkPassengers_56 flX11_129 cok_0 rfl (by decide) rfl (fun q56 => (?_ : RR _ _ _ _ 59 _ _ _ _))
        rw [hH] at q56 ⊢
        refine R_cVi3 dX11_checkPassengers_59 mvX7_numberAt mlX11_132 (by decide) (by decide) (Nat.le_of_ble_eq_true rfl) (Nat.le_of_ble_eq_true rfl) (N2) (?_ : RR _ _ _ _ 62 _ _ _ _)
        refine R_iconst dX11_checkPassengers_62 (?_ : RR _ _ _ _ 63 _ _ _ _)
        refine R_icmp_ne (t := 71) dX11_checkPassengers_63 rfl (fun c63 => ?_) (fun c63 => ?_)
        rotate_left
        · exfalso; omega
        refine R_aload_n dX11_checkPassengers_71 rfl (?_ : RR _ _ _ _ 72 _ _ _ _)
        refine R_getr dX11_checkPassengers_72 flX11_10 cok_11 rfl (by decide) (?_ : RR _ _ _ _ 75 _ _ _ _)
        refine R_iload_n dX11_checkPassengers_75 rfl (?_ : RR _ _ _ _ 76 _ _ _ _)
        refine R_iconst dX11_checkPassengers_76 (?_ : RR _ _ _ _ 77 _ _ _ _)
        refine R_iadd dX11_checkPassengers_77 (?_ : RR _ _ _ _ 78 _ _ _ _)
        refine R_bipush dX11_checkPassengers_78 rfl (?_ : RR _ _ _ _ 80 _ _ _ _)
        refine R_bipush dX11_checkPassengers_80 rfl (?_ : RR _ _ _ _ 82 _ _ _ _)
        refine R_cVi3 dX11_checkPassengers_82 mvX7_numberAt mlX11_132 (by decide) (by decide) (Nat.le_of_ble_eq_true rfl) (Nat.le_of_ble_eq_true rfl) (N3) (?_ : RR _ _ _ _ 85 _ _ _ _)
        refine R_iconst dX11_checkPassengers_85 (?_ : RR _ _ _ _ 86 _ _ _ _)
        refine R_icmp_ne (t := 94) dX11_checkPassengers_86 rfl (fun c86 => ?_) (fun c86 => ?_)
        rotate_left
        · exfalso; omega
        refine R_iinc dX11_checkPassengers_94 rfl (Nat.le_of_ble_eq_true rfl) (?_ : RR _ _ _ _ 97 [_, _, _] _ _ _)
        refine R_aload_n dX11_checkPassengers_97 rfl (?_ : RR _ _ _ _ 98 _ _ _ _)
        refine R_getr dX11_checkPassengers_98 flX11_10 cok_11 rfl (by decide) (?_ : RR _ _ _ _ 101 _ _ _ _)
        refine R_geti (z := 1) dX11_checkPassengers_101 flX11_91 cok_7 rfl (by decide) rfl (fun q101 => (?_ : RR _ _ _ _ 104 _ _ _ _))
        rw [h1n] at q101 ⊢
        refine R_iload_n dX11_checkPassengers_104 rfl (?_ : RR _ _ _ _ 105 _ _ _ _)
        refine R_icmp_ne (t := 112) dX11_checkPassengers_105 rfl (fun c105 => ?_) (fun c105 => ?_)
        rotate_left
        · exfalso; omega
        refine R_aload_n dX11_checkPassengers_112 rfl (?_ : RR _ _ _ _ 113 _ _ _ _)
        refine R_getr dX11_checkPassengers_113 flX11_10 cok_11 rfl (by decide) (?_ : RR _ _ _ _ 116 _ _ _ _)
        refine R_iload_n dX11_checkPassengers_116 rfl (?_ : RR _ _ _ _ 117 _ _ _ _)
        refine R_cVi1 dX11_checkPassengers_117 mvX7_at mlX11_436 (by decide) (by decide) (Nat.le_of_ble_eq_true rfl) (Nat.le_of_ble_eq_true rfl) (A4) (?_ : RR _ _ _ _ 120 _ _ _ _)
        refine R_bipush dX11_checkPassengers_120 rfl (?_ : RR _ _ _ _ 122 _ _ _ _)
        refine R_icmp_eq (t := 129) dX11_checkPassengers_122 rfl (fun c122 => ?_) (fun c122 => ?_)
        · exfalso; omega
        refine R_iconst dX11_checkPassengers_125 (?_ : RR _ _ _ _ 126 _ _ _ _)
        refine R_iload_n dX11_checkPassengers_126 rfl (?_ : RR _ _ _ _ 127 _ _ _ _)
        refine R_isub dX11_checkPassengers_127 (?_ : RR _ _ _ _ 128 _ _ _ _)
        exact R_ireturn dX11_checkPassengers_128 trivial hQ
    | succ j ih =>
      intro i hi
      have IH := ih (i + 1) (by omega)
      rw [show 4 * ((i + 1 : Nat) : Int) = 4 * i + 3 + 1 by omega] at IH
      obtain ⟨⟨⟨y, y1, y2⟩, ⟨u1, u2⟩, ⟨v1, v2⟩⟩, w1, w2⟩ := hg i (by omega)
      have N1 := T_X7_numberAt (h := h) (p := 4 * (i : Int)) (f := 48) (m := nc) (by rw [hσ _ (by omega)]; exact hσb _)
      have N2 := T_X7_numberAt (h := h) (p := 4 * (i : Int) + 1) (f := 97) (m := H) (by rw [hσ _ (by omega)]; exact hσb _)
      have N3 := T_X7_numberAt (h := h) (p := 4 * (i : Int) + 2) (f := 49) (m := 9) (by rw [hσ _ (by omega)]; exact hσb _)
      have A4 := T_X7_at (h := h) (p := 4 * (i : Int) + 3)
      unfold numAt at N1 N2 N3
      rw [hσ _ (by omega)] at N1 N2 N3 A4
      rw [if_pos (by omega)] at N1 N2 N3
      refine R_aload_n dX11_checkPassengers_4 rfl (?_ : RR _ _ _ _ 5 _ _ _ _)
      refine R_getr dX11_checkPassengers_5 flX11_29 cok_11 rfl (by decide) (?_ : RR _ _ _ _ 8 _ _ _ _)
      refine R_geti (z := 0) dX11_checkPassengers_8 flX11_116 cok_2 rfl (by decide) rfl (fun q8 => (?_ : RR _ _ _ _ 11 _ _ _ _))
      rw [hnp] at q8 ⊢
      refine R_iload_n dX11_checkPassengers_11 rfl (?_ : RR _ _ _ _ 12 _ _ _ _)
      refine R_iadd dX11_checkPassengers_12 (?_ : RR _ _ _ _ 13 _ _ _ _)
      refine R_bipush dX11_checkPassengers_13 rfl (?_ : RR _ _ _ _ 15 _ _ _ _)
      refine R_icmp_ge (t := 138) dX11_checkPassengers_15 rfl (fun c15 => ?_) (fun c15 => ?_)
      · exfalso; omega
      refine R_aload_n dX11_checkPassengers_18 rfl (?_ : RR _ _ _ _ 19 _ _ _ _)
      refine R_getr dX11_checkPassengers_19 flX11_10 cok_11 rfl (by decide) (?_ : RR _ _ _ _ 22 _ _ _ _)
      refine R_iload_n dX11_checkPassengers_22 rfl (?_ : RR _ _ _ _ 23 _ _ _ _)
      refine R_bipush dX11_checkPassengers_23 rfl (?_ : RR _ _ _ _ 25 _ _ _ _)
      refine R_aload_n dX11_checkPassengers_25 rfl (?_ : RR _ _ _ _ 26 _ _ _ _)
      refine R_getr dX11_checkPassengers_26 flX11_36 cok_11 rfl (by decide) (?_ : RR _ _ _ _ 29 _ _ _ _)
      refine R_geti (z := 2) dX11_checkPassengers_29 flX11_349 cok_9 rfl (by decide) rfl (fun q29 => (?_ : RR _ _ _ _ 32 _ _ _ _))
      rw [hnc] at q29 ⊢
      refine R_cVi3 dX11_checkPassengers_32 mvX7_numberAt mlX11_132 (by decide) (by decide) (Nat.le_of_ble_eq_true rfl) (Nat.le_of_ble_eq_true rfl) (N1) (?_ : RR _ _ _ _ 35 _ _ _ _)
      refine R_iconst dX11_checkPassengers_35 (?_ : RR _ _ _ _ 36 _ _ _ _)
      refine R_icmp_ne (t := 43) dX11_checkPassengers_36 rfl (fun c36 => ?_) (fun c36 => ?_)
      rotate_left
      · exfalso; omega
      refine R_aload_n dX11_checkPassengers_43 rfl (?_ : RR _ _ _ _ 44 _ _ _ _)
      refine R_getr dX11_checkPassengers_44 flX11_10 cok_11 rfl (by decide) (?_ : RR _ _ _ _ 47 _ _ _ _)
      refine R_iload_n dX11_checkPassengers_47 rfl (?_ : RR _ _ _ _ 48 _ _ _ _)
      refine R_iconst dX11_checkPassengers_48 (?_ : RR _ _ _ _ 49 _ _ _ _)
      refine R_iadd dX11_checkPassengers_49 (?_ : RR _ _ _ _ 50 _ _ _ _)
      refine R_bipush dX11_checkPassengers_50 rfl (?_ : RR _ _ _ _ 52 _ _ _ _)
      refine R_aload_n dX11_checkPassengers_52 rfl (?_ : RR _ _ _ _ 53 _ _ _ _)
      refine R_getr dX11_checkPassengers_53 flX11_19 cok_11 rfl (by decide) (?_ : RR _ _ _ _ 56 _ _ _ _)
      refine R_geti (z := 0) dX11_checkPassengers_56 flX11_129 cok_0 rfl (by decide) rfl (fun q56 => (?_ : RR _ _ _ _ 59 _ _ _ _))
      rw [hH] at q56 ⊢
      refine R_cVi3 dX11_checkPassengers_59 mvX7_numberAt mlX11_132 (by decide) (by decide) (Nat.le_of_ble_eq_true rfl) (Nat.le_of_ble_eq_true rfl) (N2) (?_ : RR _ _ _ _ 62 _ _ _ _)
      refine R_iconst dX11_checkPassengers_62 (?_ : RR _ _ _ _ 63 _ _ _ _)
      refine R_icmp_ne (t := 71) dX11_checkPassengers_63 rfl (fun c63 => ?_) (fun c63 => ?_)
      rotate_left
      · exfalso; omega
      refine R_aload_n dX11_checkPassengers_71 rfl (?_ : RR _ _ _ _ 72 _ _ _ _)
      refine R_getr dX11_checkPassengers_72 flX11_10 cok_11 rfl (by decide) (?_ : RR _ _ _ _ 75 _ _ _ _)
      refine R_iload_n dX11_checkPassengers_75 rfl (?_ : RR _ _ _ _ 76 _ _ _ _)
      refine R_iconst dX11_checkPassengers_76 (?_ : RR _ _ _ _ 77 _ _ _ _)
      refine R_iadd dX11_checkPassengers_77 (?_ : RR _ _ _ _ 78 _ _ _ _)
      refine R_bipush dX11_checkPassengers_78 rfl (?_ : RR _ _ _ _ 80 _ _ _ _)
      refine R_bipush dX11_checkPassengers_80 rfl (?_ : RR _ _ _ _ 82 _ _ _ _)
      refine R_cVi3 dX11_checkPassengers_82 mvX7_numberAt mlX11_132 (by decide) (by decide) (Nat.le_of_ble_eq_true rfl) (Nat.le_of_ble_eq_true rfl) (N3) (?_ : RR _ _ _ _ 85 _ _ _ _)
      refine R_iconst dX11_checkPassengers_85 (?_ : RR _ _ _ _ 86 _ _ _ _)
      refine R_icmp_ne (t := 94) dX11_checkPassengers_86 rfl (fun c86 => ?_) (fun c86 => ?_)
      rotate_left
      · exfalso; omega
      refine R_iinc dX11_checkPassengers_94 rfl (Nat.le_of_ble_eq_true rfl) (?_ : RR _ _ _ _ 97 [_, _, _] _ _ _)
      refine R_aload_n dX11_checkPassengers_97 rfl (?_ : RR _ _ _ _ 98 _ _ _ _)
      refine R_getr dX11_checkPassengers_98 flX11_10 cok_11 rfl (by decide) (?_ : RR _ _ _ _ 101 _ _ _ _)
      refine R_geti (z := 1) dX11_checkPassengers_101 flX11_91 cok_7 rfl (by decide) rfl (fun q101 => (?_ : RR _ _ _ _ 104 _ _ _ _))
      rw [h1n] at q101 ⊢
      refine R_iload_n dX11_checkPassengers_104 rfl (?_ : RR _ _ _ _ 105 _ _ _ _)
      refine R_icmp_ne (t := 112) dX11_checkPassengers_105 rfl (fun c105 => ?_) (fun c105 => ?_)
      rotate_left
      · exfalso; omega
      refine R_aload_n dX11_checkPassengers_112 rfl (?_ : RR _ _ _ _ 113 _ _ _ _)
      refine R_getr dX11_checkPassengers_113 flX11_10 cok_11 rfl (by decide) (?_ : RR _ _ _ _ 116 _ _ _ _)
      refine R_iload_n dX11_checkPassengers_116 rfl (?_ : RR _ _ _ _ 117 _ _ _ _)
      refine R_cVi1 dX11_checkPassengers_117 mvX7_at mlX11_436 (by decide) (by decide) (Nat.le_of_ble_eq_true rfl) (Nat.le_of_ble_eq_true rfl) (A4) (?_ : RR _ _ _ _ 120 _ _ _ _)
      refine R_bipush dX11_checkPassengers_120 rfl (?_ : RR _ _ _ _ 122 _ _ _ _)
      refine R_icmp_eq (t := 129) dX11_checkPassengers_122 rfl (fun c122 => ?_) (fun c122 => ?_)
      rotate_left
      · exfalso; omega
      refine R_iinc dX11_checkPassengers_129 rfl (Nat.le_of_ble_eq_true rfl) (?_ : RR _ _ _ _ 132 [_, _, _] _ _ _)
      refine R_iinc dX11_checkPassengers_132 rfl (Nat.le_of_ble_eq_true rfl) (?_ : RR _ _ _ _ 135 [_, _, _] _ _ _)
      refine R_goto (t := 4) dX11_checkPassengers_135 rfl (?_ : RR _ _ _ _ 4 _ _ _ _)
      exact IH
  have L0 := L l 0 (by omega)
  refine R_iconst dX11_checkPassengers_0 (?_ : RR _ _ _ _ 1 _ _ _ _)
  refine R_istore_n dX11_checkPassengers_1 (Nat.le_of_ble_eq_true rfl) (?_ : RR _ _ _ _ 2 [_, _, _] _ _ _)
  refine R_iconst dX11_checkPassengers_2 (?_ : RR _ _ _ _ 3 _ _ _ _)
  refine R_istore_n dX11_checkPassengers_3 (Nat.le_of_ble_eq_true rfl) (?_ : RR _ _ _ _ 4 [_, _, _] _ _ _)
  exact L0
end CPA
