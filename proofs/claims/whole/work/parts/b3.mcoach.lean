section MCO
variable {k : Nat} {h h1 h2 h3 h4 : Nat → Int → Int} {sem : Sem} {H np nc len n : Nat} {f s : Int → Int}
theorem coF_sm {s f : Int → Int} (h0 : sm (fun c => if 0 ≤ mP f c then 1 else 0) nc = len) : ∀ i : Nat, sm (fun c => if 0 ≤ mP (coF s f nc len i).1 c then 1 else 0) (nc + i) = ((coF s f nc len i).2 : Int)
  | 0 => h0
  | i + 1 => by
    have ih : sm (fun c => if 0 ≤ mP (coF s f nc len i).1 c then 1 else 0) (nc + i) = ((coF s f nc len i).2 : Int) := coF_sm h0 i
    show sm (fun c => if 0 ≤ mP (coA (coF s f nc len i).1 (nc + i) (coF s f nc len i).2 (coZ s i)) c then 1 else 0) (nc + i) + (if 0 ≤ mP (coA (coF s f nc len i).1 (nc + i) (coF s f nc len i).2 (coZ s i)) ((nc + i : Nat) : Int) then 1 else 0) = ((coL (coZ s i) (coF s f nc len i).2 : Nat) : Int)
    rw [sm_congr (g' := fun c => if 0 ≤ mP (coF s f nc len i).1 c then 1 else 0) (fun c hc => by rw [coA_mP (by omega)]), ih, coA_P]
    unfold coL
    by_cases q : coZ s i = -1
    · rw [if_pos q, if_pos q, if_pos (by omega)]; rfl
    · rw [if_neg q, if_neg q, if_neg (by omega)]; omega
def coR (s : Int → Int) (i : Nat) : Int := if s i = 43 then 9 else s i - 97
def mrF (h h1 : Nat → Int → Int) : Prop := (∀ a, a ≠ 147 → a ≠ 157 → h1 a = h a) ∧ (∀ j : Int, j ≠ 0 → j ≠ 15 → j ≠ 16 → j ≠ 17 → j ≠ 18 → j ≠ 20 → h1 147 j = h 147 j) ∧ h1 147 15 = 0
/-- reading: where it stands, and what was read -/
def coM (s : Int → Int) (n i : Nat) (h : Nat → Int → Int) : Prop := h 147 16 = i ∧ h 147 17 = n ∧ h 147 20 = i ∧ ∀ i' : Nat, i' < i → h 157 i' = coR s i'
theorem MCO_128 {i : Nat} {Q : Option PV → PH → Prop} (hi : i ≤ 80) (e16 : h1 147 16 = i) (hQ : Q (some (pI (-1 - (i : Int)))) (shp0, rf0, h1)) : RR mX12_coaches 2 0 0 19 [pR 147, pI 0, pU, pU, pU] [] (shp0, rf0, h1) Q := by
  refine R_iload_n dX12_coaches_19 rfl (?_ : RR _ _ _ _ 20 _ _ _ _)
  refine R_if_eq (t := 128) dX12_coaches_20 rfl (fun c20 => ?_) (fun c20 => ?_)
  rotate_left
  · exfalso; omega
  refine R_iload_n dX12_coaches_128 rfl (?_ : RR _ _ _ _ 129 _ _ _ _)
  refine R_if_ne (t := 139) dX12_coaches_129 rfl (fun c129 => ?_) (fun c129 => ?_)
  · exfalso; omega
  refine R_iconst dX12_coaches_132 (?_ : RR _ _ _ _ 133 _ _ _ _)
  refine R_aload_n dX12_coaches_133 rfl (?_ : RR _ _ _ _ 134 _ _ _ _)
  refine R_geti (z := 16) dX12_coaches_134 flX12_151 cok_12 rfl (by decide) rfl (fun q134 => (?_ : RR _ _ _ _ 137 _ _ _ _))
  rw [e16] at q134 ⊢
  refine R_isub dX12_coaches_137 (?_ : RR _ _ _ _ 138 _ _ _ _)
  exact R_ireturn dX12_coaches_138 trivial hQ
theorem MCO_19 {Q : Option PV → PH → Prop} (hH : h 147 3 = H) (hH9 : 1 ≤ H ∧ H ≤ 9) (hnc : h 147 4 = nc) (h6 : nc ≤ 6) (hn80 : n ≤ 80) (hs2 : ∀ i : Nat, i < n → h 156 i = s i ∧ 0 ≤ s i ∧ s i ≤ 255) (hno : ∀ (i : Nat) (h1 : Nat → Int → Int), i < n → ¬ coG s H nc i → (∀ j, j < i → coG s H nc j) → mrF h h1 → Q (some (pI (-1 - (i : Int)))) (shp0, rf0, h1)) (hye : ∀ (h1 : Nat → Int → Int), (∀ j, j < n → coG s H nc j) → mrF h h1 → coM s n n h1 → RR mX12_coaches 2 0 0 139 [pR 147, pI 1, pU, pU, pU] [] (shp0, rf0, h1) Q) : ∀ (j i : Nat) (h1 : Nat → Int → Int), i + j = n → (∀ j, j < i → coG s H nc j) → mrF h h1 → coM s n i h1 → RR mX12_coaches 2 0 0 19 [pR 147, pI 1, pU, pU, pU] [] (shp0, rf0, h1) Q := by
  intro j
  induction j with
  | zero =>
    intro i h1 hi hg hf hm
    obtain rfl : i = n := by omega
    have KK := hye h1 hg hf hm
    obtain ⟨m1, m2, m3, m4⟩ := hm
    refine R_iload_n dX12_coaches_19 rfl (?_ : RR _ _ _ _ 20 _ _ _ _)
    refine R_if_eq (t := 128) dX12_coaches_20 rfl (fun c20 => ?_) (fun c20 => ?_)
    · exfalso; omega
    refine R_aload_n dX12_coaches_23 rfl (?_ : RR _ _ _ _ 24 _ _ _ _)
    refine R_geti (z := 16) dX12_coaches_24 flX12_151 cok_12 rfl (by decide) rfl (fun q24 => (?_ : RR _ _ _ _ 27 _ _ _ _))
    rw [m1] at q24 ⊢
    refine R_aload_n dX12_coaches_27 rfl (?_ : RR _ _ _ _ 28 _ _ _ _)
    refine R_geti (z := 17) dX12_coaches_28 flX12_157 cok_12 rfl (by decide) rfl (fun q28 => (?_ : RR _ _ _ _ 31 _ _ _ _))
    rw [m2] at q28 ⊢
    refine R_icmp_ge (t := 128) dX12_coaches_31 rfl (fun c31 => ?_) (fun c31 => ?_)
    rotate_left
    · exfalso; omega
    refine R_iload_n dX12_coaches_128 rfl (?_ : RR _ _ _ _ 129 _ _ _ _)
    refine R_if_ne (t := 139) dX12_coaches_129 rfl (fun c129 => ?_) (fun c129 => ?_)
    rotate_left
    · exfalso; omega
    exact KK
  | succ j ih =>
    intro i h1 hi hg hf hm
    obtain ⟨m1, m2, m3, m4⟩ := hm
    have g4 : h1 147 4 = nc := by rw [hf.2.1 4 (by omega) (by omega) (by omega) (by omega) (by omega) (by omega)]; exact hnc
    have g3 : h1 147 3 = H := by rw [hf.2.1 3 (by omega) (by omega) (by omega) (by omega) (by omega) (by omega)]; exact hH
    have g156 : h1 156 = h 156 := hf.1 156 (by omega) (by omega)
    have hsi := hs2 i (by omega)
    have hN := fun h1 => hno i h1 (by omega)
    by_cases r : nc + i < 6
    · have hi5 : i ≤ 5 := by omega
      have ht : ∀ i : Nat, i < n → 0 ≤ h1 156 i ∧ h1 156 i ≤ 255 := fun i' hi' => by rw [g156, (hs2 i' hi').1]; exact (hs2 i' hi').2
      have hT := T_X12_takes (c := 43) (h := h1) m1 m2 (by omega) hn80 ht (by omega)
      rw [g156, hsi.1] at hT
      by_cases y : s i = 43
      · rw [if_pos ⟨by omega, y⟩, if_pos ⟨by omega, y⟩] at hT
        have hgi : coG s H nc i := ⟨Or.inl y, r⟩
        have IH := ih (i + 1)
        have e9 : coR s i = 9 := if_pos y
        refine R_iload_n dX12_coaches_19 rfl (?_ : RR _ _ _ _ 20 _ _ _ _)
        refine R_if_eq (t := 128) dX12_coaches_20 rfl (fun c20 => ?_) (fun c20 => ?_)
        · exfalso; omega
        refine R_aload_n dX12_coaches_23 rfl (?_ : RR _ _ _ _ 24 _ _ _ _)
        refine R_geti (z := 16) dX12_coaches_24 flX12_151 cok_12 rfl (by decide) rfl (fun q24 => (?_ : RR _ _ _ _ 27 _ _ _ _))
        rw [m1] at q24 ⊢
        refine R_aload_n dX12_coaches_27 rfl (?_ : RR _ _ _ _ 28 _ _ _ _)
        refine R_geti (z := 17) dX12_coaches_28 flX12_157 cok_12 rfl (by decide) rfl (fun q28 => (?_ : RR _ _ _ _ 31 _ _ _ _))
        rw [m2] at q28 ⊢
        refine R_icmp_ge (t := 128) dX12_coaches_31 rfl (fun c31 => ?_) (fun c31 => ?_)
        · exfalso; omega
        refine R_aload_n dX12_coaches_34 rfl (?_ : RR _ _ _ _ 35 _ _ _ _)
        refine R_geti (z := 4) dX12_coaches_35 flX12_124 cok_12 rfl (by decide) rfl (fun q35 => (?_ : RR _ _ _ _ 38 _ _ _ _))
        rw [g4] at q35 ⊢
        refine R_aload_n dX12_coaches_38 rfl (?_ : RR _ _ _ _ 39 _ _ _ _)
        refine R_geti (z := 20) dX12_coaches_39 flX12_214 cok_12 rfl (by decide) rfl (fun q39 => (?_ : RR _ _ _ _ 42 _ _ _ _))
        rw [m3] at q39 ⊢
        refine R_iadd dX12_coaches_42 (?_ : RR _ _ _ _ 43 _ _ _ _)
        refine R_bipush dX12_coaches_43 rfl (?_ : RR _ _ _ _ 45 _ _ _ _)
        refine R_icmp_ge (t := 52) dX12_coaches_45 rfl (fun c45 => ?_) (fun c45 => ?_)
        · exfalso; omega
        refine R_iconst dX12_coaches_48 (?_ : RR _ _ _ _ 49 _ _ _ _)
        refine R_goto (t := 53) dX12_coaches_49 rfl (?_ : RR _ _ _ _ 53 _ _ _ _)
        refine R_istore_n dX12_coaches_53 (Nat.le_of_ble_eq_true rfl) (?_ : RR _ _ _ _ 54 [_, _, _, _, _] _ _ _)
        refine R_iload_n dX12_coaches_54 rfl (?_ : RR _ _ _ _ 55 _ _ _ _)
        refine R_if_eq (t := 19) dX12_coaches_55 rfl (fun c55 => ?_) (fun c55 => ?_)
        · exfalso; omega
        refine R_aload_n dX12_coaches_58 rfl (?_ : RR _ _ _ _ 59 _ _ _ _)
        refine R_getr dX12_coaches_59 flX12_42 cok_12 rfl (by decide) (?_ : RR _ _ _ _ 62 _ _ _ _)
        refine R_aload_n dX12_coaches_62 rfl (?_ : RR _ _ _ _ 63 _ _ _ _)
        refine R_geti (z := 20) dX12_coaches_63 flX12_214 cok_12 rfl (by decide) rfl (fun q63 => (?_ : RR _ _ _ _ 66 _ _ _ _))
        rw [m3] at q63 ⊢
        refine R_aload_n dX12_coaches_66 rfl (?_ : RR _ _ _ _ 67 _ _ _ _)
        refine R_bipush dX12_coaches_67 rfl (?_ : RR _ _ _ _ 69 _ _ _ _)
        refine R_cVi1 dX12_coaches_69 mvX12_takes mlX12_182 (by decide) (by decide) (Nat.le_of_ble_eq_true rfl) (Nat.le_of_ble_eq_true rfl) (hT) (?_ : RR _ _ _ _ 72 _ _ _ _)
        refine R_if_eq (t := 80) dX12_coaches_72 rfl (fun c72 => ?_) (fun c72 => ?_)
        · exfalso; omega
        refine R_bipush dX12_coaches_75 rfl (?_ : RR _ _ _ _ 77 _ _ _ _)
        refine R_goto (t := 93) dX12_coaches_77 rfl (?_ : RR _ _ _ _ 93 _ _ _ _)
        refine R_iast dX12_coaches_93 (?_ : RR _ _ _ _ 94 _ _ _ _)
        refine R_aload_n dX12_coaches_94 rfl (?_ : RR _ _ _ _ 95 _ _ _ _)
        refine R_getr dX12_coaches_95 flX12_42 cok_12 rfl (by decide) (?_ : RR _ _ _ _ 98 _ _ _ _)
        refine R_aload_n dX12_coaches_98 rfl (?_ : RR _ _ _ _ 99 _ _ _ _)
        refine R_geti (z := 20) dX12_coaches_99 flX12_214 cok_12 rfl (by decide) rfl (fun q99 => (?_ : RR _ _ _ _ 102 _ _ _ _))
        simp (disch := omega) only [rup_n, rup_s, fup_n, m3, fup_s] at q99 ⊢
        refine R_iald dX12_coaches_102 (fun q102 => (?_ : RR _ _ _ _ 103 _ _ _ _))
        simp (disch := omega) only [rup_s, fup_s] at q102 ⊢
        refine R_if_lt (t := 110) dX12_coaches_103 rfl (fun c103 => ?_) (fun c103 => ?_)
        · exfalso; omega
        refine R_iconst dX12_coaches_106 (?_ : RR _ _ _ _ 107 _ _ _ _)
        refine R_goto (t := 111) dX12_coaches_107 rfl (?_ : RR _ _ _ _ 111 _ _ _ _)
        refine R_istore_n dX12_coaches_111 (Nat.le_of_ble_eq_true rfl) (?_ : RR _ _ _ _ 112 [_, _, _, _, _] _ _ _)
        refine R_aload_n dX12_coaches_112 rfl (?_ : RR _ _ _ _ 113 _ _ _ _)
        refine R_dup dX12_coaches_113 (fun _ => rfl) (?_ : RR _ _ _ _ 114 _ _ _ _)
        refine R_geti (z := 20) dX12_coaches_114 flX12_214 cok_12 rfl (by decide) rfl (fun q114 => (?_ : RR _ _ _ _ 117 _ _ _ _))
        simp (disch := omega) only [rup_n, rup_s, fup_n, m3] at q114 ⊢
        refine R_iload_n dX12_coaches_117 rfl (?_ : RR _ _ _ _ 118 _ _ _ _)
        refine R_cSi1 dX12_coaches_118 msX12_flag mlX12_134 (by decide) (Nat.le_of_ble_eq_true rfl) (Nat.le_of_ble_eq_true rfl) (T_X12_flag) (?_ : RR _ _ _ _ 121 _ _ _ _)
        refine R_iadd dX12_coaches_121 (?_ : RR _ _ _ _ 122 _ _ _ _)
        refine R_puti (zk := 20) dX12_coaches_122 flX12_214 cok_12 (by decide) (fun q hq => by cases hq; rfl) rfl (?_ : RR _ _ _ _ 125 _ _ _ _)
        refine R_goto (t := 19) dX12_coaches_125 rfl (?_ : RR _ _ _ _ 19 _ _ _ _)
        skip
        refine IH _ (by omega) (fun j hj => ?_) ⟨fun a a1 a2 => ?_, fun j j1 j2 j3 j4 j5 j6 => ?_, ?_⟩ ⟨?_, ?_, ?_, fun i' hi' => ?_⟩
        · by_cases z : j = i
          · rw [z]; exact hgi
          · exact hg j (by omega)
        · simp (disch := omega) only [rup_n]; exact hf.1 a a1 a2
        · simp (disch := omega) only [rup_n, rup_s, fup_n]; exact hf.2.1 j j1 j2 j3 j4 j5 j6
        · simp (disch := omega) only [rup_n, rup_s, fup_n]; exact hf.2.2
        · simp (disch := omega) only [rup_n, rup_s, fup_n, fup_s]; rfl
        · simp (disch := omega) only [rup_n, rup_s, fup_n, fup_s]; exact m2
        · simp (disch := omega) only [rup_n, rup_s, fup_n, fup_s]; rfl
        · simp (disch := omega) only [rup_n, rup_s]
          by_cases z : i' = i
          · rw [z, fup_s]; exact e9.symm
          · rw [fup_n (by omega)]; exact m4 i' (by omega)
      · rw [if_neg (fun z => y z.2), if_neg (fun z => y z.2), ← m1, fup_self, rup_self] at hT
        have hS := T_X12_signIn (b := 97) (lo := 0) (hi0 := (H : Int) - 1) (h := h1) m1 m2 (by omega) hn80 ht (by omega) (by omega) (by omega)
        rw [g156, hsi.1] at hS
        by_cases u : 97 ≤ s i ∧ s i < 97 + (H : Int)
        · rw [if_pos (by omega), if_pos (by omega)] at hS
          have hgi : coG s H nc i := ⟨Or.inr u, r⟩
          have IH := ih (i + 1)
          have e9 : coR s i = s i - 97 := if_neg y
          refine R_iload_n dX12_coaches_19 rfl (?_ : RR _ _ _ _ 20 _ _ _ _)
          refine R_if_eq (t := 128) dX12_coaches_20 rfl (fun c20 => ?_) (fun c20 => ?_)
          · exfalso; omega
          refine R_aload_n dX12_coaches_23 rfl (?_ : RR _ _ _ _ 24 _ _ _ _)
          refine R_geti (z := 16) dX12_coaches_24 flX12_151 cok_12 rfl (by decide) rfl (fun q24 => (?_ : RR _ _ _ _ 27 _ _ _ _))
          rw [m1] at q24 ⊢
          refine R_aload_n dX12_coaches_27 rfl (?_ : RR _ _ _ _ 28 _ _ _ _)
          refine R_geti (z := 17) dX12_coaches_28 flX12_157 cok_12 rfl (by decide) rfl (fun q28 => (?_ : RR _ _ _ _ 31 _ _ _ _))
          rw [m2] at q28 ⊢
          refine R_icmp_ge (t := 128) dX12_coaches_31 rfl (fun c31 => ?_) (fun c31 => ?_)
          · exfalso; omega
          refine R_aload_n dX12_coaches_34 rfl (?_ : RR _ _ _ _ 35 _ _ _ _)
          refine R_geti (z := 4) dX12_coaches_35 flX12_124 cok_12 rfl (by decide) rfl (fun q35 => (?_ : RR _ _ _ _ 38 _ _ _ _))
          rw [g4] at q35 ⊢
          refine R_aload_n dX12_coaches_38 rfl (?_ : RR _ _ _ _ 39 _ _ _ _)
          refine R_geti (z := 20) dX12_coaches_39 flX12_214 cok_12 rfl (by decide) rfl (fun q39 => (?_ : RR _ _ _ _ 42 _ _ _ _))
          rw [m3] at q39 ⊢
          refine R_iadd dX12_coaches_42 (?_ : RR _ _ _ _ 43 _ _ _ _)
          refine R_bipush dX12_coaches_43 rfl (?_ : RR _ _ _ _ 45 _ _ _ _)
          refine R_icmp_ge (t := 52) dX12_coaches_45 rfl (fun c45 => ?_) (fun c45 => ?_)
          · exfalso; omega
          refine R_iconst dX12_coaches_48 (?_ : RR _ _ _ _ 49 _ _ _ _)
          refine R_goto (t := 53) dX12_coaches_49 rfl (?_ : RR _ _ _ _ 53 _ _ _ _)
          refine R_istore_n dX12_coaches_53 (Nat.le_of_ble_eq_true rfl) (?_ : RR _ _ _ _ 54 [_, _, _, _, _] _ _ _)
          refine R_iload_n dX12_coaches_54 rfl (?_ : RR _ _ _ _ 55 _ _ _ _)
          refine R_if_eq (t := 19) dX12_coaches_55 rfl (fun c55 => ?_) (fun c55 => ?_)
          · exfalso; omega
          refine R_aload_n dX12_coaches_58 rfl (?_ : RR _ _ _ _ 59 _ _ _ _)
          refine R_getr dX12_coaches_59 flX12_42 cok_12 rfl (by decide) (?_ : RR _ _ _ _ 62 _ _ _ _)
          refine R_aload_n dX12_coaches_62 rfl (?_ : RR _ _ _ _ 63 _ _ _ _)
          refine R_geti (z := 20) dX12_coaches_63 flX12_214 cok_12 rfl (by decide) rfl (fun q63 => (?_ : RR _ _ _ _ 66 _ _ _ _))
          rw [m3] at q63 ⊢
          refine R_aload_n dX12_coaches_66 rfl (?_ : RR _ _ _ _ 67 _ _ _ _)
          refine R_bipush dX12_coaches_67 rfl (?_ : RR _ _ _ _ 69 _ _ _ _)
          refine R_cVi1 dX12_coaches_69 mvX12_takes mlX12_182 (by decide) (by decide) (Nat.le_of_ble_eq_true rfl) (Nat.le_of_ble_eq_true rfl) (hT) (?_ : RR _ _ _ _ 72 _ _ _ _)
          refine R_if_eq (t := 80) dX12_coaches_72 rfl (fun c72 => ?_) (fun c72 => ?_)
          rotate_left
          · exfalso; omega
          refine R_aload_n dX12_coaches_80 rfl (?_ : RR _ _ _ _ 81 _ _ _ _)
          refine R_bipush dX12_coaches_81 rfl (?_ : RR _ _ _ _ 83 _ _ _ _)
          refine R_iconst dX12_coaches_83 (?_ : RR _ _ _ _ 84 _ _ _ _)
          refine R_aload_n dX12_coaches_84 rfl (?_ : RR _ _ _ _ 85 _ _ _ _)
          refine R_geti (z := 3) dX12_coaches_85 flX12_13 cok_12 rfl (by decide) rfl (fun q85 => (?_ : RR _ _ _ _ 88 _ _ _ _))
          rw [g3] at q85 ⊢
          refine R_iconst dX12_coaches_88 (?_ : RR _ _ _ _ 89 _ _ _ _)
          refine R_isub dX12_coaches_89 (?_ : RR _ _ _ _ 90 _ _ _ _)
          refine R_cVi3 dX12_coaches_90 mvX12_signIn mlX12_186 (by decide) (by decide) (Nat.le_of_ble_eq_true rfl) (Nat.le_of_ble_eq_true rfl) (hS) (?_ : RR _ _ _ _ 93 _ _ _ _)
          refine R_iast dX12_coaches_93 (?_ : RR _ _ _ _ 94 _ _ _ _)
          refine R_aload_n dX12_coaches_94 rfl (?_ : RR _ _ _ _ 95 _ _ _ _)
          refine R_getr dX12_coaches_95 flX12_42 cok_12 rfl (by decide) (?_ : RR _ _ _ _ 98 _ _ _ _)
          refine R_aload_n dX12_coaches_98 rfl (?_ : RR _ _ _ _ 99 _ _ _ _)
          refine R_geti (z := 20) dX12_coaches_99 flX12_214 cok_12 rfl (by decide) rfl (fun q99 => (?_ : RR _ _ _ _ 102 _ _ _ _))
          simp (disch := omega) only [rup_n, rup_s, fup_n, m3, fup_s] at q99 ⊢
          refine R_iald dX12_coaches_102 (fun q102 => (?_ : RR _ _ _ _ 103 _ _ _ _))
          simp (disch := omega) only [rup_s, fup_s] at q102 ⊢
          refine R_if_lt (t := 110) dX12_coaches_103 rfl (fun c103 => ?_) (fun c103 => ?_)
          · exfalso; omega
          refine R_iconst dX12_coaches_106 (?_ : RR _ _ _ _ 107 _ _ _ _)
          refine R_goto (t := 111) dX12_coaches_107 rfl (?_ : RR _ _ _ _ 111 _ _ _ _)
          refine R_istore_n dX12_coaches_111 (Nat.le_of_ble_eq_true rfl) (?_ : RR _ _ _ _ 112 [_, _, _, _, _] _ _ _)
          refine R_aload_n dX12_coaches_112 rfl (?_ : RR _ _ _ _ 113 _ _ _ _)
          refine R_dup dX12_coaches_113 (fun _ => rfl) (?_ : RR _ _ _ _ 114 _ _ _ _)
          refine R_geti (z := 20) dX12_coaches_114 flX12_214 cok_12 rfl (by decide) rfl (fun q114 => (?_ : RR _ _ _ _ 117 _ _ _ _))
          simp (disch := omega) only [rup_n, rup_s, fup_n, m3] at q114 ⊢
          refine R_iload_n dX12_coaches_117 rfl (?_ : RR _ _ _ _ 118 _ _ _ _)
          refine R_cSi1 dX12_coaches_118 msX12_flag mlX12_134 (by decide) (Nat.le_of_ble_eq_true rfl) (Nat.le_of_ble_eq_true rfl) (T_X12_flag) (?_ : RR _ _ _ _ 121 _ _ _ _)
          refine R_iadd dX12_coaches_121 (?_ : RR _ _ _ _ 122 _ _ _ _)
          refine R_puti (zk := 20) dX12_coaches_122 flX12_214 cok_12 (by decide) (fun q hq => by cases hq; rfl) rfl (?_ : RR _ _ _ _ 125 _ _ _ _)
          refine R_goto (t := 19) dX12_coaches_125 rfl (?_ : RR _ _ _ _ 19 _ _ _ _)
          skip
          refine IH _ (by omega) (fun j hj => ?_) ⟨fun a a1 a2 => ?_, fun j j1 j2 j3 j4 j5 j6 => ?_, ?_⟩ ⟨?_, ?_, ?_, fun i' hi' => ?_⟩
          · by_cases z : j = i
            · rw [z]; exact hgi
            · exact hg j (by omega)
          · simp (disch := omega) only [rup_n]; exact hf.1 a a1 a2
          · simp (disch := omega) only [rup_n, rup_s, fup_n]; exact hf.2.1 j j1 j2 j3 j4 j5 j6
          · simp (disch := omega) only [rup_n, rup_s, fup_n]; exact hf.2.2
          · simp (disch := omega) only [rup_n, rup_s, fup_n, fup_s]; rfl
          · simp (disch := omega) only [rup_n, rup_s, fup_n, fup_s]; exact m2
          · simp (disch := omega) only [rup_n, rup_s, fup_n, fup_s]; rfl
          · simp (disch := omega) only [rup_n, rup_s]
            by_cases z : i' = i
            · rw [z, fup_s]; exact e9.symm
            · rw [fup_n (by omega)]; exact m4 i' (by omega)
        · rw [if_neg (by omega), if_neg (by omega), ← m1, fup_self, rup_self] at hS
          have hni : ¬ coG s H nc i := fun z => by
            rcases z.1 with w | w
            · exact y w
            · exact u w
          have K0 := fun h5 e5 hf5 => MCO_128 (h1 := h5) (i := i) (Q := Q) (by omega) e5 (hN h5 hni hg hf5)
          refine R_iload_n dX12_coaches_19 rfl (?_ : RR _ _ _ _ 20 _ _ _ _)
          refine R_if_eq (t := 128) dX12_coaches_20 rfl (fun c20 => ?_) (fun c20 => ?_)
          · exfalso; omega
          refine R_aload_n dX12_coaches_23 rfl (?_ : RR _ _ _ _ 24 _ _ _ _)
          refine R_geti (z := 16) dX12_coaches_24 flX12_151 cok_12 rfl (by decide) rfl (fun q24 => (?_ : RR _ _ _ _ 27 _ _ _ _))
          rw [m1] at q24 ⊢
          refine R_aload_n dX12_coaches_27 rfl (?_ : RR _ _ _ _ 28 _ _ _ _)
          refine R_geti (z := 17) dX12_coaches_28 flX12_157 cok_12 rfl (by decide) rfl (fun q28 => (?_ : RR _ _ _ _ 31 _ _ _ _))
          rw [m2] at q28 ⊢
          refine R_icmp_ge (t := 128) dX12_coaches_31 rfl (fun c31 => ?_) (fun c31 => ?_)
          · exfalso; omega
          refine R_aload_n dX12_coaches_34 rfl (?_ : RR _ _ _ _ 35 _ _ _ _)
          refine R_geti (z := 4) dX12_coaches_35 flX12_124 cok_12 rfl (by decide) rfl (fun q35 => (?_ : RR _ _ _ _ 38 _ _ _ _))
          rw [g4] at q35 ⊢
          refine R_aload_n dX12_coaches_38 rfl (?_ : RR _ _ _ _ 39 _ _ _ _)
          refine R_geti (z := 20) dX12_coaches_39 flX12_214 cok_12 rfl (by decide) rfl (fun q39 => (?_ : RR _ _ _ _ 42 _ _ _ _))
          rw [m3] at q39 ⊢
          refine R_iadd dX12_coaches_42 (?_ : RR _ _ _ _ 43 _ _ _ _)
          refine R_bipush dX12_coaches_43 rfl (?_ : RR _ _ _ _ 45 _ _ _ _)
          refine R_icmp_ge (t := 52) dX12_coaches_45 rfl (fun c45 => ?_) (fun c45 => ?_)
          · exfalso; omega
          refine R_iconst dX12_coaches_48 (?_ : RR _ _ _ _ 49 _ _ _ _)
          refine R_goto (t := 53) dX12_coaches_49 rfl (?_ : RR _ _ _ _ 53 _ _ _ _)
          refine R_istore_n dX12_coaches_53 (Nat.le_of_ble_eq_true rfl) (?_ : RR _ _ _ _ 54 [_, _, _, _, _] _ _ _)
          refine R_iload_n dX12_coaches_54 rfl (?_ : RR _ _ _ _ 55 _ _ _ _)
          refine R_if_eq (t := 19) dX12_coaches_55 rfl (fun c55 => ?_) (fun c55 => ?_)
          · exfalso; omega
          refine R_aload_n dX12_coaches_58 rfl (?_ : RR _ _ _ _ 59 _ _ _ _)
          refine R_getr dX12_coaches_59 flX12_42 cok_12 rfl (by decide) (?_ : RR _ _ _ _ 62 _ _ _ _)
          refine R_aload_n dX12_coaches_62 rfl (?_ : RR _ _ _ _ 63 _ _ _ _)
          refine R_geti (z := 20) dX12_coaches_63 flX12_214 cok_12 rfl (by decide) rfl (fun q63 => (?_ : RR _ _ _ _ 66 _ _ _ _))
          rw [m3] at q63 ⊢
          refine R_aload_n dX12_coaches_66 rfl (?_ : RR _ _ _ _ 67 _ _ _ _)
          refine R_bipush dX12_coaches_67 rfl (?_ : RR _ _ _ _ 69 _ _ _ _)
          refine R_cVi1 dX12_coaches_69 mvX12_takes mlX12_182 (by decide) (by decide) (Nat.le_of_ble_eq_true rfl) (Nat.le_of_ble_eq_true rfl) (hT) (?_ : RR _ _ _ _ 72 _ _ _ _)
          refine R_if_eq (t := 80) dX12_coaches_72 rfl (fun c72 => ?_) (fun c72 => ?_)
          rotate_left
          · exfalso; omega
          refine R_aload_n dX12_coaches_80 rfl (?_ : RR _ _ _ _ 81 _ _ _ _)
          refine R_bipush dX12_coaches_81 rfl (?_ : RR _ _ _ _ 83 _ _ _ _)
          refine R_iconst dX12_coaches_83 (?_ : RR _ _ _ _ 84 _ _ _ _)
          refine R_aload_n dX12_coaches_84 rfl (?_ : RR _ _ _ _ 85 _ _ _ _)
          refine R_geti (z := 3) dX12_coaches_85 flX12_13 cok_12 rfl (by decide) rfl (fun q85 => (?_ : RR _ _ _ _ 88 _ _ _ _))
          rw [g3] at q85 ⊢
          refine R_iconst dX12_coaches_88 (?_ : RR _ _ _ _ 89 _ _ _ _)
          refine R_isub dX12_coaches_89 (?_ : RR _ _ _ _ 90 _ _ _ _)
          refine R_cVi3 dX12_coaches_90 mvX12_signIn mlX12_186 (by decide) (by decide) (Nat.le_of_ble_eq_true rfl) (Nat.le_of_ble_eq_true rfl) (hS) (?_ : RR _ _ _ _ 93 _ _ _ _)
          refine R_iast dX12_coaches_93 (?_ : RR _ _ _ _ 94 _ _ _ _)
          refine R_aload_n dX12_coaches_94 rfl (?_ : RR _ _ _ _ 95 _ _ _ _)
          refine R_getr dX12_coaches_95 flX12_42 cok_12 rfl (by decide) (?_ : RR _ _ _ _ 98 _ _ _ _)
          refine R_aload_n dX12_coaches_98 rfl (?_ : RR _ _ _ _ 99 _ _ _ _)
          refine R_geti (z := 20) dX12_coaches_99 flX12_214 cok_12 rfl (by decide) rfl (fun q99 => (?_ : RR _ _ _ _ 102 _ _ _ _))
          simp (disch := omega) only [rup_n, rup_s, fup_n, m3, fup_s] at q99 ⊢
          refine R_iald dX12_coaches_102 (fun q102 => (?_ : RR _ _ _ _ 103 _ _ _ _))
          simp (disch := omega) only [rup_s, fup_s] at q102 ⊢
          refine R_if_lt (t := 110) dX12_coaches_103 rfl (fun c103 => ?_) (fun c103 => ?_)
          rotate_left
          · exfalso; omega
          refine R_iconst dX12_coaches_110 (?_ : RR _ _ _ _ 111 _ _ _ _)
          refine R_istore_n dX12_coaches_111 (Nat.le_of_ble_eq_true rfl) (?_ : RR _ _ _ _ 112 [_, _, _, _, _] _ _ _)
          refine R_aload_n dX12_coaches_112 rfl (?_ : RR _ _ _ _ 113 _ _ _ _)
          refine R_dup dX12_coaches_113 (fun _ => rfl) (?_ : RR _ _ _ _ 114 _ _ _ _)
          refine R_geti (z := 20) dX12_coaches_114 flX12_214 cok_12 rfl (by decide) rfl (fun q114 => (?_ : RR _ _ _ _ 117 _ _ _ _))
          simp (disch := omega) only [rup_n, rup_s, fup_n, m3] at q114 ⊢
          refine R_iload_n dX12_coaches_117 rfl (?_ : RR _ _ _ _ 118 _ _ _ _)
          refine R_cSi1 dX12_coaches_118 msX12_flag mlX12_134 (by decide) (Nat.le_of_ble_eq_true rfl) (Nat.le_of_ble_eq_true rfl) (T_X12_flag) (?_ : RR _ _ _ _ 121 _ _ _ _)
          refine R_iadd dX12_coaches_121 (?_ : RR _ _ _ _ 122 _ _ _ _)
          refine R_puti (zk := 20) dX12_coaches_122 flX12_214 cok_12 (by decide) (fun q hq => by cases hq; rfl) rfl (?_ : RR _ _ _ _ 125 _ _ _ _)
          refine R_goto (t := 19) dX12_coaches_125 rfl (?_ : RR _ _ _ _ 19 _ _ _ _)
          skip
          refine K0 _ ?_ ⟨fun a a1 a2 => ?_, fun j j1 j2 j3 j4 j5 j6 => ?_, ?_⟩
          · simp (disch := omega) only [rup_n, rup_s, fup_n]; exact m1
          · simp (disch := omega) only [rup_n]; exact hf.1 a a1 a2
          · simp (disch := omega) only [rup_n, rup_s, fup_n]; exact hf.2.1 j j1 j2 j3 j4 j5 j6
          · simp (disch := omega) only [rup_n, rup_s, fup_n]; exact hf.2.2
    · have hni : ¬ coG s H nc i := fun z => r z.2
      have hq := hN h1 hni hg hf
      have K0 := MCO_128 (h1 := h1) (i := i) (Q := Q) (by omega) m1 hq
      refine R_iload_n dX12_coaches_19 rfl (?_ : RR _ _ _ _ 20 _ _ _ _)
      refine R_if_eq (t := 128) dX12_coaches_20 rfl (fun c20 => ?_) (fun c20 => ?_)
      · exfalso; omega
      refine R_aload_n dX12_coaches_23 rfl (?_ : RR _ _ _ _ 24 _ _ _ _)
      refine R_geti (z := 16) dX12_coaches_24 flX12_151 cok_12 rfl (by decide) rfl (fun q24 => (?_ : RR _ _ _ _ 27 _ _ _ _))
      rw [m1] at q24 ⊢
      refine R_aload_n dX12_coaches_27 rfl (?_ : RR _ _ _ _ 28 _ _ _ _)
      refine R_geti (z := 17) dX12_coaches_28 flX12_157 cok_12 rfl (by decide) rfl (fun q28 => (?_ : RR _ _ _ _ 31 _ _ _ _))
      rw [m2] at q28 ⊢
      refine R_icmp_ge (t := 128) dX12_coaches_31 rfl (fun c31 => ?_) (fun c31 => ?_)
      · exfalso; omega
      refine R_aload_n dX12_coaches_34 rfl (?_ : RR _ _ _ _ 35 _ _ _ _)
      refine R_geti (z := 4) dX12_coaches_35 flX12_124 cok_12 rfl (by decide) rfl (fun q35 => (?_ : RR _ _ _ _ 38 _ _ _ _))
      rw [g4] at q35 ⊢
      refine R_aload_n dX12_coaches_38 rfl (?_ : RR _ _ _ _ 39 _ _ _ _)
      refine R_geti (z := 20) dX12_coaches_39 flX12_214 cok_12 rfl (by decide) rfl (fun q39 => (?_ : RR _ _ _ _ 42 _ _ _ _))
      rw [m3] at q39 ⊢
      refine R_iadd dX12_coaches_42 (?_ : RR _ _ _ _ 43 _ _ _ _)
      refine R_bipush dX12_coaches_43 rfl (?_ : RR _ _ _ _ 45 _ _ _ _)
      refine R_icmp_ge (t := 52) dX12_coaches_45 rfl (fun c45 => ?_) (fun c45 => ?_)
      rotate_left
      · exfalso; omega
      refine R_iconst dX12_coaches_52 (?_ : RR _ _ _ _ 53 _ _ _ _)
      refine R_istore_n dX12_coaches_53 (Nat.le_of_ble_eq_true rfl) (?_ : RR _ _ _ _ 54 [_, _, _, _, _] _ _ _)
      refine R_iload_n dX12_coaches_54 rfl (?_ : RR _ _ _ _ 55 _ _ _ _)
      refine R_if_eq (t := 19) dX12_coaches_55 rfl (fun c55 => ?_) (fun c55 => ?_)
      rotate_left
      · exfalso; omega
      exact K0
end MCO
