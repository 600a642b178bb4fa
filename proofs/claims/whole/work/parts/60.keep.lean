section KE
variable {k : Nat} {h h3 : Nat → Int → Int} {sem : Sem} {H np nc len : Nat} {v : Int}
theorem T_X11_keep_no (hn : ¬ (0 ≤ v ∧ v < 3)) (hv : r32 v) : MT mX11_keep 3 [pR 0, pI v] h (some (pI 0)) h := by
  refine MT.of (fun Q hQ => (?_ : RR mX11_keep _ _ _ _ [pR 0, pI v] _ _ _))
  refine R_iload_n dX11_keep_0 rfl (?_ : RR _ _ _ _ 1 _ _ _ _)
  refine R_if_lt (t := 9) dX11_keep_1 rfl (fun c1 => ?_) (fun c1 => ?_)
  · first
    | (exfalso; omega)
    | (refine R_iconst dX11_keep_9 (?_ : RR _ _ _ _ 10 _ _ _ _)
       exact R_ireturn dX11_keep_10 (by first | exact Or.inl rfl | exact Or.inr rfl | exact ok_ite | omega) hQ)
  · first
    | (exfalso; omega)
    | (refine R_iload_n dX11_keep_4 rfl (?_ : RR _ _ _ _ 5 _ _ _ _)
       refine R_iconst dX11_keep_5 (?_ : RR _ _ _ _ 6 _ _ _ _)
       refine R_icmp_lt (t := 11) dX11_keep_6 rfl (fun c6 => ?_) (fun c6 => ?_)
       · first
         | (exfalso; omega)
         | (exfalso; omega)
       · first
         | (exfalso; omega)
         | (refine R_iconst dX11_keep_9 (?_ : RR _ _ _ _ 10 _ _ _ _)
            exact R_ireturn dX11_keep_10 (by first | exact Or.inl rfl | exact Or.inr rfl | exact ok_ite | omega) hQ))
theorem T_X11_keep {i : Nat} (hi : i < 3) : MT mX11_keep 3 [pR 0, pI i] h (some (pI 1)) (rup (trC h (123 + 5 * i) 14) 47 (fup (h 47) i 1)) := by
  refine MT.of (fun Q hQ => (?_ : RR mX11_keep _ _ _ _ [pR 0, pI i] _ _ _))
  have t14 := isTr_14
  refine R_iload_n dX11_keep_0 rfl (?_ : RR _ _ _ _ 1 _ _ _ _)
  refine R_if_lt (t := 9) dX11_keep_1 rfl (fun c1 => ?_) (fun c1 => ?_)
  · exfalso; omega
  refine R_iload_n dX11_keep_4 rfl (?_ : RR _ _ _ _ 5 _ _ _ _)
  refine R_iconst dX11_keep_5 (?_ : RR _ _ _ _ 6 _ _ _ _)
  refine R_icmp_lt (t := 11) dX11_keep_6 rfl (fun c6 => ?_) (fun c6 => ?_)
  rotate_left
  · exfalso; omega
  refine R_aload_n dX11_keep_11 rfl (?_ : RR _ _ _ _ 12 _ _ _ _)
  refine R_getr dX11_keep_12 flX11_66 cok_11 rfl (by decide) (?_ : RR _ _ _ _ 15 _ _ _ _)
  refine R_iload_n dX11_keep_15 rfl (?_ : RR _ _ _ _ 16 _ _ _ _)
  refine R_aload_n dX11_keep_16 rfl (?_ : RR _ _ _ _ 17 _ _ _ _)
  refine R_getr dX11_keep_17 flX11_36 cok_11 rfl (by decide) (?_ : RR _ _ _ _ 20 _ _ _ _)
  refine R_cVv2 dX11_keep_20 mvX1_keepUnder mlX11_411 (by decide) (by decide) (Nat.le_of_ble_eq_true rfl) (Nat.le_of_ble_eq_true rfl) (T_X1_keepUnder hi) (?_ : RR _ _ _ _ 23 _ _ _ _)
  refine R_iconst dX11_keep_23 (?_ : RR _ _ _ _ 24 _ _ _ _)
  exact R_ireturn dX11_keep_24 (by first | exact Or.inl rfl | exact Or.inr rfl | exact ok_ite | omega) hQ
theorem T_X12_keep_no (hn : ¬ (0 ≤ v ∧ v ≤ 2)) (hv : r32 v) : MT mX12_keep 1 [pR 147, pI v] h (some (pI 0)) (rup h 147 (fup (h 147) 0 0)) := by
  refine MT.of (fun Q hQ => (?_ : RR mX12_keep _ _ _ _ [pR 147, pI v, pU] _ _ _))
  refine R_aload_n dX12_keep_0 rfl (?_ : RR _ _ _ _ 1 _ _ _ _)
  refine R_iconst dX12_keep_1 (?_ : RR _ _ _ _ 2 _ _ _ _)
  refine R_puti (zk := 0) dX12_keep_2 flX12_106 cok_12 (by decide) (fun q hq => by cases hq; rfl) rfl (?_ : RR _ _ _ _ 5 _ _ _ _)
  try simp (disch := omega) only [rup_rup, rup_sort, rupS_def, rup_s, rup_n, fup_fup, fup_s, fup_n]
  refine R_iload_n dX12_keep_5 rfl (?_ : RR _ _ _ _ 6 _ _ _ _)
  refine R_i2l dX12_keep_6 (by first | assumption | omega) (?_ : RR _ _ _ _ 7 _ _ _ _)
  refine R_lconst (z := 0) dX12_keep_7 rfl (?_ : RR _ _ _ _ 8 _ _ _ _)
  refine R_ldc2 (z := 2) dX12_keep_8 klX12_428 (?_ : RR _ _ _ _ 11 _ _ _ _)
  refine R_cSi3 dX12_keep_11 msX12_in mlX12_120 (by decide) (Nat.le_of_ble_eq_true rfl) (Nat.le_of_ble_eq_true rfl) (T_X12_in) (?_ : RR _ _ _ _ 14 _ _ _ _)
  try simp (disch := omega) only [rup_rup, rup_sort, rupS_def, rup_s, rup_n, fup_fup, fup_s, fup_n]
  rw [if_neg hn]
  refine R_if_ne (t := 19) dX12_keep_14 rfl (fun c14 => ?_) (fun c14 => ?_)
  · exfalso; omega
  refine R_iconst dX12_keep_17 (?_ : RR _ _ _ _ 18 _ _ _ _)
  exact R_ireturn dX12_keep_18 (by first | exact Or.inl rfl | exact Or.inr rfl | exact ok_ite | omega) hQ
theorem T_X12_keep {i : Nat} (hi : i < 3) : MT mX12_keep 1 [pR 147, pI i] h (some (pI 1)) (rup (rup (rup (rup h 147 (fup (h 147) 0 0)) 175 (fup (h 175) i 1)) 176 (fup (h 176) i (h 147 6))) 177 (put (26 * i) (h 154) (h 177) 26)) := by
  refine MT.of (fun Q hQ => (?_ : RR mX12_keep _ _ _ _ [pR 147, pI i, pU] _ _ _))
  have L : ∀ k j : Nat, j + k = 26 → RR mX12_keep 1 0 0 38 [pR 147, pI i, pI j] [] (shp0, rf0, rup (rup (rup (rup h 147 (fup (h 147) 0 0)) 175 (fup (h 175) i 1)) 176 (fup (h 176) i (h 147 6))) 177 (put (26 * i) (h 154) (h 177) j)) Q := by
    intro k
    induction k with
    | zero =>
      intro j hi 
      obtain rfl : j = 26 := by omega
      refine R_iload_n dX12_keep_38 rfl (?_ : RR _ _ _ _ 39 _ _ _ _)
      refine R_bipush dX12_keep_39 rfl (?_ : RR _ _ _ _ 41 _ _ _ _)
      refine R_icmp_ge (t := 67) dX12_keep_41 rfl (fun c41 => ?_) (fun c41 => ?_)
      rotate_left
      · exfalso; omega
      refine R_iconst dX12_keep_67 (?_ : RR _ _ _ _ 68 _ _ _ _)
      exact R_ireturn dX12_keep_68 (by first | exact Or.inl rfl | exact Or.inr rfl | exact ok_ite | omega) hQ
    | succ k ih =>
      intro j hi 
      refine R_iload_n dX12_keep_38 rfl (?_ : RR _ _ _ _ 39 _ _ _ _)
      refine R_bipush dX12_keep_39 rfl (?_ : RR _ _ _ _ 41 _ _ _ _)
      refine R_icmp_ge (t := 67) dX12_keep_41 rfl (fun c41 => ?_) (fun c41 => ?_)
      · exfalso; omega
      refine R_aload_n dX12_keep_44 rfl (?_ : RR _ _ _ _ 45 _ _ _ _)
      refine R_getr dX12_keep_45 flX12_103 cok_12 rfl (by decide) (?_ : RR _ _ _ _ 48 _ _ _ _)
      refine R_bipush dX12_keep_48 rfl (?_ : RR _ _ _ _ 50 _ _ _ _)
      refine R_iload_n dX12_keep_50 rfl (?_ : RR _ _ _ _ 51 _ _ _ _)
      refine R_imul dX12_keep_51 (?_ : RR _ _ _ _ 52 _ _ _ _)
      refine R_iload_n dX12_keep_52 rfl (?_ : RR _ _ _ _ 53 _ _ _ _)
      refine R_iadd dX12_keep_53 (?_ : RR _ _ _ _ 54 _ _ _ _)
      refine R_aload_n dX12_keep_54 rfl (?_ : RR _ _ _ _ 55 _ _ _ _)
      refine R_getr dX12_keep_55 flX12_33 cok_12 rfl (by decide) (?_ : RR _ _ _ _ 58 _ _ _ _)
      refine R_iload_n dX12_keep_58 rfl (?_ : RR _ _ _ _ 59 _ _ _ _)
      refine R_iald dX12_keep_59 (fun q59 => (?_ : RR _ _ _ _ 60 _ _ _ _))
      try simp (disch := omega) only [rup_rup, rup_sort, rupS_def, rup_s, rup_n, fup_fup, fup_s, fup_n] at q59 ⊢
      refine R_iast dX12_keep_60 (?_ : RR _ _ _ _ 61 _ _ _ _)
      try simp (disch := omega) only [rup_rup, rup_sort, rupS_def, rup_s, rup_n, fup_fup, fup_s, fup_n]
      rw [put_s]
      refine R_iinc dX12_keep_61 rfl (Nat.le_of_ble_eq_true rfl) (?_ : RR _ _ _ _ 64 [_, _, _] _ _ _)
      refine R_goto (t := 38) dX12_keep_64 rfl (?_ : RR _ _ _ _ 38 _ _ _ _)
      exact ih (j + 1) (by omega)
  refine R_aload_n dX12_keep_0 rfl (?_ : RR _ _ _ _ 1 _ _ _ _)
  refine R_iconst dX12_keep_1 (?_ : RR _ _ _ _ 2 _ _ _ _)
  refine R_puti (zk := 0) dX12_keep_2 flX12_106 cok_12 (by decide) (fun q hq => by cases hq; rfl) rfl (?_ : RR _ _ _ _ 5 _ _ _ _)
  try simp (disch := omega) only [rup_rup, rup_sort, rupS_def, rup_s, rup_n, fup_fup, fup_s, fup_n]
  refine R_iload_n dX12_keep_5 rfl (?_ : RR _ _ _ _ 6 _ _ _ _)
  refine R_i2l dX12_keep_6 (by first | assumption | omega) (?_ : RR _ _ _ _ 7 _ _ _ _)
  refine R_lconst (z := 0) dX12_keep_7 rfl (?_ : RR _ _ _ _ 8 _ _ _ _)
  refine R_ldc2 (z := 2) dX12_keep_8 klX12_428 (?_ : RR _ _ _ _ 11 _ _ _ _)
  refine R_cSi3 dX12_keep_11 msX12_in mlX12_120 (by decide) (Nat.le_of_ble_eq_true rfl) (Nat.le_of_ble_eq_true rfl) (T_X12_in) (?_ : RR _ _ _ _ 14 _ _ _ _)
  try simp (disch := omega) only [rup_rup, rup_sort, rupS_def, rup_s, rup_n, fup_fup, fup_s, fup_n]
  rw [if_pos (by omega)]
  refine R_if_ne (t := 19) dX12_keep_14 rfl (fun c14 => ?_) (fun c14 => ?_)
  rotate_left
  · exfalso; omega
  refine R_aload_n dX12_keep_19 rfl (?_ : RR _ _ _ _ 20 _ _ _ _)
  refine R_getr dX12_keep_20 flX12_97 cok_12 rfl (by decide) (?_ : RR _ _ _ _ 23 _ _ _ _)
  refine R_iload_n dX12_keep_23 rfl (?_ : RR _ _ _ _ 24 _ _ _ _)
  refine R_iconst dX12_keep_24 (?_ : RR _ _ _ _ 25 _ _ _ _)
  refine R_zast dX12_keep_25 (?_ : RR _ _ _ _ 26 _ _ _ _)
  try simp (disch := omega) only [rup_rup, rup_sort, rupS_def, rup_s, rup_n, fup_fup, fup_s, fup_n]
  refine R_aload_n dX12_keep_26 rfl (?_ : RR _ _ _ _ 27 _ _ _ _)
  refine R_getr dX12_keep_27 flX12_100 cok_12 rfl (by decide) (?_ : RR _ _ _ _ 30 _ _ _ _)
  refine R_iload_n dX12_keep_30 rfl (?_ : RR _ _ _ _ 31 _ _ _ _)
  refine R_aload_n dX12_keep_31 rfl (?_ : RR _ _ _ _ 32 _ _ _ _)
  refine R_geti (z := 6) dX12_keep_32 flX12_211 cok_12 rfl (by decide) rfl (fun q32 => (?_ : RR _ _ _ _ 35 _ _ _ _))
  try simp (disch := omega) only [rup_rup, rup_sort, rupS_def, rup_s, rup_n, fup_fup, fup_s, fup_n] at q32 ⊢
  refine R_iast dX12_keep_35 (?_ : RR _ _ _ _ 36 _ _ _ _)
  try simp (disch := omega) only [rup_rup, rup_sort, rupS_def, rup_s, rup_n, fup_fup, fup_s, fup_n]
  refine R_iconst dX12_keep_36 (?_ : RR _ _ _ _ 37 _ _ _ _)
  refine R_istore_n dX12_keep_37 (Nat.le_of_ble_eq_true rfl) (?_ : RR _ _ _ _ 38 [_, _, _] _ _ _)
  have L0 := L 26 0 (by omega)
  rw [put_0, rup_id (a := 177) (by simp (disch := omega) only [rup_n])] at L0
  exact L0
theorem A_keep (hs : SRx k h sem H np nc len) (hv : r32 v) : AG mX11_keep mX12_keep 3 1 [pI v] k h := by
  have x6 := sR6 hs
  have x12 := sR12 hs
  by_cases q : 0 ≤ v ∧ v < 3
  · obtain ⟨i, rfl⟩ := Int.eq_ofNat_of_zero_le q.1
    have hi : i < 3 := by omega
    obtain ⟨h1, h1e⟩ : ∃ h1, h1 = rup (trC h (123 + 5 * i) 14) 47 (fup (h 47) i 1) := ⟨_, rfl⟩
    have f1 : ∀ a, a ≠ 47 → ¬ (123 + 5 * i ≤ a ∧ a ≤ 123 + 5 * i + 4) → h1 a = h a := fun a a1 a2 => by rw [h1e, rup_n a1, trC_n (by omega)]
    have hcl := T_X11_keep (h := h) hi
    rw [← h1e] at hcl
    have hm := T_X12_keep (h := h1) hi
    rw [f1 147 (by omega) (by omega), f1 175 (by omega) (by omega), f1 176 (by omega) (by omega), f1 177 (by omega) (by omega), f1 154 (by omega) (by omega)] at hm
    refine AG_det hcl hm ?_
    obtain ⟨h2, h2e⟩ : ∃ h2, h2 = rup (rup (rup (rup h1 147 (fup (h 147) 0 0)) 175 (fup (h 175) i 1)) 176 (fup (h 176) i (h 147 6))) 177 (put (26 * i) (h 154) (h 177) 26) := ⟨_, rfl⟩
    rw [← h2e]
    have f2 : ∀ a, a ≠ 47 → ¬ (123 + 5 * i ≤ a ∧ a ≤ 123 + 5 * i + 4) → a ≠ 147 → a ≠ 175 → a ≠ 176 → a ≠ 177 → h2 a = h a := fun a a1 a2 a3 a4 a5 a6 => by rw [h2e, rup_n a6, rup_n a5, rup_n a4, rup_n a3]; exact f1 a a1 a2
    have fj : ∀ j : Int, j ≠ 0 → h2 147 j = h 147 j := fun j j1 => by rw [h2e, rup_n (by omega), rup_n (by omega), rup_n (by omega), rup_s, fup_n j1]
    have g47 : h2 47 = fup (h 47) i 1 := by rw [h2e, rup_n (by omega), rup_n (by omega), rup_n (by omega), rup_n (by omega), h1e, rup_s]
    have g175 : h2 175 = fup (h 175) i 1 := by rw [h2e, rup_n (by omega), rup_n (by omega), rup_s]
    have g176 : h2 176 = fup (h 176) i (h 147 6) := by rw [h2e, rup_n (by omega), rup_s]
    have g177 : h2 177 = put (26 * i) (h 154) (h 177) 26 := by rw [h2e, rup_s]
    obtain ⟨k1, k2⟩ := SU_kp hs.2.2.2.1
    have hc := hs.2.2.2.1.1
    have hn := hs.2.2.2.1.2.1
    refine SR_k hs ⟨fun a q1 q2 => f2 a (by omega) (by omega) (by omega) (by omega) (by omega) (by omega), fun j q1 q2 => fj j (by omega), fun q => by rw [fj 30 (by omega)]; exact q, fun j q => by rw [f2 155 (by omega) (by omega) (by omega) (by omega) (by omega) (by omega)]⟩ ⟨by rw [fj 6 (by omega)]; omega, fun m hm => ?_⟩ (SD_same hs.2.2.1 (by rw [f2 145 (by omega) (by omega) (by omega) (by omega) (by omega) (by omega)]) (fj 1 (by omega)) (f2 146 (by omega) (by omega) (by omega) (by omega) (by omega) (by omega)) (f2 148 (by omega) (by omega) (by omega) (by omega) (by omega) (by omega)))
    rw [g47, g175, g176, fj 6 (by omega)]
    by_cases z : m = i
    · subst z
      rw [fup_s, fup_s, fup_s]
      have e1 : ∀ z : Int, 0 ≤ z → z < 26 → h2 177 (26 * (m : Int) + z) = h 154 z := fun z z0 z1 => by rw [g177]; exact put_in z0 (by omega)
      refine ⟨Or.inr rfl, Or.inr rfl, ⟨fun _ => ⟨rfl, rfl⟩, fun _ => rfl⟩, Int.le_refl _, fun _ => ⟨len, ?_, by rw [e1 1 (by omega) (by omega)]; omega⟩⟩
      exact Cpl_fr (Cpl_E x6 x12 (Cpl_cp (t := 123 + 5 * m) x6 x12 hc) (fun z z0 z1 => e1 z z0 z1) rfl rfl (fun _ _ => rfl)) (fun a a1 a2 => by rw [h2e, rup_n (by omega), rup_n (by omega), rup_n (by omega), rup_n (by omega), h1e, rup_n (by omega)])
    · rw [fup_n (by omega), fup_n (by omega), fup_n (by omega)]
      obtain ⟨v1, v2, v3, v4, v5⟩ := k2 m hm
      refine ⟨v1, v2, v3, v4, fun q => ?_⟩
      obtain ⟨l, c1, c2⟩ := v5 q
      have e1 : ∀ z : Int, 0 ≤ z → z < 26 → h2 177 (26 * (m : Int) + z) = h 177 (26 * m + z) := fun z z0 z1 => by rw [g177]; exact put_out (by omega)
      refine ⟨l, ?_, by rw [e1 1 (by omega) (by omega)]; omega⟩
      exact Cpl_fr (Cpl_E x6 x12 c1 (fun z z0 z1 => e1 z z0 z1) rfl rfl (fun _ _ => rfl)) (fun a a1 a2 => f2 a (by omega) (by omega) (by omega) (by omega) (by omega) (by omega))
  · exact AG_det (T_X11_keep_no q hv) (T_X12_keep_no (fun z => q ⟨z.1, by omega⟩) hv) (SR_thr hs)
/-! again -/
theorem T_X11_again_no (hn : ¬ (0 ≤ v ∧ v < 3 ∧ h 47 v = 1)) (hb : ∀ i : Nat, i < 3 → h 47 i = 0 ∨ h 47 i = 1) (hv : r32 v) : MT mX11_again 2 [pR 0, pI v] h (some (pI 0)) h := by
  refine MT.of (fun Q hQ => (?_ : RR mX11_again _ _ _ _ [pR 0, pI v] _ _ _))
  by_cases q : 0 ≤ v ∧ v < 3
  · have h1 := hb v.toNat (by omega)
    rw [show ((v.toNat : Nat) : Int) = v by omega] at h1
    refine R_iload_n dX11_again_0 rfl (?_ : RR _ _ _ _ 1 _ _ _ _)
    refine R_if_lt (t := 21) dX11_again_1 rfl (fun c1 => ?_) (fun c1 => ?_)
    · exfalso; omega
    refine R_iload_n dX11_again_4 rfl (?_ : RR _ _ _ _ 5 _ _ _ _)
    refine R_iconst dX11_again_5 (?_ : RR _ _ _ _ 6 _ _ _ _)
    refine R_icmp_ge (t := 21) dX11_again_6 rfl (fun c6 => ?_) (fun c6 => ?_)
    · exfalso; omega
    refine R_aload_n dX11_again_9 rfl (?_ : RR _ _ _ _ 10 _ _ _ _)
    refine R_getr dX11_again_10 flX11_66 cok_11 rfl (by decide) (?_ : RR _ _ _ _ 13 _ _ _ _)
    refine R_getr dX11_again_13 flX11_415 cok_1 rfl (by decide) (?_ : RR _ _ _ _ 16 _ _ _ _)
    refine R_iload_n dX11_again_16 rfl (?_ : RR _ _ _ _ 17 _ _ _ _)
    refine R_zald dX11_again_17 (fun q17 => (?_ : RR _ _ _ _ 18 _ _ _ _))
    refine R_if_ne (t := 23) dX11_again_18 rfl (fun c18 => ?_) (fun c18 => ?_)
    · exfalso; omega
    refine R_iconst dX11_again_21 (?_ : RR _ _ _ _ 22 _ _ _ _)
    exact R_ireturn dX11_again_22 (by first | exact Or.inl rfl | exact Or.inr rfl | exact ok_ite | omega) hQ
  · refine R_iload_n dX11_again_0 rfl (?_ : RR _ _ _ _ 1 _ _ _ _)
    refine R_if_lt (t := 21) dX11_again_1 rfl (fun c1 => ?_) (fun c1 => ?_)
    · first
      | (exfalso; omega)
      | (refine R_iconst dX11_again_21 (?_ : RR _ _ _ _ 22 _ _ _ _)
         exact R_ireturn dX11_again_22 (by first | exact Or.inl rfl | exact Or.inr rfl | exact ok_ite | omega) hQ)
    · first
      | (exfalso; omega)
      | (refine R_iload_n dX11_again_4 rfl (?_ : RR _ _ _ _ 5 _ _ _ _)
         refine R_iconst dX11_again_5 (?_ : RR _ _ _ _ 6 _ _ _ _)
         refine R_icmp_ge (t := 21) dX11_again_6 rfl (fun c6 => ?_) (fun c6 => ?_)
         · first
           | (exfalso; omega)
           | (refine R_iconst dX11_again_21 (?_ : RR _ _ _ _ 22 _ _ _ _)
              exact R_ireturn dX11_again_22 (by first | exact Or.inl rfl | exact Or.inr rfl | exact ok_ite | omega) hQ)
         · first
           | (exfalso; omega)
           | (exfalso; omega))
theorem T_X11_again {i : Nat} (hi : i < 3) (hk : h 47 i = 1) : MT mX11_again 2 [pR 0, pI i] h (some (pI 1)) (rup (trC h 14 (123 + 5 * i)) 44 (fup (h 44) 3 0)) := by
  refine MT.of (fun Q hQ => (?_ : RR mX11_again _ _ _ _ [pR 0, pI i] _ _ _))
  have t14 := isTr_14
  have hTr := isTr_a (15 + i) (by omega)
  rw [show 48 + 5 * (15 + i) = 123 + 5 * i by omega] at hTr
  refine R_iload_n dX11_again_0 rfl (?_ : RR _ _ _ _ 1 _ _ _ _)
  refine R_if_lt (t := 21) dX11_again_1 rfl (fun c1 => ?_) (fun c1 => ?_)
  · exfalso; omega
  refine R_iload_n dX11_again_4 rfl (?_ : RR _ _ _ _ 5 _ _ _ _)
  refine R_iconst dX11_again_5 (?_ : RR _ _ _ _ 6 _ _ _ _)
  refine R_icmp_ge (t := 21) dX11_again_6 rfl (fun c6 => ?_) (fun c6 => ?_)
  · exfalso; omega
  refine R_aload_n dX11_again_9 rfl (?_ : RR _ _ _ _ 10 _ _ _ _)
  refine R_getr dX11_again_10 flX11_66 cok_11 rfl (by decide) (?_ : RR _ _ _ _ 13 _ _ _ _)
  refine R_getr dX11_again_13 flX11_415 cok_1 rfl (by decide) (?_ : RR _ _ _ _ 16 _ _ _ _)
  refine R_iload_n dX11_again_16 rfl (?_ : RR _ _ _ _ 17 _ _ _ _)
  refine R_zald dX11_again_17 (fun q17 => (?_ : RR _ _ _ _ 18 _ _ _ _))
  refine R_if_ne (t := 23) dX11_again_18 rfl (fun c18 => ?_) (fun c18 => ?_)
  rotate_left
  · exfalso; omega
  refine R_aload_n dX11_again_23 rfl (?_ : RR _ _ _ _ 24 _ _ _ _)
  refine R_getr dX11_again_24 flX11_36 cok_11 rfl (by decide) (?_ : RR _ _ _ _ 27 _ _ _ _)
  refine R_aload_n dX11_again_27 rfl (?_ : RR _ _ _ _ 28 _ _ _ _)
  refine R_getr dX11_again_28 flX11_66 cok_11 rfl (by decide) (?_ : RR _ _ _ _ 31 _ _ _ _)
  refine R_getr dX11_again_31 flX11_419 cok_1 rfl (by decide) (?_ : RR _ _ _ _ 34 _ _ _ _)
  refine R_iload_n dX11_again_34 rfl (?_ : RR _ _ _ _ 35 _ _ _ _)
  refine R_aald dX11_again_35 (?_ : RR _ _ _ _ 36 _ _ _ _) (rf46 i hi)
  refine R_cVv1 dX11_again_36 mvX9_copyFrom mlX11_231 (by decide) (by decide) (Nat.le_of_ble_eq_true rfl) (Nat.le_of_ble_eq_true rfl) (T_X9_copyFrom) (?_ : RR _ _ _ _ 39 _ _ _ _)
  refine R_aload_n dX11_again_39 rfl (?_ : RR _ _ _ _ 40 _ _ _ _)
  refine R_getr dX11_again_40 flX11_66 cok_11 rfl (by decide) (?_ : RR _ _ _ _ 43 _ _ _ _)
  refine R_cVv0 dX11_again_43 mvX1_forgetActs mlX11_423 (by decide) (by decide) (Nat.le_of_ble_eq_true rfl) (Nat.le_of_ble_eq_true rfl) (T_X1_forgetActs) (?_ : RR _ _ _ _ 46 _ _ _ _)
  rw [trC_n (by omega)]
  refine R_iconst dX11_again_46 (?_ : RR _ _ _ _ 47 _ _ _ _)
  exact R_ireturn dX11_again_47 (by first | exact Or.inl rfl | exact Or.inr rfl | exact ok_ite | omega) hQ
theorem T_X12_again_no (hn : ¬ (0 ≤ v ∧ v ≤ 2 ∧ h 175 v = 1 ∧ h 176 v = h 147 6)) (hb : ∀ i : Nat, i < 3 → h 175 i = 0 ∨ h 175 i = 1) (hv : r32 v) : MT mX12_again 1 [pR 147, pI v] h (some (pI 0)) (rup h 147 (fup (h 147) 0 0)) := by
  refine MT.of (fun Q hQ => (?_ : RR mX12_again _ _ _ _ [pR 147, pI v, pU] _ _ _))
  by_cases q : 0 ≤ v ∧ v ≤ 2
  · have h1 := hb v.toNat (by omega)
    rw [show ((v.toNat : Nat) : Int) = v by omega] at h1
    by_cases q2 : h 175 v = 1
    · refine R_aload_n dX12_again_0 rfl (?_ : RR _ _ _ _ 1 _ _ _ _)
      refine R_iconst dX12_again_1 (?_ : RR _ _ _ _ 2 _ _ _ _)
      refine R_puti (zk := 0) dX12_again_2 flX12_106 cok_12 (by decide) (fun q hq => by cases hq; rfl) rfl (?_ : RR _ _ _ _ 5 _ _ _ _)
      try simp (disch := omega) only [rup_rup, rup_sort, rupS_def, rup_s, rup_n, fup_fup, fup_s, fup_n]
      refine R_iload_n dX12_again_5 rfl (?_ : RR _ _ _ _ 6 _ _ _ _)
      refine R_i2l dX12_again_6 (by first | assumption | omega) (?_ : RR _ _ _ _ 7 _ _ _ _)
      refine R_lconst (z := 0) dX12_again_7 rfl (?_ : RR _ _ _ _ 8 _ _ _ _)
      refine R_ldc2 (z := 2) dX12_again_8 klX12_428 (?_ : RR _ _ _ _ 11 _ _ _ _)
      refine R_cSi3 dX12_again_11 msX12_in mlX12_120 (by decide) (Nat.le_of_ble_eq_true rfl) (Nat.le_of_ble_eq_true rfl) (T_X12_in) (?_ : RR _ _ _ _ 14 _ _ _ _)
      try simp (disch := omega) only [rup_rup, rup_sort, rupS_def, rup_s, rup_n, fup_fup, fup_s, fup_n]
      rw [if_pos q]
      refine R_if_eq (t := 39) dX12_again_14 rfl (fun c14 => ?_) (fun c14 => ?_)
      · exfalso; first | omega | exact hn ⟨q.1, q.2, q2, by assumption⟩
      refine R_aload_n dX12_again_17 rfl (?_ : RR _ _ _ _ 18 _ _ _ _)
      refine R_getr dX12_again_18 flX12_97 cok_12 rfl (by decide) (?_ : RR _ _ _ _ 21 _ _ _ _)
      refine R_iload_n dX12_again_21 rfl (?_ : RR _ _ _ _ 22 _ _ _ _)
      refine R_zald dX12_again_22 (fun q22 => (?_ : RR _ _ _ _ 23 _ _ _ _))
      try simp (disch := omega) only [rup_rup, rup_sort, rupS_def, rup_s, rup_n, fup_fup, fup_s, fup_n] at q22 ⊢
      refine R_if_eq (t := 39) dX12_again_23 rfl (fun c23 => ?_) (fun c23 => ?_)
      · exfalso; first | omega | exact hn ⟨q.1, q.2, q2, by assumption⟩
      refine R_aload_n dX12_again_26 rfl (?_ : RR _ _ _ _ 27 _ _ _ _)
      refine R_getr dX12_again_27 flX12_100 cok_12 rfl (by decide) (?_ : RR _ _ _ _ 30 _ _ _ _)
      refine R_iload_n dX12_again_30 rfl (?_ : RR _ _ _ _ 31 _ _ _ _)
      refine R_iald dX12_again_31 (fun q31 => (?_ : RR _ _ _ _ 32 _ _ _ _))
      try simp (disch := omega) only [rup_rup, rup_sort, rupS_def, rup_s, rup_n, fup_fup, fup_s, fup_n] at q31 ⊢
      refine R_aload_n dX12_again_32 rfl (?_ : RR _ _ _ _ 33 _ _ _ _)
      refine R_geti (z := 6) dX12_again_33 flX12_211 cok_12 rfl (by decide) rfl (fun q33 => (?_ : RR _ _ _ _ 36 _ _ _ _))
      try simp (disch := omega) only [rup_rup, rup_sort, rupS_def, rup_s, rup_n, fup_fup, fup_s, fup_n] at q33 ⊢
      refine R_icmp_eq (t := 41) dX12_again_36 rfl (fun c36 => ?_) (fun c36 => ?_)
      · exfalso; first | omega | exact hn ⟨q.1, q.2, q2, by assumption⟩
      refine R_iconst dX12_again_39 (?_ : RR _ _ _ _ 40 _ _ _ _)
      exact R_ireturn dX12_again_40 (by first | exact Or.inl rfl | exact Or.inr rfl | exact ok_ite | omega) hQ
    · refine R_aload_n dX12_again_0 rfl (?_ : RR _ _ _ _ 1 _ _ _ _)
      refine R_iconst dX12_again_1 (?_ : RR _ _ _ _ 2 _ _ _ _)
      refine R_puti (zk := 0) dX12_again_2 flX12_106 cok_12 (by decide) (fun q hq => by cases hq; rfl) rfl (?_ : RR _ _ _ _ 5 _ _ _ _)
      try simp (disch := omega) only [rup_rup, rup_sort, rupS_def, rup_s, rup_n, fup_fup, fup_s, fup_n]
      refine R_iload_n dX12_again_5 rfl (?_ : RR _ _ _ _ 6 _ _ _ _)
      refine R_i2l dX12_again_6 (by first | assumption | omega) (?_ : RR _ _ _ _ 7 _ _ _ _)
      refine R_lconst (z := 0) dX12_again_7 rfl (?_ : RR _ _ _ _ 8 _ _ _ _)
      refine R_ldc2 (z := 2) dX12_again_8 klX12_428 (?_ : RR _ _ _ _ 11 _ _ _ _)
      refine R_cSi3 dX12_again_11 msX12_in mlX12_120 (by decide) (Nat.le_of_ble_eq_true rfl) (Nat.le_of_ble_eq_true rfl) (T_X12_in) (?_ : RR _ _ _ _ 14 _ _ _ _)
      try simp (disch := omega) only [rup_rup, rup_sort, rupS_def, rup_s, rup_n, fup_fup, fup_s, fup_n]
      rw [if_pos q]
      refine R_if_eq (t := 39) dX12_again_14 rfl (fun c14 => ?_) (fun c14 => ?_)
      · exfalso; omega
      refine R_aload_n dX12_again_17 rfl (?_ : RR _ _ _ _ 18 _ _ _ _)
      refine R_getr dX12_again_18 flX12_97 cok_12 rfl (by decide) (?_ : RR _ _ _ _ 21 _ _ _ _)
      refine R_iload_n dX12_again_21 rfl (?_ : RR _ _ _ _ 22 _ _ _ _)
      refine R_zald dX12_again_22 (fun q22 => (?_ : RR _ _ _ _ 23 _ _ _ _))
      try simp (disch := omega) only [rup_rup, rup_sort, rupS_def, rup_s, rup_n, fup_fup, fup_s, fup_n] at q22 ⊢
      refine R_if_eq (t := 39) dX12_again_23 rfl (fun c23 => ?_) (fun c23 => ?_)
      rotate_left
      · exfalso; omega
      refine R_iconst dX12_again_39 (?_ : RR _ _ _ _ 40 _ _ _ _)
      exact R_ireturn dX12_again_40 (by first | exact Or.inl rfl | exact Or.inr rfl | exact ok_ite | omega) hQ
  · refine R_aload_n dX12_again_0 rfl (?_ : RR _ _ _ _ 1 _ _ _ _)
    refine R_iconst dX12_again_1 (?_ : RR _ _ _ _ 2 _ _ _ _)
    refine R_puti (zk := 0) dX12_again_2 flX12_106 cok_12 (by decide) (fun q hq => by cases hq; rfl) rfl (?_ : RR _ _ _ _ 5 _ _ _ _)
    try simp (disch := omega) only [rup_rup, rup_sort, rupS_def, rup_s, rup_n, fup_fup, fup_s, fup_n]
    refine R_iload_n dX12_again_5 rfl (?_ : RR _ _ _ _ 6 _ _ _ _)
    refine R_i2l dX12_again_6 (by first | assumption | omega) (?_ : RR _ _ _ _ 7 _ _ _ _)
    refine R_lconst (z := 0) dX12_again_7 rfl (?_ : RR _ _ _ _ 8 _ _ _ _)
    refine R_ldc2 (z := 2) dX12_again_8 klX12_428 (?_ : RR _ _ _ _ 11 _ _ _ _)
    refine R_cSi3 dX12_again_11 msX12_in mlX12_120 (by decide) (Nat.le_of_ble_eq_true rfl) (Nat.le_of_ble_eq_true rfl) (T_X12_in) (?_ : RR _ _ _ _ 14 _ _ _ _)
    try simp (disch := omega) only [rup_rup, rup_sort, rupS_def, rup_s, rup_n, fup_fup, fup_s, fup_n]
    rw [if_neg q]
    refine R_if_eq (t := 39) dX12_again_14 rfl (fun c14 => ?_) (fun c14 => ?_)
    rotate_left
    · exfalso; omega
    refine R_iconst dX12_again_39 (?_ : RR _ _ _ _ 40 _ _ _ _)
    exact R_ireturn dX12_again_40 (by first | exact Or.inl rfl | exact Or.inr rfl | exact ok_ite | omega) hQ
theorem T_X12_again {i : Nat} (hi : i < 3) (hk : h 175 i = 1) (hc : h 176 i = h 147 6) : MT mX12_again 1 [pR 147, pI i] h (some (pI 1)) (rup (rup h 147 (fup (fup (h 147) 0 0) 28 0)) 154 (sgm (26 * i) (h 177) (h 154) 26)) := by
  refine MT.of (fun Q hQ => (?_ : RR mX12_again _ _ _ _ [pR 147, pI i, pU] _ _ _))
  have L : ∀ k j : Nat, j + k = 26 → RR mX12_again 1 0 0 43 [pR 147, pI i, pI j] [] (shp0, rf0, rup (rup h 147 (fup (h 147) 0 0)) 154 (sgm (26 * i) (h 177) (h 154) j)) Q := by
    intro k
    induction k with
    | zero =>
      intro j hi 
      obtain rfl : j = 26 := by omega
      refine R_iload_n dX12_again_43 rfl (?_ : RR _ _ _ _ 44 _ _ _ _)
      refine R_bipush dX12_again_44 rfl (?_ : RR _ _ _ _ 46 _ _ _ _)
      refine R_icmp_ge (t := 72) dX12_again_46 rfl (fun c46 => ?_) (fun c46 => ?_)
      rotate_left
      · exfalso; omega
      refine R_aload_n dX12_again_72 rfl (?_ : RR _ _ _ _ 73 _ _ _ _)
      refine R_iconst dX12_again_73 (?_ : RR _ _ _ _ 74 _ _ _ _)
      refine R_puti (zk := 28) dX12_again_74 flX12_208 cok_12 (by decide) (fun q hq => by cases hq; rfl) rfl (?_ : RR _ _ _ _ 77 _ _ _ _)
      try simp (disch := omega) only [rup_rup, rup_sort, rupS_def, rup_s, rup_n, fup_fup, fup_s, fup_n]
      refine R_iconst dX12_again_77 (?_ : RR _ _ _ _ 78 _ _ _ _)
      exact R_ireturn dX12_again_78 (by first | exact Or.inl rfl | exact Or.inr rfl | exact ok_ite | omega) hQ
    | succ k ih =>
      intro j hi 
      refine R_iload_n dX12_again_43 rfl (?_ : RR _ _ _ _ 44 _ _ _ _)
      refine R_bipush dX12_again_44 rfl (?_ : RR _ _ _ _ 46 _ _ _ _)
      refine R_icmp_ge (t := 72) dX12_again_46 rfl (fun c46 => ?_) (fun c46 => ?_)
      · exfalso; omega
      refine R_aload_n dX12_again_49 rfl (?_ : RR _ _ _ _ 50 _ _ _ _)
      refine R_getr dX12_again_50 flX12_33 cok_12 rfl (by decide) (?_ : RR _ _ _ _ 53 _ _ _ _)
      refine R_iload_n dX12_again_53 rfl (?_ : RR _ _ _ _ 54 _ _ _ _)
      refine R_aload_n dX12_again_54 rfl (?_ : RR _ _ _ _ 55 _ _ _ _)
      refine R_getr dX12_again_55 flX12_103 cok_12 rfl (by decide) (?_ : RR _ _ _ _ 58 _ _ _ _)
      refine R_bipush dX12_again_58 rfl (?_ : RR _ _ _ _ 60 _ _ _ _)
      refine R_iload_n dX12_again_60 rfl (?_ : RR _ _ _ _ 61 _ _ _ _)
      refine R_imul dX12_again_61 (?_ : RR _ _ _ _ 62 _ _ _ _)
      refine R_iload_n dX12_again_62 rfl (?_ : RR _ _ _ _ 63 _ _ _ _)
      refine R_iadd dX12_again_63 (?_ : RR _ _ _ _ 64 _ _ _ _)
      refine R_iald dX12_again_64 (fun q64 => (?_ : RR _ _ _ _ 65 _ _ _ _))
      try simp (disch := omega) only [rup_rup, rup_sort, rupS_def, rup_s, rup_n, fup_fup, fup_s, fup_n] at q64 ⊢
      refine R_iast dX12_again_65 (?_ : RR _ _ _ _ 66 _ _ _ _)
      try simp (disch := omega) only [rup_rup, rup_sort, rupS_def, rup_s, rup_n, fup_fup, fup_s, fup_n]
      rw [sgm_s]
      refine R_iinc dX12_again_66 rfl (Nat.le_of_ble_eq_true rfl) (?_ : RR _ _ _ _ 69 [_, _, _] _ _ _)
      refine R_goto (t := 43) dX12_again_69 rfl (?_ : RR _ _ _ _ 43 _ _ _ _)
      exact ih (j + 1) (by omega)
  refine R_aload_n dX12_again_0 rfl (?_ : RR _ _ _ _ 1 _ _ _ _)
  refine R_iconst dX12_again_1 (?_ : RR _ _ _ _ 2 _ _ _ _)
  refine R_puti (zk := 0) dX12_again_2 flX12_106 cok_12 (by decide) (fun q hq => by cases hq; rfl) rfl (?_ : RR _ _ _ _ 5 _ _ _ _)
  try simp (disch := omega) only [rup_rup, rup_sort, rupS_def, rup_s, rup_n, fup_fup, fup_s, fup_n]
  refine R_iload_n dX12_again_5 rfl (?_ : RR _ _ _ _ 6 _ _ _ _)
  refine R_i2l dX12_again_6 (by first | assumption | omega) (?_ : RR _ _ _ _ 7 _ _ _ _)
  refine R_lconst (z := 0) dX12_again_7 rfl (?_ : RR _ _ _ _ 8 _ _ _ _)
  refine R_ldc2 (z := 2) dX12_again_8 klX12_428 (?_ : RR _ _ _ _ 11 _ _ _ _)
  refine R_cSi3 dX12_again_11 msX12_in mlX12_120 (by decide) (Nat.le_of_ble_eq_true rfl) (Nat.le_of_ble_eq_true rfl) (T_X12_in) (?_ : RR _ _ _ _ 14 _ _ _ _)
  try simp (disch := omega) only [rup_rup, rup_sort, rupS_def, rup_s, rup_n, fup_fup, fup_s, fup_n]
  rw [if_pos (by omega)]
  refine R_if_eq (t := 39) dX12_again_14 rfl (fun c14 => ?_) (fun c14 => ?_)
  · exfalso; omega
  refine R_aload_n dX12_again_17 rfl (?_ : RR _ _ _ _ 18 _ _ _ _)
  refine R_getr dX12_again_18 flX12_97 cok_12 rfl (by decide) (?_ : RR _ _ _ _ 21 _ _ _ _)
  refine R_iload_n dX12_again_21 rfl (?_ : RR _ _ _ _ 22 _ _ _ _)
  refine R_zald dX12_again_22 (fun q22 => (?_ : RR _ _ _ _ 23 _ _ _ _))
  try simp (disch := omega) only [rup_rup, rup_sort, rupS_def, rup_s, rup_n, fup_fup, fup_s, fup_n] at q22 ⊢
  refine R_if_eq (t := 39) dX12_again_23 rfl (fun c23 => ?_) (fun c23 => ?_)
  · exfalso; omega
  refine R_aload_n dX12_again_26 rfl (?_ : RR _ _ _ _ 27 _ _ _ _)
  refine R_getr dX12_again_27 flX12_100 cok_12 rfl (by decide) (?_ : RR _ _ _ _ 30 _ _ _ _)
  refine R_iload_n dX12_again_30 rfl (?_ : RR _ _ _ _ 31 _ _ _ _)
  refine R_iald dX12_again_31 (fun q31 => (?_ : RR _ _ _ _ 32 _ _ _ _))
  try simp (disch := omega) only [rup_rup, rup_sort, rupS_def, rup_s, rup_n, fup_fup, fup_s, fup_n] at q31 ⊢
  refine R_aload_n dX12_again_32 rfl (?_ : RR _ _ _ _ 33 _ _ _ _)
  refine R_geti (z := 6) dX12_again_33 flX12_211 cok_12 rfl (by decide) rfl (fun q33 => (?_ : RR _ _ _ _ 36 _ _ _ _))
  try simp (disch := omega) only [rup_rup, rup_sort, rupS_def, rup_s, rup_n, fup_fup, fup_s, fup_n] at q33 ⊢
  refine R_icmp_eq (t := 41) dX12_again_36 rfl (fun c36 => ?_) (fun c36 => ?_)
  rotate_left
  · exfalso; omega
  refine R_iconst dX12_again_41 (?_ : RR _ _ _ _ 42 _ _ _ _)
  refine R_istore_n dX12_again_42 (Nat.le_of_ble_eq_true rfl) (?_ : RR _ _ _ _ 43 [_, _, _] _ _ _)
  have L0 := L 26 0 (by omega)
  rw [sgm_0, rup_id (a := 154) (by rw [rup_n (by omega)])] at L0
  exact L0
theorem A_again (hs : SRx k h sem H np nc len) (hv : r32 v) : AG mX11_again mX12_again 2 1 [pI v] k h := by
  have x6 := sR6 hs
  have x12 := sR12 hs
  obtain ⟨k1, k2⟩ := SU_kp hs.2.2.2.1
  by_cases q : 0 ≤ v ∧ v < 3 ∧ h 47 v = 1
  · obtain ⟨i, rfl⟩ := Int.eq_ofNat_of_zero_le q.1
    have hi : i < 3 := by omega
    obtain ⟨v1, v2, v3, v4, v5⟩ := k2 i hi
    have k47 := q.2.2
    obtain ⟨l, c1, c2⟩ := v5 k47
    obtain ⟨w1, w2⟩ := v3.mp k47
    obtain ⟨h1, h1e⟩ : ∃ h1, h1 = rup (trC h 14 (123 + 5 * i)) 44 (fup (h 44) 3 0) := ⟨_, rfl⟩
    have f1 : ∀ a, a ≠ 44 → ¬ (14 ≤ a ∧ a ≤ 18) → h1 a = h a := fun a a1 a2 => by rw [h1e, rup_n a1, trC_n (by omega)]
    have hcl := T_X11_again (h := h) hi k47
    rw [← h1e] at hcl
    have hm := T_X12_again (h := h1) hi (by rw [f1 175 (by omega) (by omega)]; exact w1) (by rw [f1 176 (by omega) (by omega), f1 147 (by omega) (by omega)]; exact w2)
    rw [f1 147 (by omega) (by omega), f1 177 (by omega) (by omega), f1 154 (by omega) (by omega)] at hm
    refine AG_det hcl hm ?_
    obtain ⟨h2, h2e⟩ : ∃ h2, h2 = rup (rup h1 147 (fup (fup (h 147) 0 0) 28 0)) 154 (sgm (26 * i) (h 177) (h 154) 26) := ⟨_, rfl⟩
    rw [← h2e]
    have f2 : ∀ a, a ≠ 44 → ¬ (14 ≤ a ∧ a ≤ 18) → a ≠ 147 → a ≠ 154 → h2 a = h a := fun a a1 a2 a3 a4 => by rw [h2e, rup_n a4, rup_n a3]; exact f1 a a1 a2
    have fj : ∀ j : Int, j ≠ 0 → j ≠ 28 → h2 147 j = h 147 j := fun j j1 j2 => by rw [h2e, rup_n (by omega), rup_s, fup_n j2, fup_n j1]
    have g154 : h2 154 = sgm (26 * i) (h 177) (h 154) 26 := by rw [h2e, rup_s]
    have eS : fE (h2 154) (fun z => h 177 (26 * (i : Int) + z)) := by
      rw [g154]
      exact sgm_E
    have e44 : h2 44 = fup (h 44) 3 0 := by rw [h2e, rup_n (by omega), rup_n (by omega), h1e, rup_s]
    refine SR_a hs (len2 := l) ⟨fun a q1 q2 => f2 a (by omega) (by omega) (by omega) (by omega), fun j q1 q2 => fj j (by omega) (by omega), fun q => by rw [fj 30 (by omega) (by omega)]; exact q, fun j q => by rw [f2 155 (by omega) (by omega) (by omega) (by omega)]⟩ (SA_fr hs.2.1 (by rw [f2 1 (by omega) (by omega) (by omega) (by omega)]) (fj 15 (by omega) (by omega)) (f2 2 (by omega) (by omega) (by omega) (by omega)) (f2 156 (by omega) (by omega) (by omega) (by omega))) (SD_same hs.2.2.1 (by rw [f2 145 (by omega) (by omega) (by omega) (by omega)]) (fj 1 (by omega) (by omega)) (f2 146 (by omega) (by omega) (by omega) (by omega)) (f2 148 (by omega) (by omega) (by omega) (by omega))) ?_ ?_ ?_ ?_
    · have k1 := Cpl_cp (t := 14) x6 x12 c1
      refine Cpl_fr (Cpl_E x6 x12 k1 eS rfl rfl (fun _ _ => rfl)) (fun a a1 a2 => ?_)
      rw [h2e, rup_n (by omega), rup_n (by omega), h1e, rup_n (by omega)]
    · rw [eS 1 (by omega) (by omega)]
      show h 177 (26 * (i : Int) + 1) ≤ _
      omega
    · rw [g154, f2 155 (by omega) (by omega) (by omega) (by omega)]
      exact fun j q => (hs.2.2.2.1.2.2.1 j q).trans (sgm_oor j q).symm
    · exact SUn_0 (SU_un hs.2.2.2.1) (by rw [e44, fup_s]) (by rw [h2e, rup_n (by omega), rup_s, fup_s]) (by rw [e44, fup_n (by omega)])
  · refine AG_det (T_X11_again_no q (fun i hi => (k2 i hi).1) hv) (T_X12_again_no (fun z => q ?_) (fun i hi => (k2 i hi).2.1) hv) (SR_thr hs)
    obtain ⟨i, rfl⟩ := Int.eq_ofNat_of_zero_le z.1
    exact ⟨z.1, by omega, (k2 i (by omega)).2.2.1.mpr ⟨z.2.2.1, z.2.2.2⟩⟩
end KE
