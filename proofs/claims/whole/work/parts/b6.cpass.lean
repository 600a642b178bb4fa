section CP2
variable {k : Nat} {h h1 h2 h3 h4 : Nat → Int → Int} {sem : Sem} {H np nc len n m : Nat} {σ : Int → Int}
/-- a row with some places more -/
def itF (o : Int) (v : Nat → Int) (f : Int → Int) : Nat → Int → Int := it (fun i g => fup g (o + i) (v i)) f
theorem itF_out {o : Int} {v : Nat → Int} {f : Int → Int} {j : Int} : ∀ m : Nat, ¬ (o ≤ j ∧ j < o + m) → itF o v f m j = f j
  | 0, _ => rfl
  | m + 1, q => by
    show fup (itF o v f m) (o + m) (v m) j = _
    rw [fup_n (by omega)]
    exact itF_out m (by omega)
theorem itF_in {o : Int} {v : Nat → Int} {f : Int → Int} {i : Nat} : ∀ m : Nat, i < m → itF o v f m (o + i) = v i
  | 0, q => by omega
  | m + 1, q => by
    show fup (itF o v f m) (o + m) (v m) (o + i) = _
    by_cases z : i = m
    · rw [z, fup_s]
    · rw [fup_n (by omega)]
      exact itF_in m (by omega)
def paCo (σ : Int → Int) (l : Nat) : Int := σ (4 * l) - 48
def paWa (σ : Int → Int) (l : Nat) : Int := σ (4 * l + 1) - 97
def paRa (σ : Int → Int) (l : Nat) : Int := σ (4 * l + 2) - 48
def paOK (σ : Int → Int) (H nc np l : Nat) : Prop := pa1 σ nc np l ∧ pa2 σ H l ∧ pa3 σ l
theorem T_X11_addPassenger {l : Nat} (hσ : ∀ p : Int, 0 ≤ p → signAt h p = σ p) (hσb : ∀ p : Int, -1 ≤ σ p ∧ σ p ≤ 255) (hH : h 3 0 = H) (hH9 : H ≤ 9) (hnc : h 14 2 = nc) (h6 : nc ≤ 6) (hnp : h 11 0 = ((np + l : Nat) : Int)) (hg : paOK σ H nc np l) (hl : l ≤ 12) : MT mX11_addPassenger 2 [pR 0, pI (4 * l)] h none (rup (rup (rup (rup h 11 (fup (h 11) 0 ((np + l : Nat) + 1))) 12 (fup (h 12) (np + l : Nat) (paWa σ l))) 13 (fup (h 13) (np + l : Nat) (paRa σ l))) 18 (fup (h 18) (np + l : Nat) (paCo σ l))) := by
  refine MT.of (fun Q hQ => (?_ : RR mX11_addPassenger _ _ _ _ [pR 0, pI (4 * l), pU, pU, pU] _ _ _))
  obtain ⟨⟨y, y1, y2⟩, ⟨u1, u2⟩, ⟨v1, v2⟩⟩ := hg
  have N1 := T_X7_numberAt (h := h) (p := 4 * (l : Int)) (f := 48) (m := nc) (by rw [hσ _ (by omega)]; exact hσb _)
  have N2 := T_X7_numberAt (h := h) (p := 4 * (l : Int) + 1) (f := 97) (m := H) (by rw [hσ _ (by omega)]; exact hσb _)
  have N3 := T_X7_numberAt (h := h) (p := 4 * (l : Int) + 2) (f := 49) (m := 9) (by rw [hσ _ (by omega)]; exact hσb _)
  unfold numAt at N1 N2 N3
  rw [hσ _ (by omega)] at N1 N2 N3
  rw [if_pos (by omega)] at N1 N2 N3
  unfold paWa paRa paCo at hQ
  refine R_aload_n dX11_addPassenger_0 rfl (?_ : RR _ _ _ _ 1 _ _ _ _)
  refine R_getr dX11_addPassenger_1 flX11_10 cok_11 rfl (by decide) (?_ : RR _ _ _ _ 4 _ _ _ _)
  refine R_iload_n dX11_addPassenger_4 rfl (?_ : RR _ _ _ _ 5 _ _ _ _)
  refine R_bipush dX11_addPassenger_5 rfl (?_ : RR _ _ _ _ 7 _ _ _ _)
  refine R_aload_n dX11_addPassenger_7 rfl (?_ : RR _ _ _ _ 8 _ _ _ _)
  refine R_getr dX11_addPassenger_8 flX11_36 cok_11 rfl (by decide) (?_ : RR _ _ _ _ 11 _ _ _ _)
  refine R_geti (z := 2) dX11_addPassenger_11 flX11_349 cok_9 rfl (by decide) rfl (fun q11 => (?_ : RR _ _ _ _ 14 _ _ _ _))
  try simp (disch := omega) only [rup_rup, rup_sort, rupS_def, rup_s, rup_n, fup_fup, fup_s, fup_n] at q11 ⊢
  rw [hnc] at q11 ⊢
  refine R_cVi3 dX11_addPassenger_14 mvX7_numberAt mlX11_132 (by decide) (by decide) (Nat.le_of_ble_eq_true rfl) (Nat.le_of_ble_eq_true rfl) (N1) (?_ : RR _ _ _ _ 17 _ _ _ _)
  try simp (disch := omega) only [rup_rup, rup_sort, rupS_def, rup_s, rup_n, fup_fup, fup_s, fup_n]
  refine R_istore_n dX11_addPassenger_17 (Nat.le_of_ble_eq_true rfl) (?_ : RR _ _ _ _ 18 [_, _, _, _, _] _ _ _)
  refine R_aload_n dX11_addPassenger_18 rfl (?_ : RR _ _ _ _ 19 _ _ _ _)
  refine R_getr dX11_addPassenger_19 flX11_10 cok_11 rfl (by decide) (?_ : RR _ _ _ _ 22 _ _ _ _)
  refine R_iload_n dX11_addPassenger_22 rfl (?_ : RR _ _ _ _ 23 _ _ _ _)
  refine R_iconst dX11_addPassenger_23 (?_ : RR _ _ _ _ 24 _ _ _ _)
  refine R_iadd dX11_addPassenger_24 (?_ : RR _ _ _ _ 25 _ _ _ _)
  refine R_bipush dX11_addPassenger_25 rfl (?_ : RR _ _ _ _ 27 _ _ _ _)
  refine R_aload_n dX11_addPassenger_27 rfl (?_ : RR _ _ _ _ 28 _ _ _ _)
  refine R_getr dX11_addPassenger_28 flX11_19 cok_11 rfl (by decide) (?_ : RR _ _ _ _ 31 _ _ _ _)
  skip
  refine R_geti (z := 0) dX11_addPassenger_31 flX11_129 cok_0 rfl (by decide) rfl (fun q31 => (?_ : RR _ _ _ _ 34 _ _ _ _))
  try simp (disch := omega) only [rup_rup, rup_sort, rupS_def, rup_s, rup_n, fup_fup, fup_s, fup_n] at q31 ⊢
  rw [hH] at q31 ⊢
  refine R_cVi3 dX11_addPassenger_34 mvX7_numberAt mlX11_132 (by decide) (by decide) (Nat.le_of_ble_eq_true rfl) (Nat.le_of_ble_eq_true rfl) (N2) (?_ : RR _ _ _ _ 37 _ _ _ _)
  try simp (disch := omega) only [rup_rup, rup_sort, rupS_def, rup_s, rup_n, fup_fup, fup_s, fup_n]
  refine R_istore_n dX11_addPassenger_37 (Nat.le_of_ble_eq_true rfl) (?_ : RR _ _ _ _ 38 [_, _, _, _, _] _ _ _)
  refine R_aload_n dX11_addPassenger_38 rfl (?_ : RR _ _ _ _ 39 _ _ _ _)
  refine R_getr dX11_addPassenger_39 flX11_10 cok_11 rfl (by decide) (?_ : RR _ _ _ _ 42 _ _ _ _)
  refine R_iload_n dX11_addPassenger_42 rfl (?_ : RR _ _ _ _ 43 _ _ _ _)
  refine R_iconst dX11_addPassenger_43 (?_ : RR _ _ _ _ 44 _ _ _ _)
  refine R_iadd dX11_addPassenger_44 (?_ : RR _ _ _ _ 45 _ _ _ _)
  refine R_bipush dX11_addPassenger_45 rfl (?_ : RR _ _ _ _ 47 _ _ _ _)
  refine R_bipush dX11_addPassenger_47 rfl (?_ : RR _ _ _ _ 49 _ _ _ _)
  refine R_cVi3 dX11_addPassenger_49 mvX7_numberAt mlX11_132 (by decide) (by decide) (Nat.le_of_ble_eq_true rfl) (Nat.le_of_ble_eq_true rfl) (N3) (?_ : RR _ _ _ _ 52 _ _ _ _)
  try simp (disch := omega) only [rup_rup, rup_sort, rupS_def, rup_s, rup_n, fup_fup, fup_s, fup_n]
  refine R_iconst dX11_addPassenger_52 (?_ : RR _ _ _ _ 53 _ _ _ _)
  refine R_iadd dX11_addPassenger_53 (?_ : RR _ _ _ _ 54 _ _ _ _)
  rw [show σ (4 * (l : Int) + 2) - 49 + 1 = σ (4 * (l : Int) + 2) - 48 by omega]
  refine R_istore dX11_addPassenger_54 (Nat.le_of_ble_eq_true rfl) (?_ : RR _ _ _ _ 56 [_, _, _, _, _] _ _ _)
  refine R_aload_n dX11_addPassenger_56 rfl (?_ : RR _ _ _ _ 57 _ _ _ _)
  refine R_getr dX11_addPassenger_57 flX11_29 cok_11 rfl (by decide) (?_ : RR _ _ _ _ 60 _ _ _ _)
  refine R_geti (z := 0) dX11_addPassenger_60 flX11_116 cok_2 rfl (by decide) rfl (fun q60 => (?_ : RR _ _ _ _ 63 _ _ _ _))
  try simp (disch := omega) only [rup_rup, rup_sort, rupS_def, rup_s, rup_n, fup_fup, fup_s, fup_n] at q60 ⊢
  rw [hnp] at q60 ⊢
  refine R_bipush dX11_addPassenger_63 rfl (?_ : RR _ _ _ _ 65 _ _ _ _)
  refine R_icmp_ge (t := 94) dX11_addPassenger_65 rfl (fun c65 => ?_) (fun c65 => ?_)
  · exfalso; omega
  refine R_aload_n dX11_addPassenger_68 rfl (?_ : RR _ _ _ _ 69 _ _ _ _)
  refine R_getr dX11_addPassenger_69 flX11_36 cok_11 rfl (by decide) (?_ : RR _ _ _ _ 72 _ _ _ _)
  refine R_getr dX11_addPassenger_72 flX11_205 cok_9 rfl (by decide) (?_ : RR _ _ _ _ 75 _ _ _ _)
  refine R_aload_n dX11_addPassenger_75 rfl (?_ : RR _ _ _ _ 76 _ _ _ _)
  refine R_getr dX11_addPassenger_76 flX11_29 cok_11 rfl (by decide) (?_ : RR _ _ _ _ 79 _ _ _ _)
  refine R_geti (z := 0) dX11_addPassenger_79 flX11_116 cok_2 rfl (by decide) rfl (fun q79 => (?_ : RR _ _ _ _ 82 _ _ _ _))
  try simp (disch := omega) only [rup_rup, rup_sort, rupS_def, rup_s, rup_n, fup_fup, fup_s, fup_n] at q79 ⊢
  rw [hnp] at q79 ⊢
  refine R_iload_n dX11_addPassenger_82 rfl (?_ : RR _ _ _ _ 83 _ _ _ _)
  refine R_iast dX11_addPassenger_83 (?_ : RR _ _ _ _ 84 _ _ _ _)
  try simp (disch := omega) only [rup_rup, rup_sort, rupS_def, rup_s, rup_n, fup_fup, fup_s, fup_n]
  refine R_aload_n dX11_addPassenger_84 rfl (?_ : RR _ _ _ _ 85 _ _ _ _)
  refine R_getr dX11_addPassenger_85 flX11_29 cok_11 rfl (by decide) (?_ : RR _ _ _ _ 88 _ _ _ _)
  refine R_iload_n dX11_addPassenger_88 rfl (?_ : RR _ _ _ _ 89 _ _ _ _)
  refine R_iload dX11_addPassenger_89 rfl (?_ : RR _ _ _ _ 91 _ _ _ _)
  refine R_cVv2 dX11_addPassenger_91 mvX2_add mlX11_439 (by decide) (by decide) (Nat.le_of_ble_eq_true rfl) (Nat.le_of_ble_eq_true rfl) (T_X2_add (n := np + l) (by simp (disch := omega) only [rup_n]; exact hnp)) (?_ : RR _ _ _ _ 94 _ _ _ _)
  try simp (disch := omega) only [rup_rup, rup_sort, rupS_def, rup_s, rup_n, fup_fup, fup_s, fup_n]
  exact R_return dX11_addPassenger_94 trivial hQ
theorem C_pass_no {r : Int} (h1n : h 1 1 = n) (hn80 : n ≤ 80) (hr0 : r ≤ 0) (hrb : -1000 ≤ r) (hck : if n = 0 then r = 0 else MT mX11_checkPassengers 2 [pR 0] (rup h 1 (fup (h 1) 2 (min (n : Int) 47))) (some (pI r)) (rup h 1 (fup (h 1) 2 (min (n : Int) 47)))) : MT mX11_passengers 3 [pR 0] h (some (pI r)) (rup h 1 (fup (fup (h 1) 2 (min (n : Int) 47)) 1 0)) := by
  refine MT.of (fun Q hQ => (?_ : RR mX11_passengers _ _ _ _ [pR 0, pU, pU] _ _ _))
  have hb := T_X7_boundBy (h := h) (m := 47)
  rw [h1n] at hb
  have e1 : rup h 1 (fup (h 1) 2 (min (n : Int) 47)) 1 1 = n := by rw [rup_s, fup_n (by omega)]; exact h1n
  have K30 : RR mX11_passengers 3 0 0 30 [pR 0, pI r, pI 0] [] (shp0, rf0, rup h 1 (fup (h 1) 2 (min (n : Int) 47))) Q := by
    refine R_iload_n dX11_passengers_30 rfl (?_ : RR _ _ _ _ 31 _ _ _ _)
    refine R_iload_n dX11_passengers_31 rfl (?_ : RR _ _ _ _ 32 _ _ _ _)
    refine R_icmp_ge (t := 48) dX11_passengers_32 rfl (fun c32 => ?_) (fun c32 => ?_)
    rotate_left
    · exfalso; omega
    refine R_aload_n dX11_passengers_48 rfl (?_ : RR _ _ _ _ 49 _ _ _ _)
    refine R_getr dX11_passengers_49 flX11_10 cok_11 rfl (by decide) (?_ : RR _ _ _ _ 52 _ _ _ _)
    refine R_iconst dX11_passengers_52 (?_ : RR _ _ _ _ 53 _ _ _ _)
    refine R_puti (zk := 1) dX11_passengers_53 flX11_91 cok_7 (by decide) (fun q hq => by cases hq; rfl) rfl (?_ : RR _ _ _ _ 56 _ _ _ _)
    simp only [rup_rup, rup_s]
    refine R_iload_n dX11_passengers_56 rfl (?_ : RR _ _ _ _ 57 _ _ _ _)
    refine R_if_le (t := 79) dX11_passengers_57 rfl (fun c57 => ?_) (fun c57 => ?_)
    rotate_left
    · exfalso; omega
    refine R_iload_n dX11_passengers_79 rfl (?_ : RR _ _ _ _ 80 _ _ _ _)
    exact R_ireturn dX11_passengers_80 trivial hQ
  by_cases z : n = 0
  · rw [if_pos z] at hck
    rw [hck] at K30
    refine R_aload_n dX11_passengers_0 rfl (?_ : RR _ _ _ _ 1 _ _ _ _)
    refine R_getr dX11_passengers_1 flX11_10 cok_11 rfl (by decide) (?_ : RR _ _ _ _ 4 _ _ _ _)
    refine R_bipush dX11_passengers_4 rfl (?_ : RR _ _ _ _ 6 _ _ _ _)
    refine R_cVv1 dX11_passengers_6 mvX7_boundBy mlX11_99 (by decide) (by decide) (Nat.le_of_ble_eq_true rfl) (Nat.le_of_ble_eq_true rfl) (hb) (?_ : RR _ _ _ _ 9 _ _ _ _)
    refine R_aload_n dX11_passengers_9 rfl (?_ : RR _ _ _ _ 10 _ _ _ _)
    refine R_getr dX11_passengers_10 flX11_10 cok_11 rfl (by decide) (?_ : RR _ _ _ _ 13 _ _ _ _)
    refine R_geti (z := 1) dX11_passengers_13 flX11_91 cok_7 rfl (by decide) rfl (fun q13 => (?_ : RR _ _ _ _ 16 _ _ _ _))
    rw [e1] at q13 ⊢
    refine R_if_ne (t := 23) dX11_passengers_16 rfl (fun c16 => ?_) (fun c16 => ?_)
    · exfalso; omega
    refine R_iconst dX11_passengers_19 (?_ : RR _ _ _ _ 20 _ _ _ _)
    refine R_goto (t := 27) dX11_passengers_20 rfl (?_ : RR _ _ _ _ 27 _ _ _ _)
    refine R_istore_n dX11_passengers_27 (Nat.le_of_ble_eq_true rfl) (?_ : RR _ _ _ _ 28 [_, _, _] _ _ _)
    refine R_iconst dX11_passengers_28 (?_ : RR _ _ _ _ 29 _ _ _ _)
    refine R_istore_n dX11_passengers_29 (Nat.le_of_ble_eq_true rfl) (?_ : RR _ _ _ _ 30 [_, _, _] _ _ _)
    exact K30
  · rw [if_neg z] at hck
    refine R_aload_n dX11_passengers_0 rfl (?_ : RR _ _ _ _ 1 _ _ _ _)
    refine R_getr dX11_passengers_1 flX11_10 cok_11 rfl (by decide) (?_ : RR _ _ _ _ 4 _ _ _ _)
    refine R_bipush dX11_passengers_4 rfl (?_ : RR _ _ _ _ 6 _ _ _ _)
    refine R_cVv1 dX11_passengers_6 mvX7_boundBy mlX11_99 (by decide) (by decide) (Nat.le_of_ble_eq_true rfl) (Nat.le_of_ble_eq_true rfl) (hb) (?_ : RR _ _ _ _ 9 _ _ _ _)
    refine R_aload_n dX11_passengers_9 rfl (?_ : RR _ _ _ _ 10 _ _ _ _)
    refine R_getr dX11_passengers_10 flX11_10 cok_11 rfl (by decide) (?_ : RR _ _ _ _ 13 _ _ _ _)
    refine R_geti (z := 1) dX11_passengers_13 flX11_91 cok_7 rfl (by decide) rfl (fun q13 => (?_ : RR _ _ _ _ 16 _ _ _ _))
    rw [e1] at q13 ⊢
    refine R_if_ne (t := 23) dX11_passengers_16 rfl (fun c16 => ?_) (fun c16 => ?_)
    rotate_left
    · exfalso; omega
    refine R_aload_n dX11_passengers_23 rfl (?_ : RR _ _ _ _ 24 _ _ _ _)
    refine R_cVi0 dX11_passengers_24 mvX11_checkPassengers mlX11_139 (by decide) (by decide) (Nat.le_of_ble_eq_true rfl) (Nat.le_of_ble_eq_true rfl) (hck) (?_ : RR _ _ _ _ 27 _ _ _ _)
    refine R_istore_n dX11_passengers_27 (Nat.le_of_ble_eq_true rfl) (?_ : RR _ _ _ _ 28 [_, _, _] _ _ _)
    refine R_iconst dX11_passengers_28 (?_ : RR _ _ _ _ 29 _ _ _ _)
    refine R_istore_n dX11_passengers_29 (Nat.le_of_ble_eq_true rfl) (?_ : RR _ _ _ _ 30 [_, _, _] _ _ _)
    exact K30
theorem C_pass {m : Nat} (hs : SRx k h sem H np nc len) (h1n : h 1 1 = n) (hn1 : 1 ≤ n) (hn80 : n ≤ 80) (hm1 : 1 ≤ m) (hm : np + m ≤ 12) (hσ : ∀ h1 : Nat → Int → Int, h1 1 2 = min (n : Int) 47 → h1 2 = h 2 → ∀ p : Int, 0 ≤ p → signAt h1 p = σ p) (hσb : ∀ p : Int, -1 ≤ σ p ∧ σ p ≤ 255) (hg : ∀ l, l < m → paOK σ H nc np l) (hck : MT mX11_checkPassengers 2 [pR 0] (rup h 1 (fup (h 1) 2 (min (n : Int) 47))) (some (pI m)) (rup h 1 (fup (h 1) 2 (min (n : Int) 47)))) : RR mX11_passengers 3 0 0 0 (pm_ent [pR 0] 3) [] (shp0, rf0, h) (fun r' g' => r' = some (pI m) ∧ ∃ h2, g' = (shp0, rf0, h2) ∧ (∀ a, ¬ (a = 1 ∨ (11 ≤ a ∧ a ≤ 13) ∨ a = 18 ∨ a = 44 ∨ a = 47) → h2 a = h a) ∧ h2 1 1 = 0 ∧ h2 11 0 = ((np + m : Nat) : Int) ∧ h2 12 = itF np (paWa σ) (h 12) m ∧ h2 13 = itF np (paRa σ) (h 13) m ∧ h2 18 = outF (itF np (paWa σ) (h 12) m) (trHal h 14) (itF np (paCo σ) (h 18) m) (np + m) ∧ h2 44 3 = 0 ∧ h2 44 4 = h 44 4 ∧ ∀ i : Nat, i < 3 → h2 47 i = 0) := by
  have x6 := sR6 hs
  have hH := sRH hs
  have t14 := isTr_14
  have h3H : h 3 0 = H := hs.1.2.2.2.1
  have h11 : h 11 0 = np := hs.1.2.2.2.2.2.2.1.2.1.1
  have hcp := hs.2.2.2.1.1
  have e2 : h 14 2 = nc := hcp.2.2.2.1
  show RR _ _ _ _ _ [pR 0, pU, pU] _ _ _
  refine R_nzf (fun hz => ?_)
  obtain ⟨t0, t1, t2, t3, t4, t5, t6, t7, t8⟩ := id t14
  have hw : ∀ c, r32 (trHal h 14 c) := fun c => by
    unfold trHal
    split
    · first | exact nz_i hz t0 (by decide) c | exact nz_i hz t1 (by decide) c | exact nz_i hz t2 (by decide) c | exact nz_i hz t3 (by decide) c | exact nz_i hz t4 (by decide) c | exact nz_i hz t5 (by decide) c | exact nz_i hz t6 (by decide) c | exact nz_i hz t7 (by decide) c | exact nz_i hz t8 (by decide) c
    · first | exact nz_i hz t0 (by decide) 0 | exact nz_i hz t1 (by decide) 0 | exact nz_i hz t2 (by decide) 0 | exact nz_i hz t3 (by decide) 0 | exact nz_i hz t4 (by decide) 0 | exact nz_i hz t5 (by decide) 0
  clear hz
  suffices hS : ∀ Q : Option PV → PH → Prop, (∀ h2, (∀ a, ¬ (a = 1 ∨ (11 ≤ a ∧ a ≤ 13) ∨ a = 18 ∨ a = 44 ∨ a = 47) → h2 a = h a) → h2 1 1 = 0 → h2 11 0 = ((np + m : Nat) : Int) → h2 12 = itF np (paWa σ) (h 12) m → h2 13 = itF np (paRa σ) (h 13) m → h2 18 = outF (itF np (paWa σ) (h 12) m) (trHal h 14) (itF np (paCo σ) (h 18) m) (np + m) → h2 44 3 = 0 → h2 44 4 = h 44 4 → (∀ i : Nat, i < 3 → h2 47 i = 0) → Q (some (pI m)) (shp0, rf0, h2)) → RR mX11_passengers 3 0 0 0 [pR 0, pU, pU] [] (shp0, rf0, h) Q from hS _ (fun h2 q1 q2 q3 q4 q5 q6 q7 q8 q9 => ⟨rfl, h2, rfl, q1, q2, q3, q4, q5, q6, q7, q8, q9⟩)
  intro Q hQ
  have hse : ∀ j : Nat, j < np + m → itF np (paCo σ) (h 18) m j = -1 ∨ (0 ≤ itF np (paCo σ) (h 18) m j ∧ itF np (paCo σ) (h 18) m j < 6) := fun j hj => by
    by_cases z : j < np
    · rw [itF_out m (by omega)]
      have h1 : h (14 + 4) j = mS (h 154) j := hcp.2.2.2.2.2.2.2 j (show j < np from z)
      have h1 : h 18 j = mS (h 154) j := h1
      rw [h1]
      have h2 : mS (h 154) j = -1 ∨ (0 ≤ mS (h 154) j ∧ mS (h 154) j < nc ∧ _) := hcp.1.2.2.2.2.2 j (show j < np from z)
      omega
    · have h3 := itF_in (o := (np : Int)) (v := paCo σ) (f := h 18) (i := j - np) m (by omega)
      rw [show (np : Int) + ((j - np : Nat) : Int) = j by omega] at h3
      rw [h3]
      obtain ⟨⟨y, y1, y2⟩, -⟩ := hg (j - np) (by omega)
      unfold paCo
      omega
  have L : ∀ (j i : Nat) (h1 : Nat → Int → Int), i + j = m → (∀ a, ¬ (a = 1 ∨ (11 ≤ a ∧ a ≤ 13) ∨ a = 18) → h1 a = h a) → h1 1 2 = min (n : Int) 47 → h1 11 0 = ((np + i : Nat) : Int) → h1 12 = itF np (paWa σ) (h 12) i → h1 13 = itF np (paRa σ) (h 13) i → h1 18 = itF np (paCo σ) (h 18) i → RR mX11_passengers 3 0 0 30 [pR 0, pI m, pI i] [] (shp0, rf0, h1) Q := by
    intro j
    induction j with
    | zero =>
      intro i h1 hi hf g2 g11 g12 g13 g18
      obtain rfl : i = m := by omega
      have tH : trHal (rup h1 1 (fup (h1 1) 1 0)) 14 = trHal h 14 := by
        rw [trHal_eq, trHal_eq, rup_n (by omega), rup_n (by omega), rup_n (by omega), hf 14 (by omega), hf (14 + 2) (by omega), hf (14 + 3) (by omega)]
      have hlo := T_X9_letOut (t := 14) (n := np + i) (h := rup h1 1 (fup (h1 1) 1 0)) (by rw [rup_n (by omega)]; exact g11) (fun j hj => by
        rw [rup_n (by omega), show h1 (14 + 4) = h1 18 from rfl, g18]; exact hse j hj) t14 (by omega) (by omega) (by rw [tH]; exact hw)
      rw [tH, rup_n (by omega), rup_n (by omega), show h1 (14 + 4) = h1 18 from rfl, g18, g12] at hlo
      have hlb := bset_31 (P := fun j : Nat => decide (itF np (paCo σ) (h 18) i j ≠ -1 ∧ trHal h 14 (itF np (paCo σ) (h 18) i j) = itF np (paWa σ) (h 12) i j)) (n := np + i) (by omega)
      generalize bset (fun j : Nat => decide (itF np (paCo σ) (h 18) i j ≠ -1 ∧ trHal h 14 (itF np (paCo σ) (h 18) i j) = itF np (paWa σ) (h 12) i j)) (np + i) = B at hlo hlb
      obtain ⟨h5, h5e⟩ : ∃ h5, h5 = rup (rup h1 1 (fup (h1 1) 1 0)) (14 + 4) (outF (itF np (paWa σ) (h 12) i) (trHal h 14) (itF np (paCo σ) (h 18) i) (np + i)) := ⟨_, rfl⟩
      rw [← h5e] at hlo
      have e5 : ∀ a, a ≠ 1 → a ≠ 18 → h5 a = h1 a := fun a a1 a2 => by rw [h5e, rup_n (by omega), rup_n (by omega)]
      have hfa := T_X1_forgetAll (h := h5)
      have hq := hQ (rup (rup h5 44 (fup (h5 44) 3 0)) 47 (fup (fup (fup (h5 47) 0 0) 1 0) 2 0)) (fun a q => by rw [rup_n (by omega), rup_n (by omega), e5 a (by omega) (by omega)]; exact hf a (by omega)) (by rw [rup_n (by omega), rup_n (by omega), h5e, rup_n (by omega), rup_s, fup_s]) (by rw [rup_n (by omega), rup_n (by omega), e5 11 (by omega) (by omega)]; exact g11) (by rw [rup_n (by omega), rup_n (by omega), e5 12 (by omega) (by omega)]; exact g12) (by rw [rup_n (by omega), rup_n (by omega), e5 13 (by omega) (by omega)]; exact g13) (by rw [rup_n (by omega), rup_n (by omega), h5e, show (14 + 4 : Nat) = 18 from rfl, rup_s]) (by rw [rup_n (by omega), rup_s, fup_s]) (by rw [rup_n (by omega), rup_s, fup_n (by omega), e5 44 (by omega) (by omega), hf 44 (by omega)]) (fun i' hi' => by
        rw [rup_s]
        have : i' = 0 ∨ i' = 1 ∨ i' = 2 := by omega
        rcases this with rfl | rfl | rfl
        · rw [fup_n (by omega), fup_n (by omega)]; exact fup_s
        · rw [fup_n (by omega)]; exact fup_s
        · exact fup_s)
      generalize rup (rup h5 44 (fup (h5 44) 3 0)) 47 (fup (fup (fup (h5 47) 0 0) 1 0) 2 0) = h6 at hfa hq
      clear hQ hse hlb
      refine R_iload_n dX11_passengers_30 rfl (?_ : RR _ _ _ _ 31 _ _ _ _)
      refine R_iload_n dX11_passengers_31 rfl (?_ : RR _ _ _ _ 32 _ _ _ _)
      refine R_icmp_ge (t := 48) dX11_passengers_32 rfl (fun c32 => ?_) (fun c32 => ?_)
      rotate_left
      · exfalso; omega
      refine R_aload_n dX11_passengers_48 rfl (?_ : RR _ _ _ _ 49 _ _ _ _)
      refine R_getr dX11_passengers_49 flX11_10 cok_11 rfl (by decide) (?_ : RR _ _ _ _ 52 _ _ _ _)
      refine R_iconst dX11_passengers_52 (?_ : RR _ _ _ _ 53 _ _ _ _)
      refine R_puti (zk := 1) dX11_passengers_53 flX11_91 cok_7 (by decide) (fun q hq => by cases hq; rfl) rfl (?_ : RR _ _ _ _ 56 _ _ _ _)
      refine R_iload_n dX11_passengers_56 rfl (?_ : RR _ _ _ _ 57 _ _ _ _)
      refine R_if_le (t := 79) dX11_passengers_57 rfl (fun c57 => ?_) (fun c57 => ?_)
      · exfalso; omega
      refine R_aload_n dX11_passengers_60 rfl (?_ : RR _ _ _ _ 61 _ _ _ _)
      refine R_getr dX11_passengers_61 flX11_36 cok_11 rfl (by decide) (?_ : RR _ _ _ _ 64 _ _ _ _)
      refine R_aload_n dX11_passengers_64 rfl (?_ : RR _ _ _ _ 65 _ _ _ _)
      refine R_getr dX11_passengers_65 flX11_29 cok_11 rfl (by decide) (?_ : RR _ _ _ _ 68 _ _ _ _)
      refine R_cVi1 dX11_passengers_68 mvX9_letOut mlX11_145 (by decide) (by decide) (Nat.le_of_ble_eq_true rfl) (Nat.le_of_ble_eq_true rfl) (hlo) (?_ : RR _ _ _ _ 71 _ _ _ _)
      refine R_pop dX11_passengers_71 (fun _ => rfl) (?_ : RR _ _ _ _ 72 _ _ _ _)
      refine R_aload_n dX11_passengers_72 rfl (?_ : RR _ _ _ _ 73 _ _ _ _)
      refine R_getr dX11_passengers_73 flX11_66 cok_11 rfl (by decide) (?_ : RR _ _ _ _ 76 _ _ _ _)
      refine R_cVv0 dX11_passengers_76 mvX1_forgetAll mlX11_122 (by decide) (by decide) (Nat.le_of_ble_eq_true rfl) (Nat.le_of_ble_eq_true rfl) (hfa) (?_ : RR _ _ _ _ 79 _ _ _ _)
      refine R_iload_n dX11_passengers_79 rfl (?_ : RR _ _ _ _ 80 _ _ _ _)
      exact R_ireturn dX11_passengers_80 trivial hq
    | succ j ih =>
      intro i h1 hi hf g2 g11 g12 g13 g18
      have hT := T_X11_addPassenger (h := h1) (np := np) (l := i) (hσ h1 g2 (hf 2 (by omega))) hσb (by rw [hf 3 (by omega)]; exact h3H) hH.2 (by rw [hf 14 (by omega)]; exact e2) x6 g11 (hg i (by omega)) (by omega)
      have IH := ih (i + 1) (rup (rup (rup (rup h1 11 (fup (h1 11) 0 ((np + i : Nat) + 1))) 12 (fup (h1 12) (np + i : Nat) (paWa σ i))) 13 (fup (h1 13) (np + i : Nat) (paRa σ i))) 18 (fup (h1 18) (np + i : Nat) (paCo σ i))) (by omega) (fun a q => by rw [rup_n (by omega), rup_n (by omega), rup_n (by omega), rup_n (by omega)]; exact hf a q) (by rw [rup_n (by omega), rup_n (by omega), rup_n (by omega), rup_n (by omega)]; exact g2) (by rw [rup_n (by omega), rup_n (by omega), rup_n (by omega), rup_s, fup_s]; omega) (by rw [rup_n (by omega), rup_n (by omega), rup_s, g12]; rfl) (by rw [rup_n (by omega), rup_s, g13]; rfl) (by rw [rup_s, g18]; rfl)
      generalize rup (rup (rup (rup h1 11 (fup (h1 11) 0 ((np + i : Nat) + 1))) 12 (fup (h1 12) (np + i : Nat) (paWa σ i))) 13 (fup (h1 13) (np + i : Nat) (paRa σ i))) 18 (fup (h1 18) (np + i : Nat) (paCo σ i)) = h5 at hT IH
      refine R_iload_n dX11_passengers_30 rfl (?_ : RR _ _ _ _ 31 _ _ _ _)
      refine R_iload_n dX11_passengers_31 rfl (?_ : RR _ _ _ _ 32 _ _ _ _)
      refine R_icmp_ge (t := 48) dX11_passengers_32 rfl (fun c32 => ?_) (fun c32 => ?_)
      · exfalso; omega
      refine R_aload_n dX11_passengers_35 rfl (?_ : RR _ _ _ _ 36 _ _ _ _)
      refine R_iconst dX11_passengers_36 (?_ : RR _ _ _ _ 37 _ _ _ _)
      refine R_iload_n dX11_passengers_37 rfl (?_ : RR _ _ _ _ 38 _ _ _ _)
      refine R_imul dX11_passengers_38 (?_ : RR _ _ _ _ 39 _ _ _ _)
      refine R_cVv1 dX11_passengers_39 mvX11_addPassenger mlX11_142 (by decide) (by decide) (Nat.le_of_ble_eq_true rfl) (Nat.le_of_ble_eq_true rfl) (hT) (?_ : RR _ _ _ _ 42 _ _ _ _)
      refine R_iinc dX11_passengers_42 rfl (Nat.le_of_ble_eq_true rfl) (?_ : RR _ _ _ _ 45 [_, _, _] _ _ _)
      refine R_goto (t := 30) dX11_passengers_45 rfl (?_ : RR _ _ _ _ 30 _ _ _ _)
      exact IH
  have hb := T_X7_boundBy (h := h) (m := 47)
  rw [h1n] at hb
  have e1 : rup h 1 (fup (h 1) 2 (min (n : Int) 47)) 1 1 = n := by rw [rup_s, fup_n (by omega)]; exact h1n
  have L0 := L m 0 (rup h 1 (fup (h 1) 2 (min (n : Int) 47))) (by omega) (fun a q => rup_n (by omega)) (by rw [rup_s, fup_s]) (by rw [rup_n (by omega)]; exact h11) (by rw [rup_n (by omega)]; rfl) (by rw [rup_n (by omega)]; rfl) (by rw [rup_n (by omega)]; rfl)
  refine R_aload_n dX11_passengers_0 rfl (?_ : RR _ _ _ _ 1 _ _ _ _)
  refine R_getr dX11_passengers_1 flX11_10 cok_11 rfl (by decide) (?_ : RR _ _ _ _ 4 _ _ _ _)
  refine R_bipush dX11_passengers_4 rfl (?_ : RR _ _ _ _ 6 _ _ _ _)
  refine R_cVv1 dX11_passengers_6 mvX7_boundBy mlX11_99 (by decide) (by decide) (Nat.le_of_ble_eq_true rfl) (Nat.le_of_ble_eq_true rfl) (hb) (?_ : RR _ _ _ _ 9 _ _ _ _)
  refine R_aload_n dX11_passengers_9 rfl (?_ : RR _ _ _ _ 10 _ _ _ _)
  refine R_getr dX11_passengers_10 flX11_10 cok_11 rfl (by decide) (?_ : RR _ _ _ _ 13 _ _ _ _)
  refine R_geti (z := 1) dX11_passengers_13 flX11_91 cok_7 rfl (by decide) rfl (fun q13 => (?_ : RR _ _ _ _ 16 _ _ _ _))
  rw [e1] at q13 ⊢
  refine R_if_ne (t := 23) dX11_passengers_16 rfl (fun c16 => ?_) (fun c16 => ?_)
  rotate_left
  · exfalso; omega
  refine R_aload_n dX11_passengers_23 rfl (?_ : RR _ _ _ _ 24 _ _ _ _)
  refine R_cVi0 dX11_passengers_24 mvX11_checkPassengers mlX11_139 (by decide) (by decide) (Nat.le_of_ble_eq_true rfl) (Nat.le_of_ble_eq_true rfl) (hck) (?_ : RR _ _ _ _ 27 _ _ _ _)
  refine R_istore_n dX11_passengers_27 (Nat.le_of_ble_eq_true rfl) (?_ : RR _ _ _ _ 28 [_, _, _] _ _ _)
  refine R_iconst dX11_passengers_28 (?_ : RR _ _ _ _ 29 _ _ _ _)
  refine R_istore_n dX11_passengers_29 (Nat.le_of_ble_eq_true rfl) (?_ : RR _ _ _ _ 30 [_, _, _] _ _ _)
  exact L0
end CP2
