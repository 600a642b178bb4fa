/-! where halt, coach, passenger, row refuse: the place of the throw -/
section REF
variable {sc : SC} {k H np nc len : Nat} {sem : Sem} {h h2 : Nat → Int → Int}
theorem G_cVi1 {M M2 : PMt} {d d2 pc idx : Nat} {ls st : List PV} {Q : Option PV → PH → Prop} {v : Int} {x1 : PV} {a ci n0 : Nat} (hd : decode M.2.1 pc = .ok (.invokevirtual idx, 3)) (hm : pm_mv M2 ci 1) (hlk : Cond.methodLink M.1.cls idx M2.1 ∈ tblG) (hl : ci < 50) (hdd : d2 + 1 ≤ d) (hcat : pm_cat st ≤ 8) (hlen : (pm_sl (pR a :: [x1])).length ≤ M2.2.2.1) (hcall : MT M2 d2 (pR a :: [x1]) h (some (pI v)) h2) (kk : RG sc M d 0 0 (pc + 3) ls (pI v :: st) (shp0, rf0, h2) Q) (hc : shp0[a]? = some (ci, n0) := by first | assumption | rfl) : RG sc M d 0 0 pc ls (x1 :: pR a :: st) (shp0, rf0, h) Q :=
  G_callV (kc := 0) (ks := 0) (kc2 := 0) (ks2 := 0) (As := [x1]) hd hm hlk rfl rfl hcat hlen hdd hl hc hcall (fun r g' q _ => by obtain ⟨rfl, rfl⟩ := q; exact kk)
theorem X_halt {i w : Int} (hs : SRx k h sem H np nc len) (hi : r32 i) (hw : r32 w) (hv : ¬ ((0 ≤ i ∧ i < H) ∧ 0 ≤ w ∧ w ≤ 5)) : RG sc mX11_halt 6 0 0 0 (pm_ent [pR 0, pI i, pI w] 3) [] (shp0, rf0, h) (fun r g' => r = some (pR (5000 + 24)) ∧ g' = (shp0, rf0, h)) := by
  show RG _ _ _ _ _ _ [pR 0, pI i, pI w] _ _ _
  have hH := sRH hs
  have n3 := isNet_3
  have h3H : h 3 0 = H := hs.1.2.2.2.1
  refine G_iload_n dX11_halt_0 rfl (?_ : RG _ _ _ _ _ 1 _ _ _ _)
  refine G_if_lt (t := 24) dX11_halt_1 rfl (fun c1 => ?_) (fun c1 => ?_)
  · exact G_stop ⟨rfl, rfl⟩
  · refine G_iload_n dX11_halt_4 rfl (?_ : RG _ _ _ _ _ 5 _ _ _ _)
    refine G_aload_n dX11_halt_5 rfl (?_ : RG _ _ _ _ _ 6 _ _ _ _)
    refine G_getr dX11_halt_6 flX11_19 cok_11 rfl (by decide) (?_ : RG _ _ _ _ _ 9 _ _ _ _)
    refine G_geti (z := 0) dX11_halt_9 flX11_129 cok_0 rfl (by decide) rfl (fun q9 => (?_ : RG _ _ _ _ _ 12 _ _ _ _))
    rw [h3H] at q9 ⊢
    refine G_icmp_ge (t := 24) dX11_halt_12 rfl (fun c12 => ?_) (fun c12 => ?_)
    · exact G_stop ⟨rfl, rfl⟩
    · refine G_iload_n dX11_halt_15 rfl (?_ : RG _ _ _ _ _ 16 _ _ _ _)
      refine G_if_lt (t := 24) dX11_halt_16 rfl (fun c16 => ?_) (fun c16 => ?_)
      · exact G_stop ⟨rfl, rfl⟩
      · refine G_iload_n dX11_halt_19 rfl (?_ : RG _ _ _ _ _ 20 _ _ _ _)
        refine G_iconst dX11_halt_20 (?_ : RG _ _ _ _ _ 21 _ _ _ _)
        refine G_icmp_le (t := 34) dX11_halt_21 rfl (fun c21 => ?_) (fun c21 => ?_)
        · exfalso; omega
        · exact G_stop ⟨rfl, rfl⟩
theorem X_coach {c w : Int} (hs : SRx k h sem H np nc len) (hi : r32 c) (hw : r32 w) (hv : ¬ ((0 ≤ c ∧ c < nc) ∧ 0 ≤ w ∧ w ≤ 6)) : RG sc mX11_coach 6 0 0 0 (pm_ent [pR 0, pI c, pI w] 4) [] (shp0, rf0, h) (fun r g' => r = some (pR (5000 + 21)) ∧ g' = (shp0, rf0, h)) := by
  show RG _ _ _ _ _ _ [pR 0, pI c, pI w, pU] _ _ _
  have x6 := sR6 hs
  have t14 := isTr_14
  have e2 : h 14 2 = nc := hs.2.2.2.1.1.2.2.2.1
  have hT := T_X9_has (h := h) (t := 14) (c := c)
  rw [e2] at hT
  by_cases y : 0 ≤ c ∧ c < nc
  · rw [if_pos y] at hT
    refine G_aload_n dX11_coach_0 rfl (?_ : RG _ _ _ _ _ 1 _ _ _ _)
    refine G_getr dX11_coach_1 flX11_36 cok_11 rfl (by decide) (?_ : RG _ _ _ _ _ 4 _ _ _ _)
    refine G_iload_n dX11_coach_4 rfl (?_ : RG _ _ _ _ _ 5 _ _ _ _)
    refine G_cVi1 dX11_coach_5 mvX9_has mlX11_174 (by decide) (by decide) (Nat.le_of_ble_eq_true rfl) (Nat.le_of_ble_eq_true rfl) (hT) (?_ : RG _ _ _ _ _ 8 _ _ _ _)
    refine G_if_eq (t := 21) dX11_coach_8 rfl (fun c8 => ?_) (fun c8 => ?_)
    · exfalso; omega
    refine G_iload_n dX11_coach_11 rfl (?_ : RG _ _ _ _ _ 12 _ _ _ _)
    refine G_if_lt (t := 21) dX11_coach_12 rfl (fun c12 => ?_) (fun c12 => ?_)
    · exact G_stop ⟨rfl, rfl⟩
    · refine G_iload_n dX11_coach_15 rfl (?_ : RG _ _ _ _ _ 16 _ _ _ _)
      refine G_bipush dX11_coach_16 rfl (?_ : RG _ _ _ _ _ 18 _ _ _ _)
      refine G_icmp_le (t := 31) dX11_coach_18 rfl (fun c18 => ?_) (fun c18 => ?_)
      · exfalso; omega
      · exact G_stop ⟨rfl, rfl⟩
  · rw [if_neg y] at hT
    refine G_aload_n dX11_coach_0 rfl (?_ : RG _ _ _ _ _ 1 _ _ _ _)
    refine G_getr dX11_coach_1 flX11_36 cok_11 rfl (by decide) (?_ : RG _ _ _ _ _ 4 _ _ _ _)
    refine G_iload_n dX11_coach_4 rfl (?_ : RG _ _ _ _ _ 5 _ _ _ _)
    refine G_cVi1 dX11_coach_5 mvX9_has mlX11_174 (by decide) (by decide) (Nat.le_of_ble_eq_true rfl) (Nat.le_of_ble_eq_true rfl) (hT) (?_ : RG _ _ _ _ _ 8 _ _ _ _)
    refine G_if_eq (t := 21) dX11_coach_8 rfl (fun c8 => ?_) (fun c8 => ?_)
    rotate_left
    · exfalso; omega
    exact G_stop ⟨rfl, rfl⟩
theorem X_pass {c w : Int} (hs : SRx k h sem H np nc len) (hi : r32 c) (hw : r32 w) (hv : ¬ ((0 ≤ c ∧ c < np) ∧ 0 ≤ w ∧ w ≤ 4)) : RG sc mX11_passenger 6 0 0 0 (pm_ent [pR 0, pI c, pI w] 4) [] (shp0, rf0, h) (fun r g' => r = some (pR (5000 + 20)) ∧ g' = (shp0, rf0, h)) := by
  show RG _ _ _ _ _ _ [pR 0, pI c, pI w, pU] _ _ _
  have x12 := sR12 hs
  have h11 : h 11 0 = np := hs.1.2.2.2.2.2.2.1.2.1.1
  have hT := T_X2_has (h := h) (c := c)
  rw [h11] at hT
  by_cases y : 0 ≤ c ∧ c < np
  · rw [if_pos y] at hT
    refine G_aload_n dX11_passenger_0 rfl (?_ : RG _ _ _ _ _ 1 _ _ _ _)
    refine G_getr dX11_passenger_1 flX11_29 cok_11 rfl (by decide) (?_ : RG _ _ _ _ _ 4 _ _ _ _)
    refine G_iload_n dX11_passenger_4 rfl (?_ : RG _ _ _ _ _ 5 _ _ _ _)
    refine G_cVi1 dX11_passenger_5 mvX2_has mlX11_202 (by decide) (by decide) (Nat.le_of_ble_eq_true rfl) (Nat.le_of_ble_eq_true rfl) (hT) (?_ : RG _ _ _ _ _ 8 _ _ _ _)
    refine G_if_eq (t := 20) dX11_passenger_8 rfl (fun c8 => ?_) (fun c8 => ?_)
    · exfalso; omega
    refine G_iload_n dX11_passenger_11 rfl (?_ : RG _ _ _ _ _ 12 _ _ _ _)
    refine G_if_lt (t := 20) dX11_passenger_12 rfl (fun c12 => ?_) (fun c12 => ?_)
    · exact G_stop ⟨rfl, rfl⟩
    · refine G_iload_n dX11_passenger_15 rfl (?_ : RG _ _ _ _ _ 16 _ _ _ _)
      refine G_iconst dX11_passenger_16 (?_ : RG _ _ _ _ _ 17 _ _ _ _)
      refine G_icmp_le (t := 30) dX11_passenger_17 rfl (fun c17 => ?_) (fun c17 => ?_)
      · exfalso; omega
      · exact G_stop ⟨rfl, rfl⟩
  · rw [if_neg y] at hT
    refine G_aload_n dX11_passenger_0 rfl (?_ : RG _ _ _ _ _ 1 _ _ _ _)
    refine G_getr dX11_passenger_1 flX11_29 cok_11 rfl (by decide) (?_ : RG _ _ _ _ _ 4 _ _ _ _)
    refine G_iload_n dX11_passenger_4 rfl (?_ : RG _ _ _ _ _ 5 _ _ _ _)
    refine G_cVi1 dX11_passenger_5 mvX2_has mlX11_202 (by decide) (by decide) (Nat.le_of_ble_eq_true rfl) (Nat.le_of_ble_eq_true rfl) (hT) (?_ : RG _ _ _ _ _ 8 _ _ _ _)
    refine G_if_eq (t := 20) dX11_passenger_8 rfl (fun c8 => ?_) (fun c8 => ?_)
    rotate_left
    · exfalso; omega
    exact G_stop ⟨rfl, rfl⟩
theorem X_row {n : Nat} {i : Int} (hn : h 145 1 = n) (hn12 : n ≤ 12) (hi : r32 i) (hv : ¬ (0 ≤ i ∧ i < n)) : RG sc mX11_row 6 0 0 0 (pm_ent [pR 0, pI i] 2) [] (shp0, rf0, h) (fun r g' => r = some (pR (5000 + 15)) ∧ g' = (shp0, rf0, h)) := by
  show RG _ _ _ _ _ _ [pR 0, pI i] _ _ _
  refine G_iload_n dX11_row_0 rfl (?_ : RG _ _ _ _ _ 1 _ _ _ _)
  refine G_if_lt (t := 15) dX11_row_1 rfl (fun c1 => ?_) (fun c1 => ?_)
  · exact G_stop ⟨rfl, rfl⟩
  · refine G_iload_n dX11_row_4 rfl (?_ : RG _ _ _ _ _ 5 _ _ _ _)
    refine G_aload_n dX11_row_5 rfl (?_ : RG _ _ _ _ _ 6 _ _ _ _)
    refine G_getr dX11_row_6 flX11_87 cok_11 rfl (by decide) (?_ : RG _ _ _ _ _ 9 _ _ _ _)
    refine G_geti (z := 1) dX11_row_9 flX11_429 cok_3 rfl (by decide) rfl (fun q9 => (?_ : RG _ _ _ _ _ 12 _ _ _ _))
    rw [hn] at q9 ⊢
    refine G_icmp_lt (t := 26) dX11_row_12 rfl (fun c12 => ?_) (fun c12 => ?_)
    · exfalso; omega
    · exact G_stop ⟨rfl, rfl⟩
end REF
