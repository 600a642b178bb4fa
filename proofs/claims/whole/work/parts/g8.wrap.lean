/-! the law's wrappers -/
def wr (z : Int) : Int := (Int32.ofInt z).toInt
theorem wr64 (z : Int) : r64 (wr z) := by
  have h1 := Int32.le_toInt (Int32.ofInt z)
  have h2 := Int32.toInt_lt (Int32.ofInt z)
  unfold wr
  omega
theorem R_i2lw {M : PMt} {d kc ks pc : Nat} {ls st : List PV} {g : PH} {Q : Option PV → PH → Prop} {a : Int} (hd : decode M.2.1 pc = .ok (.i2l, 1)) (k : RR M d kc ks (pc + 1) ls (pL (wr a) :: st) g Q) : RR M d kc ks pc ls (pI a :: st) g Q :=
  RR.of (fun hF _ k => lv_i2l hF.1 hF.2.1 hd (by
    have e := i2l_of (a := wr a) ⟨by have := Int32.le_toInt (Int32.ofInt a); unfold wr; omega, by have := Int32.toInt_lt (Int32.ofInt a); unfold wr; omega⟩
    unfold wr at e ⊢
    rw [Int32.ofInt_toInt] at e
    exact e) k) k
theorem G_i2lw {sc : SC} {M : PMt} {d kc ks pc : Nat} {ls st : List PV} {g : PH} {Q : Option PV → PH → Prop} {a : Int} (hd : decode M.2.1 pc = .ok (.i2l, 1)) (k : RG sc M d kc ks (pc + 1) ls (pL (wr a) :: st) g Q) : RG sc M d kc ks pc ls (pI a :: st) g Q :=
  RG.of (fun hF _ k => lv_i2l hF.1 hF.2.1 hd (by
    have e := i2l_of (a := wr a) ⟨by have := Int32.le_toInt (Int32.ofInt a); unfold wr; omega, by have := Int32.toInt_lt (Int32.ofInt a); unfold wr; omega⟩
    unfold wr at e ⊢
    rw [Int32.ofInt_toInt] at e
    exact e) k) k
def wq (h : Nat → Int → Int) (v : Int) (ok : Prop) (r : Option PV) (g' : PH) : Prop := ∃ h1, g' = (shp0, rf0, h1) ∧ ((ok ∧ r = some (pI 0) ∧ ∃ h0, cqF h h0 ∧ h0 145 = h 145 ∧ h0 146 = h 146 ∧ h1 = rup h0 178 (fup (h0 178) 0 v)) ∨ (¬ ok ∧ r = some (pI 1) ∧ h1 = h))
theorem clL_13 : Cond.classLink RL 13 nsX ∈ tblG := by decide +kernel
section WRP
variable {sc : SC} {k H np nc len : Nat} {sem : Sem} {h : Nat → Int → Int}
theorem W_halt {i w : Int} (hs : SRx k h sem H np nc len) (hi : r32 i) (hw : r32 w) : RG (sc.1, sc.2.1, tableOf [(0, 10, 13, 13)]) mL_halt 8 1 6 0 (pm_ent [pR 0, pI i, pI w, pR 178] 5) [] (shp0, rf0, h) (wq h (wr (hlZ h nc i w)) ((0 ≤ i ∧ i < H) ∧ 0 ≤ w ∧ w ≤ 5)) := by
  show RG _ _ _ _ _ _ [pR 0, pI i, pI w, pR 178, pU] _ _ _
  by_cases hv : (0 ≤ i ∧ i < H) ∧ 0 ≤ w ∧ w ≤ 5
  · refine RG.mono (a := 1) (b := 6) (kc := 0) (ks := 0) (RG.up ?_)
    have hC := C_haltA hs hv.1 hv.2
    have hr := wr64 (hlZ h nc i w)
    refine R_aload_n dL_halt_0 rfl (?_ : RR _ _ _ _ 1 _ _ _ _)
    refine R_iconst dL_halt_1 (?_ : RR _ _ _ _ 2 _ _ _ _)
    refine R_aload_n dL_halt_2 rfl (?_ : RR _ _ _ _ 3 _ _ _ _)
    refine R_iload_n dL_halt_3 rfl (?_ : RR _ _ _ _ 4 _ _ _ _)
    refine R_iload_n dL_halt_4 rfl (?_ : RR _ _ _ _ 5 _ _ _ _)
    refine R_qV2 dL_halt_5 mvX11_halt mlL_7 (by decide) (by decide) (Nat.le_of_ble_eq_true rfl) (Nat.le_of_ble_eq_true rfl) (hC) (fun r9 g9 hq9 => (?_ : RR _ _ _ _ 8 _ _ _ _))
    obtain ⟨h0, rfl, rfl, f1, f2, f3⟩ := hq9
    refine R_i2lw dL_halt_8 (?_ : RR _ _ _ _ 9 _ _ _ _)
    refine R_last dL_halt_9 (?_ : RR _ _ _ _ 10 _ _ _ _)
    refine R_goto (t := 17) dL_halt_10 rfl (?_ : RR _ _ _ _ 17 _ _ _ _)
    refine R_iconst dL_halt_17 (?_ : RR _ _ _ _ 18 _ _ _ _)
    exact R_ireturn dL_halt_18 trivial ⟨_, rfl, Or.inl ⟨hv, rfl, _, f1, f2, f3, rfl⟩⟩
  · refine G_aload_n dL_halt_0 rfl (?_ : RG _ _ _ _ _ 1 _ _ _ _)
    refine G_iconst dL_halt_1 (?_ : RG _ _ _ _ _ 2 _ _ _ _)
    refine G_aload_n dL_halt_2 rfl (?_ : RG _ _ _ _ _ 3 _ _ _ _)
    refine G_iload_n dL_halt_3 rfl (?_ : RG _ _ _ _ _ 4 _ _ _ _)
    refine G_iload_n dL_halt_4 rfl (?_ : RG _ _ _ _ _ 5 _ _ _ _)
    exact G_callX (kc := 0) (ks := 0) (d2 := 6) (n := 2) (As := [pI i, pI w]) (st := [pI 0, pR 178]) (x := ⟨0, 10, 13, 13⟩) dL_halt_5 mvX11_halt mlL_7 rfl rfl (Nat.le_of_ble_eq_true rfl) (by decide) rfl (fun E l => pm_metX (sc := (sc.1, sc.2.1, tableOf [(0, 10, 13, 13)])) (t := 24) (i := 0) (dd := 6) (X_halt hs hi hw hv) (Nat.le_of_ble_eq_true rfl) mvX11_halt.1 rfl (fun _ z => z) (by decide) (Nat.le_refl _) (Nat.le_refl _) dX11_halt_24 dX11_halt_27 (Or.inl ⟨dX11_halt_28, dX11_halt_30, dX11_halt_33⟩) E l) rfl (by decide) (by decide) clL_13 (hst_a dL_halt_13 (by decide)) (G_iconst dL_halt_15 (G_ireturn dL_halt_16 trivial ⟨h, rfl, Or.inr ⟨hv, rfl, rfl⟩⟩))
theorem W_coach {i w : Int} (hs : SRx k h sem H np nc len) (hi : r32 i) (hw : r32 w) : RG (sc.1, sc.2.1, tableOf [(0, 10, 13, 13)]) mL_coach 8 1 6 0 (pm_ent [pR 0, pI i, pI w, pR 178] 5) [] (shp0, rf0, h) (wq h (wr (coZZ (cxM sem h np nc) (h 154) i.toNat w)) ((0 ≤ i ∧ i < nc) ∧ 0 ≤ w ∧ w ≤ 6)) := by
  show RG _ _ _ _ _ _ [pR 0, pI i, pI w, pR 178, pU] _ _ _
  by_cases hv : (0 ≤ i ∧ i < nc) ∧ 0 ≤ w ∧ w ≤ 6
  · refine RG.mono (a := 1) (b := 6) (kc := 0) (ks := 0) (RG.up ?_)
    have hC := C_coachA (c := i.toNat) hs (by omega) hv.2
    rw [show ((i.toNat : Nat) : Int) = i by omega] at hC
    have hr := wr64 (coZZ (cxM sem h np nc) (h 154) i.toNat w)
    refine R_aload_n dL_coach_0 rfl (?_ : RR _ _ _ _ 1 _ _ _ _)
    refine R_iconst dL_coach_1 (?_ : RR _ _ _ _ 2 _ _ _ _)
    refine R_aload_n dL_coach_2 rfl (?_ : RR _ _ _ _ 3 _ _ _ _)
    refine R_iload_n dL_coach_3 rfl (?_ : RR _ _ _ _ 4 _ _ _ _)
    refine R_iload_n dL_coach_4 rfl (?_ : RR _ _ _ _ 5 _ _ _ _)
    refine R_qV2 dL_coach_5 mvX11_coach mlL_15 (by decide) (by decide) (Nat.le_of_ble_eq_true rfl) (Nat.le_of_ble_eq_true rfl) (hC) (fun r9 g9 hq9 => (?_ : RR _ _ _ _ 8 _ _ _ _))
    obtain ⟨h0, rfl, rfl, f1, f2, f3⟩ := hq9
    refine R_i2lw dL_coach_8 (?_ : RR _ _ _ _ 9 _ _ _ _)
    refine R_last dL_coach_9 (?_ : RR _ _ _ _ 10 _ _ _ _)
    refine R_goto (t := 17) dL_coach_10 rfl (?_ : RR _ _ _ _ 17 _ _ _ _)
    refine R_iconst dL_coach_17 (?_ : RR _ _ _ _ 18 _ _ _ _)
    exact R_ireturn dL_coach_18 trivial ⟨_, rfl, Or.inl ⟨hv, rfl, _, f1, f2, f3, rfl⟩⟩
  · refine G_aload_n dL_coach_0 rfl (?_ : RG _ _ _ _ _ 1 _ _ _ _)
    refine G_iconst dL_coach_1 (?_ : RG _ _ _ _ _ 2 _ _ _ _)
    refine G_aload_n dL_coach_2 rfl (?_ : RG _ _ _ _ _ 3 _ _ _ _)
    refine G_iload_n dL_coach_3 rfl (?_ : RG _ _ _ _ _ 4 _ _ _ _)
    refine G_iload_n dL_coach_4 rfl (?_ : RG _ _ _ _ _ 5 _ _ _ _)
    exact G_callX (kc := 0) (ks := 0) (d2 := 6) (n := 2) (As := [pI i, pI w]) (st := [pI 0, pR 178]) (x := ⟨0, 10, 13, 13⟩) dL_coach_5 mvX11_coach mlL_15 rfl rfl (Nat.le_of_ble_eq_true rfl) (by decide) rfl (fun E l => pm_metX (sc := (sc.1, sc.2.1, tableOf [(0, 10, 13, 13)])) (t := 21) (i := 1) (dd := 6) (X_coach hs hi hw hv) (Nat.le_of_ble_eq_true rfl) mvX11_coach.1 rfl (fun _ z => z) (by decide) (Nat.le_refl _) (Nat.le_refl _) dX11_coach_21 dX11_coach_24 (Or.inl ⟨dX11_coach_25, dX11_coach_27, dX11_coach_30⟩) E l) rfl (by decide) (by decide) clL_13 (hst_a dL_coach_13 (by decide)) (G_iconst dL_coach_15 (G_ireturn dL_coach_16 trivial ⟨h, rfl, Or.inr ⟨hv, rfl, rfl⟩⟩))
theorem W_passenger {i w : Int} (hs : SRx k h sem H np nc len) (hi : r32 i) (hw : r32 w) : RG (sc.1, sc.2.1, tableOf [(0, 10, 13, 13)]) mL_passenger 8 1 6 0 (pm_ent [pR 0, pI i, pI w, pR 178] 5) [] (shp0, rf0, h) (wq h (wr (paZZ (cxM sem h np nc) (h 154) i.toNat w)) ((0 ≤ i ∧ i < np) ∧ 0 ≤ w ∧ w ≤ 4)) := by
  show RG _ _ _ _ _ _ [pR 0, pI i, pI w, pR 178, pU] _ _ _
  by_cases hv : (0 ≤ i ∧ i < np) ∧ 0 ≤ w ∧ w ≤ 4
  · refine RG.mono (a := 1) (b := 6) (kc := 0) (ks := 0) (RG.up ?_)
    have hC := C_passA (p := i.toNat) hs (by omega) hv.2
    rw [show ((i.toNat : Nat) : Int) = i by omega] at hC
    have hr := wr64 (paZZ (cxM sem h np nc) (h 154) i.toNat w)
    refine R_aload_n dL_passenger_0 rfl (?_ : RR _ _ _ _ 1 _ _ _ _)
    refine R_iconst dL_passenger_1 (?_ : RR _ _ _ _ 2 _ _ _ _)
    refine R_aload_n dL_passenger_2 rfl (?_ : RR _ _ _ _ 3 _ _ _ _)
    refine R_iload_n dL_passenger_3 rfl (?_ : RR _ _ _ _ 4 _ _ _ _)
    refine R_iload_n dL_passenger_4 rfl (?_ : RR _ _ _ _ 5 _ _ _ _)
    refine R_qV2 dL_passenger_5 mvX11_passenger mlL_18 (by decide) (by decide) (Nat.le_of_ble_eq_true rfl) (Nat.le_of_ble_eq_true rfl) (hC) (fun r9 g9 hq9 => (?_ : RR _ _ _ _ 8 _ _ _ _))
    obtain ⟨h0, rfl, rfl, f1, f2, f3⟩ := hq9
    refine R_i2lw dL_passenger_8 (?_ : RR _ _ _ _ 9 _ _ _ _)
    refine R_last dL_passenger_9 (?_ : RR _ _ _ _ 10 _ _ _ _)
    refine R_goto (t := 17) dL_passenger_10 rfl (?_ : RR _ _ _ _ 17 _ _ _ _)
    refine R_iconst dL_passenger_17 (?_ : RR _ _ _ _ 18 _ _ _ _)
    exact R_ireturn dL_passenger_18 trivial ⟨_, rfl, Or.inl ⟨hv, rfl, _, f1, f2, f3, rfl⟩⟩
  · refine G_aload_n dL_passenger_0 rfl (?_ : RG _ _ _ _ _ 1 _ _ _ _)
    refine G_iconst dL_passenger_1 (?_ : RG _ _ _ _ _ 2 _ _ _ _)
    refine G_aload_n dL_passenger_2 rfl (?_ : RG _ _ _ _ _ 3 _ _ _ _)
    refine G_iload_n dL_passenger_3 rfl (?_ : RG _ _ _ _ _ 4 _ _ _ _)
    refine G_iload_n dL_passenger_4 rfl (?_ : RG _ _ _ _ _ 5 _ _ _ _)
    exact G_callX (kc := 0) (ks := 0) (d2 := 6) (n := 2) (As := [pI i, pI w]) (st := [pI 0, pR 178]) (x := ⟨0, 10, 13, 13⟩) dL_passenger_5 mvX11_passenger mlL_18 rfl rfl (Nat.le_of_ble_eq_true rfl) (by decide) rfl (fun E l => pm_metX (sc := (sc.1, sc.2.1, tableOf [(0, 10, 13, 13)])) (t := 20) (i := 2) (dd := 6) (X_pass hs hi hw hv) (Nat.le_of_ble_eq_true rfl) mvX11_passenger.1 rfl (fun _ z => z) (by decide) (Nat.le_refl _) (Nat.le_refl _) dX11_passenger_20 dX11_passenger_23 (Or.inl ⟨dX11_passenger_24, dX11_passenger_26, dX11_passenger_29⟩) E l) rfl (by decide) (by decide) clL_13 (hst_a dL_passenger_13 (by decide)) (G_iconst dL_passenger_15 (G_ireturn dL_passenger_16 trivial ⟨h, rfl, Or.inr ⟨hv, rfl, rfl⟩⟩))
theorem W_row {n : Nat} {i : Int} (hn : h 145 1 = n) (hn12 : n ≤ 12) (hr : r64 (h 146 i)) (hi : r32 i) : RG (sc.1, sc.2.1, tableOf [(0, 8, 11, 13)]) mL_row 8 1 6 0 (pm_ent [pR 0, pI i, pR 178] 4) [] (shp0, rf0, h) (wq h (h 146 i) (0 ≤ i ∧ i < n)) := by
  show RG _ _ _ _ _ _ [pR 0, pI i, pR 178, pU] _ _ _
  by_cases hv : 0 ≤ i ∧ i < n
  · refine RG.mono (a := 1) (b := 6) (kc := 0) (ks := 0) (RG.up ?_)
    have hC := C_rowA hn hn12 hv
    refine R_aload_n dL_row_0 rfl (?_ : RR _ _ _ _ 1 _ _ _ _)
    refine R_iconst dL_row_1 (?_ : RR _ _ _ _ 2 _ _ _ _)
    refine R_aload_n dL_row_2 rfl (?_ : RR _ _ _ _ 3 _ _ _ _)
    refine R_iload_n dL_row_3 rfl (?_ : RR _ _ _ _ 4 _ _ _ _)
    refine R_qV1 dL_row_4 mvX11_row mlL_21 (by decide) (by decide) (Nat.le_of_ble_eq_true rfl) (Nat.le_of_ble_eq_true rfl) (hC) (fun r9 g9 hq9 => (?_ : RR _ _ _ _ 7 _ _ _ _))
    obtain ⟨h0, rfl, rfl, f1, f2, f3⟩ := hq9
    refine R_last dL_row_7 (?_ : RR _ _ _ _ 8 _ _ _ _)
    refine R_goto (t := 14) dL_row_8 rfl (?_ : RR _ _ _ _ 14 _ _ _ _)
    refine R_iconst dL_row_14 (?_ : RR _ _ _ _ 15 _ _ _ _)
    exact R_ireturn dL_row_15 trivial ⟨_, rfl, Or.inl ⟨hv, rfl, _, f1, f2, f3, rfl⟩⟩
  · refine G_aload_n dL_row_0 rfl (?_ : RG _ _ _ _ _ 1 _ _ _ _)
    refine G_iconst dL_row_1 (?_ : RG _ _ _ _ _ 2 _ _ _ _)
    refine G_aload_n dL_row_2 rfl (?_ : RG _ _ _ _ _ 3 _ _ _ _)
    refine G_iload_n dL_row_3 rfl (?_ : RG _ _ _ _ _ 4 _ _ _ _)
    exact G_callX (kc := 0) (ks := 0) (d2 := 6) (n := 1) (As := [pI i]) (st := [pI 0, pR 178]) (x := ⟨0, 8, 11, 13⟩) dL_row_4 mvX11_row mlL_21 rfl rfl (Nat.le_of_ble_eq_true rfl) (by decide) rfl (fun E l => pm_metX (sc := (sc.1, sc.2.1, tableOf [(0, 8, 11, 13)])) (t := 15) (i := 3) (dd := 6) (X_row hn hn12 hi hv) (Nat.le_of_ble_eq_true rfl) mvX11_row.1 rfl (fun _ z => z) (by decide) (Nat.le_refl _) (Nat.le_refl _) dX11_row_15 dX11_row_18 (Or.inr ⟨dX11_row_19, dX11_row_22, dX11_row_25⟩) E l) rfl (by decide) (by decide) clL_13 (hst_an dL_row_11 (by decide)) (G_iconst dL_row_12 (G_ireturn dL_row_13 trivial ⟨h, rfl, Or.inr ⟨hv, rfl, rfl⟩⟩))
end WRP
