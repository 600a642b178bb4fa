section NE6
variable {k : Nat} {h h1 h2 h3 h4 : Nat → Int → Int} {sem : Sem} {H0 H np nc len n b : Nat} {σ : Int → Int}
/-- what the class's net holds when it has come -/
def cnN (σ : Int → Int) (H : Nat) (h h2 : Nat → Int → Int) : Prop := (∀ a, ¬ (a = 1 ∨ (3 ≤ a ∧ a ≤ 9) ∨ a = 11 ∨ a = 14 ∨ a = 44 ∨ a = 47 ∨ a = 138 ∨ a = 139) → h2 a = h a) ∧ h2 1 1 = 0 ∧ h2 3 0 = H ∧ (∀ e : Nat, e < 2 * H → h2 4 e = (neT σ H (neS σ e (neR σ H e).1).1).1 ∧ h2 5 e = (neT σ H (neS σ e (neR σ H e).1).1).2) ∧ exB (h2 4) ∧ miB (h2 5) ∧ h2 6 = wAll H (h2 4) (h2 5) (h 6) ∧ exB (h2 8) ∧ miB (h2 9) ∧ h2 11 0 = 0 ∧ (∀ j : Int, 0 ≤ j → j < 4 → h2 14 j = 0) ∧ h2 44 3 = 0 ∧ h2 44 4 = h 44 4 ∧ (∀ i : Nat, i < 3 → h2 47 i = 0) ∧ h2 138 0 = 0 ∧ h2 138 1 = 0 ∧ ∀ j : Int, 0 ≤ j → j < 13 → h2 139 j = 511
theorem C_net {Q : Option PV → PH → Prop} (h1n : h 1 1 = n) (hn80 : n ≤ 80) (hH9 : 1 ≤ H ∧ H ≤ 9) (hbd : bnd (h 6)) (hrd : RR mX0_read 3 0 0 0 (pm_ent [pR 7, pR 1] 5) [] (shp0, rf0, rup h 1 (fup (h 1) 2 (min (n : Int) 46))) (fun r' g' => r' = some (pI H) ∧ ∃ h2, g' = (shp0, rf0, h2) ∧ nrF (rup h 1 (fup (h 1) 2 (min (n : Int) 46))) h2 H ∧ nrE σ H (2 * H) h2)) (hQ : ∀ h2, cnN σ H h h2 → Q (some (pI H)) (shp0, rf0, h2)) : RR mX11_net 4 0 0 0 (pm_ent [pR 0] 2) [] (shp0, rf0, h) Q := by
  show RR _ _ _ _ _ [pR 0, pU] _ _ _
  have n3 := isNet_3
  have n7 := isNet_7
  have t14 := isTr_14
  have hb := T_X7_boundBy (h := h) (m := 46)
  rw [h1n] at hb
  have K20 : ∀ h5 : Nat → Int → Int, nrF (rup h 1 (fup (h 1) 2 (min (n : Int) 46))) h5 H → nrE σ H (2 * H) h5 → RR mX11_net 4 0 0 20 [pR 0, pU] [pI H] (shp0, rf0, h5) Q := by
    intro h5 f5 hE
    obtain ⟨h6, h6e⟩ : ∃ h6, h6 = rup h5 1 (fup (h5 1) 1 0) := ⟨_, rfl⟩
    have x6 : ∀ a, a ≠ 1 → h6 a = h5 a := fun a a1 => by rw [h6e, rup_n a1]
    have fr : ∀ a, a ≠ 1 → a ≠ 7 → a ≠ 8 → a ≠ 9 → h6 a = h a := fun a a1 a2 a3 a4 => by rw [x6 a a1, f5.1 a a2 a3 a4, rup_n a1]
    have g70 : h6 7 0 = H := by rw [x6 7 (by omega)]; exact f5.2.1
    have hcp := T_X0_copyFrom (t := 3) (o := 7) (h := h6)
    rw [g70] at hcp
    obtain ⟨h7, h7e⟩ : ∃ h7, h7 = rup (rup (rup h6 3 (fup (h6 3) 0 H)) (3 + 1) (cpy (h6 (7 + 1)) (h6 (3 + 1)) 18)) (3 + 2) (cpy (h6 (7 + 2)) (h6 (3 + 2)) 18) := ⟨_, rfl⟩
    rw [← h7e] at hcp
    have x7 : ∀ a, ¬ (3 ≤ a ∧ a ≤ 5) → h7 a = h6 a := fun a q => by rw [h7e, rup_n (by omega), rup_n (by omega), rup_n (by omega)]
    have g3 : h7 3 0 = H := by rw [h7e, rup_n (by omega), rup_n (by omega), rup_s, fup_s]
    have g4 : h7 4 = cpy (h6 8) (h6 4) 18 := by rw [h7e, rup_n (by omega)]; exact rup_s
    have g5 : h7 5 = cpy (h6 9) (h6 5) 18 := by rw [h7e]; exact rup_s
    have E4 : exB (h7 4) := fun z z0 z1 => by rw [g4, cpy_in (by omega), x6 8 (by omega)]; exact f5.2.2.1 z z0 z1
    have M5 : miB (h7 5) := fun z z0 z1 => by rw [g5, cpy_in (by omega), x6 9 (by omega)]; exact f5.2.2.2 z z0 z1
    have e6 : h7 6 = h 6 := by rw [x7 6 (by omega)]; exact fr 6 (by omega) (by omega) (by omega) (by omega)
    have hme := T_X0_measure (t := 3) (H := H) (h := h7) g3 E4 M5 (by rw [show h7 (3 + 3) = h7 6 from rfl, e6]; exact hbd)
    rw [show h7 (3 + 3) = h7 6 from rfl, e6] at hme
    obtain ⟨h8, h8e⟩ : ∃ h8, h8 = rup h7 (3 + 3) (wAll H (h7 (3 + 1)) (h7 (3 + 2)) (h 6)) := ⟨_, rfl⟩
    rw [← h8e] at hme
    have x8 : ∀ a, a ≠ 6 → h8 a = h7 a := fun a q => by rw [h8e, rup_n (by omega)]
    have g6 : h8 6 = wAll H (h7 4) (h7 5) (h 6) := by rw [h8e]; exact rup_s
    have hem := T_X9_empty (t := 14) (h := h8)
    obtain ⟨h9, h9e⟩ : ∃ h9, h9 = rup h8 14 (fup (fup (fup (fup (h8 14) 0 0) 1 0) 2 0) 3 0) := ⟨_, rfl⟩
    rw [← h9e] at hem
    obtain ⟨h10, h10e⟩ : ∃ h10, h10 = rup h9 11 (fup (h9 11) 0 0) := ⟨_, rfl⟩
    have hcl := T_X6_clear (h := h10)
    obtain ⟨h11, h11e⟩ : ∃ h11, h11 = rup (rup h10 138 (fup (fup (h10 138) 0 0) 1 0)) 139 (fil 511 (h10 139) 13) := ⟨_, rfl⟩
    rw [← h11e] at hcl
    have hfa := T_X1_forgetAll (h := h11)
    obtain ⟨h12, h12e⟩ : ∃ h12, h12 = rup (rup h11 44 (fup (h11 44) 3 0)) 47 (fup (fup (fup (h11 47) 0 0) 1 0) 2 0) := ⟨_, rfl⟩
    rw [← h12e] at hfa
    have y : ∀ a, ¬ (a = 11 ∨ a = 14 ∨ a = 44 ∨ a = 47 ∨ a = 138 ∨ a = 139) → h12 a = h8 a := fun a q => by rw [h12e, rup_n (by omega), rup_n (by omega), h11e, rup_n (by omega), rup_n (by omega), h10e, rup_n (by omega), h9e, rup_n (by omega)]
    have y4 : h12 4 = h7 4 := by rw [y 4 (by omega)]; exact x8 4 (by omega)
    have y5 : h12 5 = h7 5 := by rw [y 5 (by omega)]; exact x8 5 (by omega)
    have hq := hQ h12 ⟨fun a q => by rw [y a (by omega), x8 a (by omega), x7 a (by omega)]; exact fr a (by omega) (by omega) (by omega) (by omega), by rw [y 1 (by omega), x8 1 (by omega), x7 1 (by omega), h6e, rup_s, fup_s], by rw [y 3 (by omega), x8 3 (by omega)]; exact g3, fun e he => by
      rw [y4, y5, g4, g5, cpy_in (by omega), cpy_in (by omega), x6 8 (by omega), x6 9 (by omega)]; exact hE e he, by rw [y4]; exact E4, by rw [y5]; exact M5, by rw [y4, y5, y 6 (by omega)]; exact g6, by rw [y 8 (by omega), x8 8 (by omega), x7 8 (by omega), x6 8 (by omega)]; exact f5.2.2.1, by rw [y 9 (by omega), x8 9 (by omega), x7 9 (by omega), x6 9 (by omega)]; exact f5.2.2.2, by rw [h12e, rup_n (by omega), rup_n (by omega), h11e, rup_n (by omega), rup_n (by omega), h10e, rup_s, fup_s], fun j j0 j1 => by
      rw [h12e, rup_n (by omega), rup_n (by omega), h11e, rup_n (by omega), rup_n (by omega), h10e, rup_n (by omega), h9e, rup_s]
      have : j = 0 ∨ j = 1 ∨ j = 2 ∨ j = 3 := by omega
      rcases this with rfl | rfl | rfl | rfl <;> simp (disch := omega) only [fup_n, fup_s], by rw [h12e, rup_n (by omega), rup_s, fup_s], by rw [h12e, rup_n (by omega), rup_s, fup_n (by omega), h11e, rup_n (by omega), rup_n (by omega), h10e, rup_n (by omega), h9e, rup_n (by omega), x8 44 (by omega), x7 44 (by omega), fr 44 (by omega) (by omega) (by omega) (by omega)], fun i hi => by
      rw [h12e, rup_s]
      have : i = 0 ∨ i = 1 ∨ i = 2 := by omega
      rcases this with rfl | rfl | rfl
      · rw [fup_n (by omega), fup_n (by omega)]; exact fup_s
      · rw [fup_n (by omega)]; exact fup_s
      · exact fup_s, by rw [h12e, rup_n (by omega), rup_n (by omega), h11e, rup_n (by omega), rup_s, fup_n (by omega), fup_s], by rw [h12e, rup_n (by omega), rup_n (by omega), h11e, rup_n (by omega), rup_s, fup_s], fun j j0 j1 => by
      rw [h12e, rup_n (by omega), rup_n (by omega), h11e, rup_s]; exact if_pos (by omega)⟩
    clear hQ y fr x6 x7 x8 hE
    refine R_istore_n dX11_net_20 (Nat.le_of_ble_eq_true rfl) (?_ : RR _ _ _ _ 21 [_, _] _ _ _)
    refine R_aload_n dX11_net_21 rfl (?_ : RR _ _ _ _ 22 _ _ _ _)
    refine R_getr dX11_net_22 flX11_10 cok_11 rfl (by decide) (?_ : RR _ _ _ _ 25 _ _ _ _)
    refine R_iconst dX11_net_25 (?_ : RR _ _ _ _ 26 _ _ _ _)
    refine R_puti (zk := 1) dX11_net_26 flX11_91 cok_7 (by decide) (fun q hq => by cases hq; rfl) rfl (?_ : RR _ _ _ _ 29 _ _ _ _)
    rw [← h6e]
    refine R_iload_n dX11_net_29 rfl (?_ : RR _ _ _ _ 30 _ _ _ _)
    refine R_if_le (t := 80) dX11_net_30 rfl (fun c30 => ?_) (fun c30 => ?_)
    · exfalso; omega
    refine R_aload_n dX11_net_33 rfl (?_ : RR _ _ _ _ 34 _ _ _ _)
    refine R_getr dX11_net_34 flX11_19 cok_11 rfl (by decide) (?_ : RR _ _ _ _ 37 _ _ _ _)
    refine R_aload_n dX11_net_37 rfl (?_ : RR _ _ _ _ 38 _ _ _ _)
    refine R_getr dX11_net_38 flX11_23 cok_11 rfl (by decide) (?_ : RR _ _ _ _ 41 _ _ _ _)
    refine R_cVv1 dX11_net_41 mvX0_copyFrom mlX11_106 (by decide) (by decide) (Nat.le_of_ble_eq_true rfl) (Nat.le_of_ble_eq_true rfl) (hcp) (?_ : RR _ _ _ _ 44 _ _ _ _)
    refine R_aload_n dX11_net_44 rfl (?_ : RR _ _ _ _ 45 _ _ _ _)
    refine R_getr dX11_net_45 flX11_19 cok_11 rfl (by decide) (?_ : RR _ _ _ _ 48 _ _ _ _)
    refine R_cVv0 dX11_net_48 mvX0_measure mlX11_110 (by decide) (by decide) (Nat.le_of_ble_eq_true rfl) (Nat.le_of_ble_eq_true rfl) (hme) (?_ : RR _ _ _ _ 51 _ _ _ _)
    refine R_aload_n dX11_net_51 rfl (?_ : RR _ _ _ _ 52 _ _ _ _)
    refine R_getr dX11_net_52 flX11_36 cok_11 rfl (by decide) (?_ : RR _ _ _ _ 55 _ _ _ _)
    refine R_cVv0 dX11_net_55 mvX9_empty mlX11_113 (by decide) (by decide) (Nat.le_of_ble_eq_true rfl) (Nat.le_of_ble_eq_true rfl) (hem) (?_ : RR _ _ _ _ 58 _ _ _ _)
    refine R_aload_n dX11_net_58 rfl (?_ : RR _ _ _ _ 59 _ _ _ _)
    refine R_getr dX11_net_59 flX11_29 cok_11 rfl (by decide) (?_ : RR _ _ _ _ 62 _ _ _ _)
    refine R_iconst dX11_net_62 (?_ : RR _ _ _ _ 63 _ _ _ _)
    refine R_puti (zk := 0) dX11_net_63 flX11_116 cok_2 (by decide) (fun q hq => by cases hq; rfl) rfl (?_ : RR _ _ _ _ 66 _ _ _ _)
    rw [← h10e]
    refine R_aload_n dX11_net_66 rfl (?_ : RR _ _ _ _ 67 _ _ _ _)
    refine R_getr dX11_net_67 flX11_73 cok_11 rfl (by decide) (?_ : RR _ _ _ _ 70 _ _ _ _)
    refine R_cVv0 dX11_net_70 mvX6_clear mlX11_119 (by decide) (by decide) (Nat.le_of_ble_eq_true rfl) (Nat.le_of_ble_eq_true rfl) (hcl) (?_ : RR _ _ _ _ 73 _ _ _ _)
    refine R_aload_n dX11_net_73 rfl (?_ : RR _ _ _ _ 74 _ _ _ _)
    refine R_getr dX11_net_74 flX11_66 cok_11 rfl (by decide) (?_ : RR _ _ _ _ 77 _ _ _ _)
    refine R_cVv0 dX11_net_77 mvX1_forgetAll mlX11_122 (by decide) (by decide) (Nat.le_of_ble_eq_true rfl) (Nat.le_of_ble_eq_true rfl) (hfa) (?_ : RR _ _ _ _ 80 _ _ _ _)
    refine R_iload_n dX11_net_80 rfl (?_ : RR _ _ _ _ 81 _ _ _ _)
    exact R_ireturn dX11_net_81 trivial hq
  refine R_aload_n dX11_net_0 rfl (?_ : RR _ _ _ _ 1 _ _ _ _)
  refine R_getr dX11_net_1 flX11_10 cok_11 rfl (by decide) (?_ : RR _ _ _ _ 4 _ _ _ _)
  refine R_bipush dX11_net_4 rfl (?_ : RR _ _ _ _ 6 _ _ _ _)
  refine R_cVv1 dX11_net_6 mvX7_boundBy mlX11_99 (by decide) (by decide) (Nat.le_of_ble_eq_true rfl) (Nat.le_of_ble_eq_true rfl) (hb) (?_ : RR _ _ _ _ 9 _ _ _ _)
  refine R_aload_n dX11_net_9 rfl (?_ : RR _ _ _ _ 10 _ _ _ _)
  refine R_getr dX11_net_10 flX11_23 cok_11 rfl (by decide) (?_ : RR _ _ _ _ 13 _ _ _ _)
  refine R_aload_n dX11_net_13 rfl (?_ : RR _ _ _ _ 14 _ _ _ _)
  refine R_getr dX11_net_14 flX11_10 cok_11 rfl (by decide) (?_ : RR _ _ _ _ 17 _ _ _ _)
  refine R_qV1 dX11_net_17 mvX0_read mlX11_102 (by decide) (by decide) (Nat.le_of_ble_eq_true rfl) (Nat.le_of_ble_eq_true rfl) (hrd) (fun r9 g9 hq9 => (?_ : RR _ _ _ _ 20 _ _ _ _))
  obtain ⟨rfl, h5, rfl, f5, e5⟩ := hq9
  show RR _ _ _ _ _ _ [pI H] _ _
  exact K20 h5 f5 e5
end NE6
