section NE5
variable {k : Nat} {h h1 h2 h3 h4 : Nat → Int → Int} {sem : Sem} {H0 H np nc len n b : Nat} {σ : Int → Int}
theorem T_X0_read_no (hσ : ∀ p : Int, 0 ≤ p → signAt h p = σ p) (hσb : ∀ p : Int, -1 ≤ σ p ∧ σ p ≤ 255) (hq : ¬ (49 ≤ σ 0 ∧ σ 0 < 58)) : MT mX0_read 3 [pR 7, pR 1] h (some (pI (-1))) h := by
  refine MT.of (fun Q hQ => (?_ : RR mX0_read _ _ _ _ [pR 7, pR 1, pU, pU, pU] _ _ _))
  have N1 := T_X7_numberAt (h := h) (p := 0) (f := 49) (m := 9) (by rw [hσ _ (by omega)]; exact hσb _)
  unfold numAt at N1
  rw [hσ _ (by omega), if_neg (by omega)] at N1
  refine R_aload_n dX0_read_0 rfl (?_ : RR _ _ _ _ 1 _ _ _ _)
  refine R_iconst dX0_read_1 (?_ : RR _ _ _ _ 2 _ _ _ _)
  refine R_bipush dX0_read_2 rfl (?_ : RR _ _ _ _ 4 _ _ _ _)
  refine R_bipush dX0_read_4 rfl (?_ : RR _ _ _ _ 6 _ _ _ _)
  refine R_cVi3 dX0_read_6 mvX7_numberAt mlX0_31 (by decide) (by decide) (Nat.le_of_ble_eq_true rfl) (Nat.le_of_ble_eq_true rfl) (N1) (?_ : RR _ _ _ _ 9 _ _ _ _)
  refine R_iconst dX0_read_9 (?_ : RR _ _ _ _ 10 _ _ _ _)
  refine R_iadd dX0_read_10 (?_ : RR _ _ _ _ 11 _ _ _ _)
  refine R_istore_n dX0_read_11 (Nat.le_of_ble_eq_true rfl) (?_ : RR _ _ _ _ 12 [_, _, _, _, _] _ _ _)
  refine R_iload_n dX0_read_12 rfl (?_ : RR _ _ _ _ 13 _ _ _ _)
  refine R_iconst dX0_read_13 (?_ : RR _ _ _ _ 14 _ _ _ _)
  refine R_icmp_ge (t := 19) dX0_read_14 rfl (fun c14 => ?_) (fun c14 => ?_)
  · exfalso; omega
  refine R_iconst dX0_read_17 (?_ : RR _ _ _ _ 18 _ _ _ _)
  exact R_ireturn dX0_read_18 trivial hQ
theorem C_read {Q : Option PV → PH → Prop} (hσ : ∀ p : Int, 0 ≤ p → signAt h p = σ p) (hσb : ∀ p : Int, -1 ≤ σ p ∧ σ p ≤ 255) (h1n : h 1 1 = n) (hn80 : n ≤ 80) (hq : 49 ≤ σ 0 ∧ σ 0 < 58) (hH : (H : Int) = σ 0 - 48) (hx8 : exB (h 8)) (hm9 : miB (h 9)) (hfl : ∀ h2, nrF h h2 H → ((neR σ H (2 * H)).2 = false ∨ (neR σ H (2 * H)).1 ≠ n) → Q (some (pI (-1 - ((neR σ H (2 * H)).1 : Int)))) (shp0, rf0, h2)) (hon : ∀ h2, nrF h h2 H → nrE σ H (2 * H) h2 → (neR σ H (2 * H)).2 = true → (neR σ H (2 * H)).1 = n → Q (some (pI H)) (shp0, rf0, h2)) : RR mX0_read 3 0 0 0 (pm_ent [pR 7, pR 1] 5) [] (shp0, rf0, h) Q := by
  show RR _ _ _ _ _ [pR 7, pR 1, pU, pU, pU] _ _ _
  have n7 := isNet_7
  have N1 := T_X7_numberAt (h := h) (p := 0) (f := 49) (m := 9) (by rw [hσ _ (by omega)]; exact hσb _)
  unfold numAt at N1
  rw [hσ _ (by omega), if_pos (by omega)] at N1
  have K := RD_29 (h := h) (Q := Q) hσ hσb h1n hn80 (by omega) hfl hon (2 * H) 0 (rup h 7 (fup (h 7) 0 H)) (by omega) ⟨fun a a1 a2 a3 => rup_n a1, by rw [rup_s, fup_s], by rw [rup_n (by omega)]; exact hx8, by rw [rup_n (by omega)]; exact hm9⟩ (fun e he => by omega) rfl
  have K : RR mX0_read 3 0 0 29 [pR 7, pR 1, pI H, pI 1, pI 0] [] (shp0, rf0, rup h 7 (fup (h 7) 0 H)) Q := K
  refine R_aload_n dX0_read_0 rfl (?_ : RR _ _ _ _ 1 _ _ _ _)
  refine R_iconst dX0_read_1 (?_ : RR _ _ _ _ 2 _ _ _ _)
  refine R_bipush dX0_read_2 rfl (?_ : RR _ _ _ _ 4 _ _ _ _)
  refine R_bipush dX0_read_4 rfl (?_ : RR _ _ _ _ 6 _ _ _ _)
  refine R_cVi3 dX0_read_6 mvX7_numberAt mlX0_31 (by decide) (by decide) (Nat.le_of_ble_eq_true rfl) (Nat.le_of_ble_eq_true rfl) (N1) (?_ : RR _ _ _ _ 9 _ _ _ _)
  refine R_iconst dX0_read_9 (?_ : RR _ _ _ _ 10 _ _ _ _)
  refine R_iadd dX0_read_10 (?_ : RR _ _ _ _ 11 _ _ _ _)
  rw [show σ 0 - 49 + 1 = (H : Int) by omega]
  refine R_istore_n dX0_read_11 (Nat.le_of_ble_eq_true rfl) (?_ : RR _ _ _ _ 12 [_, _, _, _, _] _ _ _)
  refine R_iload_n dX0_read_12 rfl (?_ : RR _ _ _ _ 13 _ _ _ _)
  refine R_iconst dX0_read_13 (?_ : RR _ _ _ _ 14 _ _ _ _)
  refine R_icmp_ge (t := 19) dX0_read_14 rfl (fun c14 => ?_) (fun c14 => ?_)
  rotate_left
  · exfalso; omega
  refine R_aload_n dX0_read_19 rfl (?_ : RR _ _ _ _ 20 _ _ _ _)
  refine R_iload_n dX0_read_20 rfl (?_ : RR _ _ _ _ 21 _ _ _ _)
  refine R_puti (zk := 0) dX0_read_21 flX0_9 cok_0 (by decide) (fun q hq => by cases hq; rfl) rfl (?_ : RR _ _ _ _ 24 _ _ _ _)
  refine R_iconst dX0_read_24 (?_ : RR _ _ _ _ 25 _ _ _ _)
  refine R_istore_n dX0_read_25 (Nat.le_of_ble_eq_true rfl) (?_ : RR _ _ _ _ 26 [_, _, _, _, _] _ _ _)
  refine R_iconst dX0_read_26 (?_ : RR _ _ _ _ 27 _ _ _ _)
  refine R_istore dX0_read_27 (Nat.le_of_ble_eq_true rfl) (?_ : RR _ _ _ _ 29 [_, _, _, _, _] _ _ _)
  exact K
/-- the class: a fault -/
theorem C_net_no {r : Int} {Q : Option PV → PH → Prop} (h1n : h 1 1 = n) (hn80 : n ≤ 80) (hr : r < 0) (hrb : -1000 ≤ r) (hrd : RR mX0_read 3 0 0 0 (pm_ent [pR 7, pR 1] 5) [] (shp0, rf0, rup h 1 (fup (h 1) 2 (min (n : Int) 46))) (fun r' g' => r' = some (pI r) ∧ ∃ h2, g' = (shp0, rf0, h2) ∧ (∀ a, a ≠ 7 → a ≠ 8 → a ≠ 9 → h2 a = rup h 1 (fup (h 1) 2 (min (n : Int) 46)) a) ∧ exB (h2 8) ∧ miB (h2 9))) (hQ : ∀ h2, (∀ a, a ≠ 1 → a ≠ 7 → a ≠ 8 → a ≠ 9 → h2 a = h a) → h2 1 1 = 0 → exB (h2 8) → miB (h2 9) → Q (some (pI r)) (shp0, rf0, h2)) : RR mX11_net 4 0 0 0 (pm_ent [pR 0] 2) [] (shp0, rf0, h) Q := by
  show RR _ _ _ _ _ [pR 0, pU] _ _ _
  have hb := T_X7_boundBy (h := h) (m := 46)
  rw [h1n] at hb
  have K20 : ∀ h5 : Nat → Int → Int, (∀ a, a ≠ 7 → a ≠ 8 → a ≠ 9 → h5 a = rup h 1 (fup (h 1) 2 (min (n : Int) 46)) a) → exB (h5 8) → miB (h5 9) → RR mX11_net 4 0 0 20 [pR 0, pU] [pI r] (shp0, rf0, h5) Q := by
    intro h5 f5 e8 e9
    have hq := hQ (rup h5 1 (fup (h5 1) 1 0)) (fun a a1 a2 a3 a4 => by rw [rup_n a1, f5 a a2 a3 a4, rup_n a1]) (by rw [rup_s, fup_s]) (by rw [rup_n (by omega)]; exact e8) (by rw [rup_n (by omega)]; exact e9)
    refine R_istore_n dX11_net_20 (Nat.le_of_ble_eq_true rfl) (?_ : RR _ _ _ _ 21 [_, _] _ _ _)
    refine R_aload_n dX11_net_21 rfl (?_ : RR _ _ _ _ 22 _ _ _ _)
    refine R_getr dX11_net_22 flX11_10 cok_11 rfl (by decide) (?_ : RR _ _ _ _ 25 _ _ _ _)
    refine R_iconst dX11_net_25 (?_ : RR _ _ _ _ 26 _ _ _ _)
    refine R_puti (zk := 1) dX11_net_26 flX11_91 cok_7 (by decide) (fun q hq => by cases hq; rfl) rfl (?_ : RR _ _ _ _ 29 _ _ _ _)
    refine R_iload_n dX11_net_29 rfl (?_ : RR _ _ _ _ 30 _ _ _ _)
    refine R_if_le (t := 80) dX11_net_30 rfl (fun c30 => ?_) (fun c30 => ?_)
    rotate_left
    · exfalso; omega
    refine R_iload_n dX11_net_80 rfl (?_ : RR _ _ _ _ 81 _ _ _ _)
    exact R_ireturn dX11_net_81 trivial hq
  refine R_aload_n dX11_net_0 rfl (?_ : RR _ _ _ _ 1 _ _ _ _)
  refine R_getr dX11_net_1 flX11_10 cok_11 rfl (by decide) (?_ : RR _ _ _ _ 4 _ _ _ _)
  refine R_bipush dX11_net_4 rfl (?_ : RR _ _ _ _ 6 _ _ _ _)
  refine R_cVv1 dX11_net_6 mvX7_boundBy mlX11_99 (by decide) (by decide) (Nat.le_of_ble_eq_true rfl) (Nat.le_of_ble_eq_true rfl) (hb) (?_ : RR _ _ _ _ 9 _ _ _ _)
  refine R_aload_n dX11_net_9 rfl (?_ : RR _ _ _ _ 10 _ _ _ _)
  refine R_getr dX11_net_10 flX11_23 cok_11 rfl (by decide) (?_ : RR _ _ _ _ 13 _ _ _ _)
  refine R_aload_n dX11_net_13 rfl (?_ : RR _ _ _ _ 14 _ _ _ _)
  refine R_getr dX11_net_14 flX11_10 cok_11 rfl (by decide) (?_ : RR _ _ _ _ 17 _ _ _ _)
  refine R_qV1 dX11_net_17 mvX0_read mlX11_102 (by decide) (by decide) (Nat.le_of_ble_eq_true rfl) (Nat.le_of_ble_eq_true rfl) (hrd) (fun r9 g9 hq9 => (?_ : RR _ _ _ _ 20 _ _ _ _))
  obtain ⟨rfl, h5, rfl, f5, e8, e9⟩ := hq9
  show RR _ _ _ _ _ _ [pI r] _ _
  exact K20 h5 f5 e8 e9
end NE5
