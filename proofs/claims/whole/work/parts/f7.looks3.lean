section LKP
variable {k : Nat} {h h1 h2 h3 h4 g : Nat → Int → Int} {sem : Sem} {H np nc len : Nat}
/-! passenger -/
def paZZ (X : Cx) (f : Int → Int) (p : Nat) (w : Int) : Int := if w = 0 then mS f p else if w = 1 then xW X p else if w = 2 then xR X p else if w = 3 then xV X f p else xWi X f p
theorem C_passA {p : Nat} {w : Int} (hs : SRx k h sem H np nc len) (hp : p < np) (hw : 0 ≤ w ∧ w ≤ 4) : RR mX11_passenger 6 0 0 0 (pm_ent [pR 0, pI p, pI w] 4) [] (shp0, rf0, h) (cq0 h (pI (paZZ (cxM sem h np nc) (h 154) p w))) := by
  show RR _ _ _ _ _ [pR 0, pI p, pI w, pU] _ _ _
  have x6 := sR6 hs
  have x12 := sR12 hs
  have t14 := isTr_14
  have hcp := hs.2.2.2.1.1
  have hRd := hs.1.2.2.2.2.2.2.1.2.1
  have h11 : h 11 0 = np := hRd.1
  obtain ⟨r1, r2⟩ := hRd.2 p hp
  obtain ⟨X, hX⟩ : ∃ X, X = cxM sem h np nc := ⟨_, rfl⟩
  have hXP : xP X = np := by rw [hX]; rfl
  have p1 := hcp.2.2.2.2.2.2.2 p hp
  have hT := T_X2_has (h := h) (c := (p : Int))
  rw [h11, if_pos (by omega)] at hT
  have hHd := C_held hs
  rw [← hX] at hHd r1 r2 ⊢
  have hq : ∀ z : Int, z = paZZ X (h 154) p w → ∀ h' : Nat → Int → Int, (∀ a, ¬ (a = 31 ∨ (37 ≤ a ∧ a ≤ 43)) → h' a = h a) → cq0 h (pI (paZZ X (h 154) p w)) (some (pI z)) (shp0, rf0, h') := fun z hz h' f => ⟨h', rfl, by rw [hz], fun a q => f a (by omega), f 145 (by omega), f 146 (by omega)⟩
  generalize cq0 h (pI (paZZ X (h 154) p w)) = QQ at *
  by_cases w0 : w = 0
  · subst w0
    have hq := hq (h 18 p) (by unfold paZZ; rw [if_pos rfl]; exact p1) h (fun _ _ => rfl)
    refine R_aload_n dX11_passenger_0 rfl (?_ : RR _ _ _ _ 1 _ _ _ _)
    refine R_getr dX11_passenger_1 flX11_29 cok_11 rfl (by decide) (?_ : RR _ _ _ _ 4 _ _ _ _)
    refine R_iload_n dX11_passenger_4 rfl (?_ : RR _ _ _ _ 5 _ _ _ _)
    refine R_cVi1 dX11_passenger_5 mvX2_has mlX11_202 (by decide) (by decide) (Nat.le_of_ble_eq_true rfl) (Nat.le_of_ble_eq_true rfl) (hT) (?_ : RR _ _ _ _ 8 _ _ _ _)
    refine R_if_eq (t := 20) dX11_passenger_8 rfl (fun c8 => ?_) (fun c8 => ?_)
    · exfalso; omega
    refine R_iload_n dX11_passenger_11 rfl (?_ : RR _ _ _ _ 12 _ _ _ _)
    refine R_if_lt (t := 20) dX11_passenger_12 rfl (fun c12 => ?_) (fun c12 => ?_)
    · exfalso; omega
    refine R_iload_n dX11_passenger_15 rfl (?_ : RR _ _ _ _ 16 _ _ _ _)
    refine R_iconst dX11_passenger_16 (?_ : RR _ _ _ _ 17 _ _ _ _)
    refine R_icmp_le (t := 30) dX11_passenger_17 rfl (fun c17 => ?_) (fun c17 => ?_)
    rotate_left
    · exfalso; omega
    refine R_iload_n dX11_passenger_30 rfl (?_ : RR _ _ _ _ 31 _ _ _ _)
    refine R_if_ne (t := 44) dX11_passenger_31 rfl (fun c31 => ?_) (fun c31 => ?_)
    · exfalso; omega
    refine R_aload_n dX11_passenger_34 rfl (?_ : RR _ _ _ _ 35 _ _ _ _)
    refine R_getr dX11_passenger_35 flX11_36 cok_11 rfl (by decide) (?_ : RR _ _ _ _ 38 _ _ _ _)
    refine R_getr dX11_passenger_38 flX11_205 cok_9 rfl (by decide) (?_ : RR _ _ _ _ 41 _ _ _ _)
    refine R_iload_n dX11_passenger_41 rfl (?_ : RR _ _ _ _ 42 _ _ _ _)
    refine R_iald dX11_passenger_42 (fun q42 => (?_ : RR _ _ _ _ 43 _ _ _ _))
    exact R_ireturn dX11_passenger_43 trivial hq
  · by_cases w1 : w = 1
    · subst w1
      have hq := hq (h 12 p) (by unfold paZZ; rw [if_neg (by omega), if_pos rfl]; exact r1) h (fun _ _ => rfl)
      refine R_aload_n dX11_passenger_0 rfl (?_ : RR _ _ _ _ 1 _ _ _ _)
      refine R_getr dX11_passenger_1 flX11_29 cok_11 rfl (by decide) (?_ : RR _ _ _ _ 4 _ _ _ _)
      refine R_iload_n dX11_passenger_4 rfl (?_ : RR _ _ _ _ 5 _ _ _ _)
      refine R_cVi1 dX11_passenger_5 mvX2_has mlX11_202 (by decide) (by decide) (Nat.le_of_ble_eq_true rfl) (Nat.le_of_ble_eq_true rfl) (hT) (?_ : RR _ _ _ _ 8 _ _ _ _)
      refine R_if_eq (t := 20) dX11_passenger_8 rfl (fun c8 => ?_) (fun c8 => ?_)
      · exfalso; omega
      refine R_iload_n dX11_passenger_11 rfl (?_ : RR _ _ _ _ 12 _ _ _ _)
      refine R_if_lt (t := 20) dX11_passenger_12 rfl (fun c12 => ?_) (fun c12 => ?_)
      · exfalso; omega
      refine R_iload_n dX11_passenger_15 rfl (?_ : RR _ _ _ _ 16 _ _ _ _)
      refine R_iconst dX11_passenger_16 (?_ : RR _ _ _ _ 17 _ _ _ _)
      refine R_icmp_le (t := 30) dX11_passenger_17 rfl (fun c17 => ?_) (fun c17 => ?_)
      rotate_left
      · exfalso; omega
      refine R_iload_n dX11_passenger_30 rfl (?_ : RR _ _ _ _ 31 _ _ _ _)
      refine R_if_ne (t := 44) dX11_passenger_31 rfl (fun c31 => ?_) (fun c31 => ?_)
      rotate_left
      · exfalso; omega
      refine R_iload_n dX11_passenger_44 rfl (?_ : RR _ _ _ _ 45 _ _ _ _)
      refine R_iconst dX11_passenger_45 (?_ : RR _ _ _ _ 46 _ _ _ _)
      refine R_icmp_ne (t := 59) dX11_passenger_46 rfl (fun c46 => ?_) (fun c46 => ?_)
      · exfalso; omega
      refine R_aload_n dX11_passenger_49 rfl (?_ : RR _ _ _ _ 50 _ _ _ _)
      refine R_getr dX11_passenger_50 flX11_29 cok_11 rfl (by decide) (?_ : RR _ _ _ _ 53 _ _ _ _)
      refine R_getr dX11_passenger_53 flX11_208 cok_2 rfl (by decide) (?_ : RR _ _ _ _ 56 _ _ _ _)
      refine R_iload_n dX11_passenger_56 rfl (?_ : RR _ _ _ _ 57 _ _ _ _)
      refine R_iald dX11_passenger_57 (fun q57 => (?_ : RR _ _ _ _ 58 _ _ _ _))
      exact R_ireturn dX11_passenger_58 trivial hq
    · by_cases w2 : w = 2
      · subst w2
        have hq := hq (h 13 p) (by unfold paZZ; rw [if_neg (by omega), if_neg (by omega), if_pos rfl]; exact r2) h (fun _ _ => rfl)
        refine R_aload_n dX11_passenger_0 rfl (?_ : RR _ _ _ _ 1 _ _ _ _)
        refine R_getr dX11_passenger_1 flX11_29 cok_11 rfl (by decide) (?_ : RR _ _ _ _ 4 _ _ _ _)
        refine R_iload_n dX11_passenger_4 rfl (?_ : RR _ _ _ _ 5 _ _ _ _)
        refine R_cVi1 dX11_passenger_5 mvX2_has mlX11_202 (by decide) (by decide) (Nat.le_of_ble_eq_true rfl) (Nat.le_of_ble_eq_true rfl) (hT) (?_ : RR _ _ _ _ 8 _ _ _ _)
        refine R_if_eq (t := 20) dX11_passenger_8 rfl (fun c8 => ?_) (fun c8 => ?_)
        · exfalso; omega
        refine R_iload_n dX11_passenger_11 rfl (?_ : RR _ _ _ _ 12 _ _ _ _)
        refine R_if_lt (t := 20) dX11_passenger_12 rfl (fun c12 => ?_) (fun c12 => ?_)
        · exfalso; omega
        refine R_iload_n dX11_passenger_15 rfl (?_ : RR _ _ _ _ 16 _ _ _ _)
        refine R_iconst dX11_passenger_16 (?_ : RR _ _ _ _ 17 _ _ _ _)
        refine R_icmp_le (t := 30) dX11_passenger_17 rfl (fun c17 => ?_) (fun c17 => ?_)
        rotate_left
        · exfalso; omega
        refine R_iload_n dX11_passenger_30 rfl (?_ : RR _ _ _ _ 31 _ _ _ _)
        refine R_if_ne (t := 44) dX11_passenger_31 rfl (fun c31 => ?_) (fun c31 => ?_)
        rotate_left
        · exfalso; omega
        refine R_iload_n dX11_passenger_44 rfl (?_ : RR _ _ _ _ 45 _ _ _ _)
        refine R_iconst dX11_passenger_45 (?_ : RR _ _ _ _ 46 _ _ _ _)
        refine R_icmp_ne (t := 59) dX11_passenger_46 rfl (fun c46 => ?_) (fun c46 => ?_)
        rotate_left
        · exfalso; omega
        refine R_iload_n dX11_passenger_59 rfl (?_ : RR _ _ _ _ 60 _ _ _ _)
        refine R_iconst dX11_passenger_60 (?_ : RR _ _ _ _ 61 _ _ _ _)
        refine R_icmp_ne (t := 74) dX11_passenger_61 rfl (fun c61 => ?_) (fun c61 => ?_)
        · exfalso; omega
        refine R_aload_n dX11_passenger_64 rfl (?_ : RR _ _ _ _ 65 _ _ _ _)
        refine R_getr dX11_passenger_65 flX11_29 cok_11 rfl (by decide) (?_ : RR _ _ _ _ 68 _ _ _ _)
        refine R_getr dX11_passenger_68 flX11_211 cok_2 rfl (by decide) (?_ : RR _ _ _ _ 71 _ _ _ _)
        refine R_iload_n dX11_passenger_71 rfl (?_ : RR _ _ _ _ 72 _ _ _ _)
        refine R_iald dX11_passenger_72 (fun q72 => (?_ : RR _ _ _ _ 73 _ _ _ _))
        exact R_ireturn dX11_passenger_73 trivial hq
      · have K78 : ∀ h' : Nat → Int → Int, heldP X (h 154) h h' → RR mX11_passenger 6 0 0 78 [pR 0, pI p, pI w, pU] [pR 36] (shp0, rf0, h') QQ := by
          intro h' hh
          obtain ⟨a1, a2, a3, a4⟩ := hh
          obtain ⟨b1, b2⟩ := a2 p (by rw [hXP]; exact hp)
          by_cases w3 : w = 3
          · subst w3
            have hq := hq (h' 37 p) (by rw [b1]; unfold paZZ; rw [if_neg (by omega), if_neg (by omega), if_neg (by omega), if_pos rfl]) h' a1
            clear a2 a3 a4 b1 b2 hHd
            refine R_astore_n dX11_passenger_78 (Nat.le_of_ble_eq_true rfl) (?_ : RR _ _ _ _ 79 [_, _, _, _] _ _ _)
            refine R_iload_n dX11_passenger_79 rfl (?_ : RR _ _ _ _ 80 _ _ _ _)
            refine R_iconst dX11_passenger_80 (?_ : RR _ _ _ _ 81 _ _ _ _)
            refine R_icmp_ne (t := 93) dX11_passenger_81 rfl (fun c81 => ?_) (fun c81 => ?_)
            · exfalso; omega
            refine R_aload_n dX11_passenger_84 rfl (?_ : RR _ _ _ _ 85 _ _ _ _)
            refine R_getr dX11_passenger_85 flX11_214 cok_10 rfl (by decide) (?_ : RR _ _ _ _ 88 _ _ _ _)
            refine R_iload_n dX11_passenger_88 rfl (?_ : RR _ _ _ _ 89 _ _ _ _)
            refine R_iald dX11_passenger_89 (fun q89 => (?_ : RR _ _ _ _ 90 _ _ _ _))
            refine R_goto (t := 99) dX11_passenger_90 rfl (?_ : RR _ _ _ _ 99 _ _ _ _)
            exact R_ireturn dX11_passenger_99 trivial hq
          · have hq := hq (h' 38 p) (by rw [b2]; unfold paZZ; rw [if_neg w0, if_neg w1, if_neg w2, if_neg w3]) h' a1
            clear a2 a3 a4 b1 b2 hHd
            refine R_astore_n dX11_passenger_78 (Nat.le_of_ble_eq_true rfl) (?_ : RR _ _ _ _ 79 [_, _, _, _] _ _ _)
            refine R_iload_n dX11_passenger_79 rfl (?_ : RR _ _ _ _ 80 _ _ _ _)
            refine R_iconst dX11_passenger_80 (?_ : RR _ _ _ _ 81 _ _ _ _)
            refine R_icmp_ne (t := 93) dX11_passenger_81 rfl (fun c81 => ?_) (fun c81 => ?_)
            rotate_left
            · exfalso; omega
            refine R_aload_n dX11_passenger_93 rfl (?_ : RR _ _ _ _ 94 _ _ _ _)
            refine R_getr dX11_passenger_94 flX11_217 cok_10 rfl (by decide) (?_ : RR _ _ _ _ 97 _ _ _ _)
            refine R_iload_n dX11_passenger_97 rfl (?_ : RR _ _ _ _ 98 _ _ _ _)
            refine R_iald dX11_passenger_98 (fun q98 => (?_ : RR _ _ _ _ 99 _ _ _ _))
            exact R_ireturn dX11_passenger_99 trivial hq
        refine R_aload_n dX11_passenger_0 rfl (?_ : RR _ _ _ _ 1 _ _ _ _)
        refine R_getr dX11_passenger_1 flX11_29 cok_11 rfl (by decide) (?_ : RR _ _ _ _ 4 _ _ _ _)
        refine R_iload_n dX11_passenger_4 rfl (?_ : RR _ _ _ _ 5 _ _ _ _)
        refine R_cVi1 dX11_passenger_5 mvX2_has mlX11_202 (by decide) (by decide) (Nat.le_of_ble_eq_true rfl) (Nat.le_of_ble_eq_true rfl) (hT) (?_ : RR _ _ _ _ 8 _ _ _ _)
        refine R_if_eq (t := 20) dX11_passenger_8 rfl (fun c8 => ?_) (fun c8 => ?_)
        · exfalso; omega
        refine R_iload_n dX11_passenger_11 rfl (?_ : RR _ _ _ _ 12 _ _ _ _)
        refine R_if_lt (t := 20) dX11_passenger_12 rfl (fun c12 => ?_) (fun c12 => ?_)
        · exfalso; omega
        refine R_iload_n dX11_passenger_15 rfl (?_ : RR _ _ _ _ 16 _ _ _ _)
        refine R_iconst dX11_passenger_16 (?_ : RR _ _ _ _ 17 _ _ _ _)
        refine R_icmp_le (t := 30) dX11_passenger_17 rfl (fun c17 => ?_) (fun c17 => ?_)
        rotate_left
        · exfalso; omega
        refine R_iload_n dX11_passenger_30 rfl (?_ : RR _ _ _ _ 31 _ _ _ _)
        refine R_if_ne (t := 44) dX11_passenger_31 rfl (fun c31 => ?_) (fun c31 => ?_)
        rotate_left
        · exfalso; omega
        refine R_iload_n dX11_passenger_44 rfl (?_ : RR _ _ _ _ 45 _ _ _ _)
        refine R_iconst dX11_passenger_45 (?_ : RR _ _ _ _ 46 _ _ _ _)
        refine R_icmp_ne (t := 59) dX11_passenger_46 rfl (fun c46 => ?_) (fun c46 => ?_)
        rotate_left
        · exfalso; omega
        refine R_iload_n dX11_passenger_59 rfl (?_ : RR _ _ _ _ 60 _ _ _ _)
        refine R_iconst dX11_passenger_60 (?_ : RR _ _ _ _ 61 _ _ _ _)
        refine R_icmp_ne (t := 74) dX11_passenger_61 rfl (fun c61 => ?_) (fun c61 => ?_)
        rotate_left
        · exfalso; omega
        refine R_aload_n dX11_passenger_74 rfl (?_ : RR _ _ _ _ 75 _ _ _ _)
        refine R_qV0 dX11_passenger_75 mvX11_heldVote mlX11_190 (by decide) (by decide) (Nat.le_of_ble_eq_true rfl) (Nat.le_of_ble_eq_true rfl) (hHd) (fun r9 g9 hq9 => (?_ : RR _ _ _ _ 78 _ _ _ _))
        obtain ⟨rfl, h9, rfl, hh⟩ := hq9
        show RR _ _ _ _ _ _ [pR 36] _ _
        exact K78 h9 hh
theorem M_passA {c w : Int} (hs : SRx k h sem H np nc len) (e3 : ∀ a, 147 ≤ a → h3 a = h a) (hc : r32 c) (hw : r32 w) : RR mX12_passenger 6 0 0 0 (pm_ent [pR 147, pI c, pI w] 4) [] (shp0, rf0, h3) (if (0 ≤ c ∧ c < np) ∧ 0 ≤ w ∧ w ≤ 4 then mq0 h3 (pI (paZZ (cxM sem h np nc) (h 154) c.toNat w)) 0 else mq0 h3 (pI 0) 1) := by
  show RR _ _ _ _ _ [pR 147, pI c, pI w, pU] _ _ _
  have x6 := sR6 hs
  have x12 := sR12 hs
  have r154 := isRw_154
  have hcp := hs.2.2.2.1.1
  have h5p : h3 147 5 = np := by rw [e3 147 (by omega)]; exact hs.1.2.2.1
  obtain ⟨h5, h5e⟩ : ∃ h5, h5 = rup h3 147 (fup (h3 147) 0 0) := ⟨_, rfl⟩
  have j5 : ∀ j : Int, j ≠ 0 → h5 147 j = h3 147 j := fun j j1 => by rw [h5e, rup_s, fup_n j1]
  have f5 : ∀ a, 147 < a → h5 a = h a := fun a a1 => by rw [h5e, rup_n (by omega)]; exact e3 a (by omega)
  have hI := T_X12_isPassenger (h := h5) (c := c) (by rw [j5 5 (by omega)]; omega) hc
  rw [j5 5 (by omega), h5p] at hI
  have hIn := T_X12_in (h := h5) (v := w) (a := 0) (b := 4)
  have hR : mq0 h3 (pI 0) 1 (some (pI 0)) (shp0, rf0, rup h5 147 (fup (h5 147) 0 1)) := mq0_i 0 1 (by rw [h5e, rup_s, rup_rup, fup_fup])
  have hRf := T_X12_refuse (h := h5)
  by_cases q1 : 0 ≤ c ∧ c < np
  · rw [if_pos (by omega)] at hI
    by_cases q2 : 0 ≤ w ∧ w ≤ 4
    · rw [if_pos q2] at hIn
      rw [if_pos ⟨q1, q2⟩]
      obtain ⟨p, rfl⟩ := Int.eq_ofNat_of_zero_le q1.1
      rw [show ((p : Int)).toNat = p by omega]
      obtain ⟨X, hX⟩ : ∃ X, X = cxM sem h np nc := ⟨_, rfl⟩
      obtain ⟨y1, y2, y3, y4, y5, y6, y7⟩ := hypM (h4 := h5) (h1 := h5) hs hX e3 h5e vtF_rf
      have hsp := hcp.1.2.2.2.2.2 p (show p < np by omega)
      have g154 : h5 154 (14 + (p : Int)) = mS (h 154) p := by rw [f5 154 (by omega)]; rfl
      rw [← hX]
      clear hR hRf
      have mqi : ∀ (h6 : Nat → Int → Int) (z : Int), (∀ a, a ≠ 160 → a ≠ 161 → h6 a = h5 a) → z = paZZ X (h 154) p w → mq0 h3 (pI (paZZ X (h 154) p w)) 0 (some (pI z)) (shp0, rf0, h6) := fun h6 z f6 hz => ⟨h6, rfl, by rw [hz], (hypM (h4 := h5) (h1 := h6) hs hX e3 h5e (fun a a1 a2 a3 => f6 a a1 a2)).2.2.2.2.2.1, by rw [f6 147 (by omega) (by omega), h5e, rup_s, fup_s], by rw [f6 147 (by omega) (by omega), j5 1 (by omega)], by rw [f6 148 (by omega) (by omega), h5e, rup_n (by omega)]⟩
      generalize mq0 h3 (pI (paZZ X (h 154) p w)) 0 = QQ at *
      have K48 : ∀ y : Int, y = (if mS (h 154) p < 0 then 0 else 1) → RR mX12_passenger 6 0 0 48 [pR 147, pI p, pI w, pI y] [] (shp0, rf0, h5) QQ := by
        intro y hy
        have w5 : w = 0 ∨ w = 1 ∨ w = 2 ∨ w = 3 ∨ w = 4 := by omega
        have xW5 : h5 152 p = xW X p := by rw [f5 152 (by omega), hX]; rfl
        have xR5 : h5 153 p = xR X p := by rw [f5 153 (by omega), hX]; rfl
        rcases w5 with rfl | rfl | rfl | rfl | rfl
        · have hq := mqi h5 (mS (h 154) p) (fun _ _ _ => rfl) (by unfold paZZ; rw [if_pos rfl])
          clear mqi
          refine R_iload_n dX12_passenger_48 rfl (?_ : RR _ _ _ _ 49 _ _ _ _)
          refine R_tabIn (t := 80) (off := 31) dX12_passenger_49 (by omega) (by omega) rfl rfl (?_ : RR _ _ _ _ 80 _ _ _ _)
          refine R_aload_n dX12_passenger_80 rfl (?_ : RR _ _ _ _ 81 _ _ _ _)
          refine R_getr dX12_passenger_81 flX12_33 cok_12 rfl (by decide) (?_ : RR _ _ _ _ 84 _ _ _ _)
          refine R_bipush dX12_passenger_84 rfl (?_ : RR _ _ _ _ 86 _ _ _ _)
          refine R_iload_n dX12_passenger_86 rfl (?_ : RR _ _ _ _ 87 _ _ _ _)
          refine R_iadd dX12_passenger_87 (?_ : RR _ _ _ _ 88 _ _ _ _)
          refine R_iald dX12_passenger_88 (fun q88 => (?_ : RR _ _ _ _ 89 _ _ _ _))
          rw [g154] at q88 ⊢
          exact R_ireturn dX12_passenger_89 trivial hq
        · have hq := mqi h5 (h5 152 p) (fun _ _ _ => rfl) (by unfold paZZ; rw [if_neg (by omega), if_pos rfl, xW5])
          clear mqi
          refine R_iload_n dX12_passenger_48 rfl (?_ : RR _ _ _ _ 49 _ _ _ _)
          refine R_tabIn (t := 90) (off := 41) dX12_passenger_49 (by omega) (by omega) rfl rfl (?_ : RR _ _ _ _ 90 _ _ _ _)
          refine R_aload_n dX12_passenger_90 rfl (?_ : RR _ _ _ _ 91 _ _ _ _)
          refine R_getr dX12_passenger_91 flX12_27 cok_12 rfl (by decide) (?_ : RR _ _ _ _ 94 _ _ _ _)
          refine R_iload_n dX12_passenger_94 rfl (?_ : RR _ _ _ _ 95 _ _ _ _)
          refine R_iald dX12_passenger_95 (fun q95 => (?_ : RR _ _ _ _ 96 _ _ _ _))
          exact R_ireturn dX12_passenger_96 trivial hq
        · have hq := mqi h5 (h5 153 p) (fun _ _ _ => rfl) (by unfold paZZ; rw [if_neg (by omega), if_neg (by omega), if_pos rfl, xR5])
          clear mqi
          refine R_iload_n dX12_passenger_48 rfl (?_ : RR _ _ _ _ 49 _ _ _ _)
          refine R_tabIn (t := 97) (off := 48) dX12_passenger_49 (by omega) (by omega) rfl rfl (?_ : RR _ _ _ _ 97 _ _ _ _)
          refine R_aload_n dX12_passenger_97 rfl (?_ : RR _ _ _ _ 98 _ _ _ _)
          refine R_getr dX12_passenger_98 flX12_30 cok_12 rfl (by decide) (?_ : RR _ _ _ _ 101 _ _ _ _)
          refine R_iload_n dX12_passenger_101 rfl (?_ : RR _ _ _ _ 102 _ _ _ _)
          refine R_iald dX12_passenger_102 (fun q102 => (?_ : RR _ _ _ _ 103 _ _ _ _))
          exact R_ireturn dX12_passenger_103 trivial hq
        · by_cases z : mS (h 154) p < 0
          · rw [if_pos z] at hy
            subst hy
            have hq := mqi h5 0 (fun _ _ _ => rfl) (by unfold paZZ xV vtS; rw [if_neg (by omega), if_neg (by omega), if_neg (by omega), if_pos rfl, if_pos (by omega)])
            clear mqi
            refine R_iload_n dX12_passenger_48 rfl (?_ : RR _ _ _ _ 49 _ _ _ _)
            refine R_tabIn (t := 104) (off := 55) dX12_passenger_49 (by omega) (by omega) rfl rfl (?_ : RR _ _ _ _ 104 _ _ _ _)
            refine R_iload_n dX12_passenger_104 rfl (?_ : RR _ _ _ _ 105 _ _ _ _)
            refine R_if_eq (t := 120) dX12_passenger_105 rfl (fun c105 => ?_) (fun c105 => ?_)
            rotate_left
            · exfalso; omega
            refine R_iconst dX12_passenger_120 (?_ : RR _ _ _ _ 121 _ _ _ _)
            exact R_ireturn dX12_passenger_121 trivial hq
          · rw [if_neg z] at hy
            subst hy
            have hV := M_votes (h4 := h5) (h1 := h5) (o := p) hs hX e3 h5e vtF_rf (by omega) (by omega)
            have hq : ∀ h6 : Nat → Int → Int, (∀ a, a ≠ 160 → a ≠ 161 → h6 a = h5 a) → QQ (some (pI (xV X (h 154) p))) (shp0, rf0, h6) := fun h6 f6 => mqi h6 _ f6 (by unfold paZZ; rw [if_neg (by omega), if_neg (by omega), if_neg (by omega), if_pos rfl])
            have vb := xV_b (X := X) (f := h 154) (p := (p : Int))
            clear mqi
            generalize xV X (h 154) p = V at *
            refine R_iload_n dX12_passenger_48 rfl (?_ : RR _ _ _ _ 49 _ _ _ _)
            refine R_tabIn (t := 104) (off := 55) dX12_passenger_49 (by omega) (by omega) rfl rfl (?_ : RR _ _ _ _ 104 _ _ _ _)
            refine R_iload_n dX12_passenger_104 rfl (?_ : RR _ _ _ _ 105 _ _ _ _)
            refine R_if_eq (t := 120) dX12_passenger_105 rfl (fun c105 => ?_) (fun c105 => ?_)
            · exfalso; omega
            refine R_aload_n dX12_passenger_108 rfl (?_ : RR _ _ _ _ 109 _ _ _ _)
            refine R_aload_n dX12_passenger_109 rfl (?_ : RR _ _ _ _ 110 _ _ _ _)
            refine R_getr dX12_passenger_110 flX12_33 cok_12 rfl (by decide) (?_ : RR _ _ _ _ 113 _ _ _ _)
            refine R_iload_n dX12_passenger_113 rfl (?_ : RR _ _ _ _ 114 _ _ _ _)
            refine R_qV2 dX12_passenger_114 mvX12_votesOf mlX12_294 (by decide) (by decide) (Nat.le_of_ble_eq_true rfl) (Nat.le_of_ble_eq_true rfl) (hV) (fun r9 g9 hq9 => (?_ : RR _ _ _ _ 117 _ _ _ _))
            obtain ⟨rfl, h6, rfl, f6⟩ := hq9
            have hq2 := hq h6 f6
            show RR _ _ _ _ _ _ [pI V] _ _
            refine R_goto (t := 121) dX12_passenger_117 rfl (?_ : RR _ _ _ _ 121 _ _ _ _)
            exact R_ireturn dX12_passenger_121 trivial hq2
        · by_cases z : mS (h 154) p < 0
          · rw [if_pos z] at hy
            subst hy
            have hq := mqi h5 (-1) (fun _ _ _ => rfl) (by unfold paZZ xWi wiS; rw [if_neg (by omega), if_neg (by omega), if_neg (by omega), if_neg (by omega), if_pos (by omega)])
            clear mqi
            refine R_iload_n dX12_passenger_48 rfl (?_ : RR _ _ _ _ 49 _ _ _ _)
            refine R_tabOut (t := 122) dX12_passenger_49 rfl (by omega) (?_ : RR _ _ _ _ 122 _ _ _ _)
            refine R_iload_n dX12_passenger_122 rfl (?_ : RR _ _ _ _ 123 _ _ _ _)
            refine R_if_eq (t := 138) dX12_passenger_123 rfl (fun c123 => ?_) (fun c123 => ?_)
            rotate_left
            · exfalso; omega
            refine R_iconst dX12_passenger_138 (?_ : RR _ _ _ _ 139 _ _ _ _)
            exact R_ireturn dX12_passenger_139 trivial hq
          · rw [if_neg z] at hy
            subst hy
            have hW := T_X12_wishOf (h := h5) (r := 154) (np := np) (p := p) y1 (by omega) (by rw [y4]; omega)
            have hq := mqi h5 (wiS (h5 149) (h5 150) (nds (h5 151)) (h5 152) (mS (h5 154)) (mP (h5 154)) (mA (h5 154)) (h5 154 0) p) (fun _ _ _ => rfl) (by
              unfold paZZ xWi
              rw [if_neg (by omega), if_neg (by omega), if_neg (by omega), if_neg (by omega), f5 149 (by omega), f5 150 (by omega), f5 151 (by omega), f5 152 (by omega), f5 154 (by omega), hX]
              rfl)
            clear mqi
            generalize wiS (h5 149) (h5 150) (nds (h5 151)) (h5 152) (mS (h5 154)) (mP (h5 154)) (mA (h5 154)) (h5 154 0) p = W at *
            refine R_iload_n dX12_passenger_48 rfl (?_ : RR _ _ _ _ 49 _ _ _ _)
            refine R_tabOut (t := 122) dX12_passenger_49 rfl (by omega) (?_ : RR _ _ _ _ 122 _ _ _ _)
            refine R_iload_n dX12_passenger_122 rfl (?_ : RR _ _ _ _ 123 _ _ _ _)
            refine R_if_eq (t := 138) dX12_passenger_123 rfl (fun c123 => ?_) (fun c123 => ?_)
            · exfalso; omega
            refine R_aload_n dX12_passenger_126 rfl (?_ : RR _ _ _ _ 127 _ _ _ _)
            refine R_aload_n dX12_passenger_127 rfl (?_ : RR _ _ _ _ 128 _ _ _ _)
            refine R_getr dX12_passenger_128 flX12_33 cok_12 rfl (by decide) (?_ : RR _ _ _ _ 131 _ _ _ _)
            refine R_iload_n dX12_passenger_131 rfl (?_ : RR _ _ _ _ 132 _ _ _ _)
            refine R_cVi2 dX12_passenger_132 mvX12_wishOf mlX12_291 (by decide) (by decide) (Nat.le_of_ble_eq_true rfl) (Nat.le_of_ble_eq_true rfl) (hW) (?_ : RR _ _ _ _ 135 _ _ _ _)
            refine R_goto (t := 139) dX12_passenger_135 rfl (?_ : RR _ _ _ _ 139 _ _ _ _)
            exact R_ireturn dX12_passenger_139 trivial hq
      clear mqi
      by_cases z : mS (h 154) p < 0
      · have K := K48 0 (by rw [if_pos z])
        refine R_aload_n dX12_passenger_0 rfl (?_ : RR _ _ _ _ 1 _ _ _ _)
        refine R_iconst dX12_passenger_1 (?_ : RR _ _ _ _ 2 _ _ _ _)
        refine R_puti (zk := 0) dX12_passenger_2 flX12_106 cok_12 (by decide) (fun q hq => by cases hq; rfl) rfl (?_ : RR _ _ _ _ 5 _ _ _ _)
        rw [← h5e]
        refine R_aload_n dX12_passenger_5 rfl (?_ : RR _ _ _ _ 6 _ _ _ _)
        refine R_iload_n dX12_passenger_6 rfl (?_ : RR _ _ _ _ 7 _ _ _ _)
        refine R_cVi1 dX12_passenger_7 mvX12_isPassenger mlX12_325 (by decide) (by decide) (Nat.le_of_ble_eq_true rfl) (Nat.le_of_ble_eq_true rfl) (hI) (?_ : RR _ _ _ _ 10 _ _ _ _)
        refine R_if_eq (t := 25) dX12_passenger_10 rfl (fun c10 => ?_) (fun c10 => ?_)
        · exfalso; omega
        refine R_iload_n dX12_passenger_13 rfl (?_ : RR _ _ _ _ 14 _ _ _ _)
        refine R_i2l dX12_passenger_14 (by first | assumption | omega) (?_ : RR _ _ _ _ 15 _ _ _ _)
        refine R_lconst (z := 0) dX12_passenger_15 rfl (?_ : RR _ _ _ _ 16 _ _ _ _)
        refine R_ldc2 (z := 4) dX12_passenger_16 klX12_328 (?_ : RR _ _ _ _ 19 _ _ _ _)
        refine R_cSi3 dX12_passenger_19 msX12_in mlX12_120 (by decide) (Nat.le_of_ble_eq_true rfl) (Nat.le_of_ble_eq_true rfl) (hIn) (?_ : RR _ _ _ _ 22 _ _ _ _)
        refine R_if_ne (t := 30) dX12_passenger_22 rfl (fun c22 => ?_) (fun c22 => ?_)
        rotate_left
        · exfalso; omega
        refine R_aload_n dX12_passenger_30 rfl (?_ : RR _ _ _ _ 31 _ _ _ _)
        refine R_getr dX12_passenger_31 flX12_33 cok_12 rfl (by decide) (?_ : RR _ _ _ _ 34 _ _ _ _)
        refine R_bipush dX12_passenger_34 rfl (?_ : RR _ _ _ _ 36 _ _ _ _)
        refine R_iload_n dX12_passenger_36 rfl (?_ : RR _ _ _ _ 37 _ _ _ _)
        refine R_iadd dX12_passenger_37 (?_ : RR _ _ _ _ 38 _ _ _ _)
        refine R_iald dX12_passenger_38 (fun q38 => (?_ : RR _ _ _ _ 39 _ _ _ _))
        rw [g154] at q38 ⊢
        refine R_if_lt (t := 46) dX12_passenger_39 rfl (fun c39 => ?_) (fun c39 => ?_)
        rotate_left
        · exfalso; omega
        refine R_iconst dX12_passenger_46 (?_ : RR _ _ _ _ 47 _ _ _ _)
        refine R_istore_n dX12_passenger_47 (Nat.le_of_ble_eq_true rfl) (?_ : RR _ _ _ _ 48 [_, _, _, _] _ _ _)
        exact K
      · have K := K48 1 (by rw [if_neg z])
        refine R_aload_n dX12_passenger_0 rfl (?_ : RR _ _ _ _ 1 _ _ _ _)
        refine R_iconst dX12_passenger_1 (?_ : RR _ _ _ _ 2 _ _ _ _)
        refine R_puti (zk := 0) dX12_passenger_2 flX12_106 cok_12 (by decide) (fun q hq => by cases hq; rfl) rfl (?_ : RR _ _ _ _ 5 _ _ _ _)
        rw [← h5e]
        refine R_aload_n dX12_passenger_5 rfl (?_ : RR _ _ _ _ 6 _ _ _ _)
        refine R_iload_n dX12_passenger_6 rfl (?_ : RR _ _ _ _ 7 _ _ _ _)
        refine R_cVi1 dX12_passenger_7 mvX12_isPassenger mlX12_325 (by decide) (by decide) (Nat.le_of_ble_eq_true rfl) (Nat.le_of_ble_eq_true rfl) (hI) (?_ : RR _ _ _ _ 10 _ _ _ _)
        refine R_if_eq (t := 25) dX12_passenger_10 rfl (fun c10 => ?_) (fun c10 => ?_)
        · exfalso; omega
        refine R_iload_n dX12_passenger_13 rfl (?_ : RR _ _ _ _ 14 _ _ _ _)
        refine R_i2l dX12_passenger_14 (by first | assumption | omega) (?_ : RR _ _ _ _ 15 _ _ _ _)
        refine R_lconst (z := 0) dX12_passenger_15 rfl (?_ : RR _ _ _ _ 16 _ _ _ _)
        refine R_ldc2 (z := 4) dX12_passenger_16 klX12_328 (?_ : RR _ _ _ _ 19 _ _ _ _)
        refine R_cSi3 dX12_passenger_19 msX12_in mlX12_120 (by decide) (Nat.le_of_ble_eq_true rfl) (Nat.le_of_ble_eq_true rfl) (hIn) (?_ : RR _ _ _ _ 22 _ _ _ _)
        refine R_if_ne (t := 30) dX12_passenger_22 rfl (fun c22 => ?_) (fun c22 => ?_)
        rotate_left
        · exfalso; omega
        refine R_aload_n dX12_passenger_30 rfl (?_ : RR _ _ _ _ 31 _ _ _ _)
        refine R_getr dX12_passenger_31 flX12_33 cok_12 rfl (by decide) (?_ : RR _ _ _ _ 34 _ _ _ _)
        refine R_bipush dX12_passenger_34 rfl (?_ : RR _ _ _ _ 36 _ _ _ _)
        refine R_iload_n dX12_passenger_36 rfl (?_ : RR _ _ _ _ 37 _ _ _ _)
        refine R_iadd dX12_passenger_37 (?_ : RR _ _ _ _ 38 _ _ _ _)
        refine R_iald dX12_passenger_38 (fun q38 => (?_ : RR _ _ _ _ 39 _ _ _ _))
        rw [g154] at q38 ⊢
        refine R_if_lt (t := 46) dX12_passenger_39 rfl (fun c39 => ?_) (fun c39 => ?_)
        · exfalso; omega
        refine R_iconst dX12_passenger_42 (?_ : RR _ _ _ _ 43 _ _ _ _)
        refine R_goto (t := 47) dX12_passenger_43 rfl (?_ : RR _ _ _ _ 47 _ _ _ _)
        refine R_istore_n dX12_passenger_47 (Nat.le_of_ble_eq_true rfl) (?_ : RR _ _ _ _ 48 [_, _, _, _] _ _ _)
        exact K
    · rw [if_neg q2] at hIn
      rw [if_neg (fun w => q2 w.2)]
      generalize mq0 h3 (pI 0) 1 = QQ at *
      refine R_aload_n dX12_passenger_0 rfl (?_ : RR _ _ _ _ 1 _ _ _ _)
      refine R_iconst dX12_passenger_1 (?_ : RR _ _ _ _ 2 _ _ _ _)
      refine R_puti (zk := 0) dX12_passenger_2 flX12_106 cok_12 (by decide) (fun q hq => by cases hq; rfl) rfl (?_ : RR _ _ _ _ 5 _ _ _ _)
      rw [← h5e]
      refine R_aload_n dX12_passenger_5 rfl (?_ : RR _ _ _ _ 6 _ _ _ _)
      refine R_iload_n dX12_passenger_6 rfl (?_ : RR _ _ _ _ 7 _ _ _ _)
      refine R_cVi1 dX12_passenger_7 mvX12_isPassenger mlX12_325 (by decide) (by decide) (Nat.le_of_ble_eq_true rfl) (Nat.le_of_ble_eq_true rfl) (hI) (?_ : RR _ _ _ _ 10 _ _ _ _)
      refine R_if_eq (t := 25) dX12_passenger_10 rfl (fun c10 => ?_) (fun c10 => ?_)
      · exfalso; omega
      refine R_iload_n dX12_passenger_13 rfl (?_ : RR _ _ _ _ 14 _ _ _ _)
      refine R_i2l dX12_passenger_14 (by first | assumption | omega) (?_ : RR _ _ _ _ 15 _ _ _ _)
      refine R_lconst (z := 0) dX12_passenger_15 rfl (?_ : RR _ _ _ _ 16 _ _ _ _)
      refine R_ldc2 (z := 4) dX12_passenger_16 klX12_328 (?_ : RR _ _ _ _ 19 _ _ _ _)
      refine R_cSi3 dX12_passenger_19 msX12_in mlX12_120 (by decide) (Nat.le_of_ble_eq_true rfl) (Nat.le_of_ble_eq_true rfl) (hIn) (?_ : RR _ _ _ _ 22 _ _ _ _)
      refine R_if_ne (t := 30) dX12_passenger_22 rfl (fun c22 => ?_) (fun c22 => ?_)
      · exfalso; omega
      refine R_aload_n dX12_passenger_25 rfl (?_ : RR _ _ _ _ 26 _ _ _ _)
      refine R_cVi0 dX12_passenger_26 mvX12_refuse mlX12_311 (by decide) (by decide) (Nat.le_of_ble_eq_true rfl) (Nat.le_of_ble_eq_true rfl) (hRf) (?_ : RR _ _ _ _ 29 _ _ _ _)
      exact R_ireturn dX12_passenger_29 trivial hR
  · rw [if_neg (by omega)] at hI
    rw [if_neg (fun w => q1 w.1)]
    generalize mq0 h3 (pI 0) 1 = QQ at *
    refine R_aload_n dX12_passenger_0 rfl (?_ : RR _ _ _ _ 1 _ _ _ _)
    refine R_iconst dX12_passenger_1 (?_ : RR _ _ _ _ 2 _ _ _ _)
    refine R_puti (zk := 0) dX12_passenger_2 flX12_106 cok_12 (by decide) (fun q hq => by cases hq; rfl) rfl (?_ : RR _ _ _ _ 5 _ _ _ _)
    rw [← h5e]
    refine R_aload_n dX12_passenger_5 rfl (?_ : RR _ _ _ _ 6 _ _ _ _)
    refine R_iload_n dX12_passenger_6 rfl (?_ : RR _ _ _ _ 7 _ _ _ _)
    refine R_cVi1 dX12_passenger_7 mvX12_isPassenger mlX12_325 (by decide) (by decide) (Nat.le_of_ble_eq_true rfl) (Nat.le_of_ble_eq_true rfl) (hI) (?_ : RR _ _ _ _ 10 _ _ _ _)
    refine R_if_eq (t := 25) dX12_passenger_10 rfl (fun c10 => ?_) (fun c10 => ?_)
    rotate_left
    · exfalso; omega
    refine R_aload_n dX12_passenger_25 rfl (?_ : RR _ _ _ _ 26 _ _ _ _)
    refine R_cVi0 dX12_passenger_26 mvX12_refuse mlX12_311 (by decide) (by decide) (Nat.le_of_ble_eq_true rfl) (Nat.le_of_ble_eq_true rfl) (hRf) (?_ : RR _ _ _ _ 29 _ _ _ _)
    exact R_ireturn dX12_passenger_29 trivial hR
/-! row -/
theorem C_rowA {n : Nat} {i : Int} (hn : h 145 1 = n) (hn12 : n ≤ 12) (hi : 0 ≤ i ∧ i < n) : RR mX11_row 0 0 0 0 (pm_ent [pR 0, pI i] 2) [] (shp0, rf0, h) (cq0 h (pL (h 146 i))) := by
  show RR _ _ _ _ _ [pR 0, pI i] _ _ _
  have hq : cq0 h (pL (h 146 i)) (some (pL (h 146 i))) (shp0, rf0, h) := ⟨h, rfl, rfl, fun _ _ => rfl, rfl, rfl⟩
  generalize cq0 h (pL (h 146 i)) = QQ at *
  refine R_iload_n dX11_row_0 rfl (?_ : RR _ _ _ _ 1 _ _ _ _)
  refine R_if_lt (t := 15) dX11_row_1 rfl (fun c1 => ?_) (fun c1 => ?_)
  · exfalso; omega
  refine R_iload_n dX11_row_4 rfl (?_ : RR _ _ _ _ 5 _ _ _ _)
  refine R_aload_n dX11_row_5 rfl (?_ : RR _ _ _ _ 6 _ _ _ _)
  refine R_getr dX11_row_6 flX11_87 cok_11 rfl (by decide) (?_ : RR _ _ _ _ 9 _ _ _ _)
  refine R_geti (z := 1) dX11_row_9 flX11_429 cok_3 rfl (by decide) rfl (fun q9 => (?_ : RR _ _ _ _ 12 _ _ _ _))
  rw [hn] at q9 ⊢
  refine R_icmp_lt (t := 26) dX11_row_12 rfl (fun c12 => ?_) (fun c12 => ?_)
  rotate_left
  · exfalso; omega
  refine R_aload_n dX11_row_26 rfl (?_ : RR _ _ _ _ 27 _ _ _ _)
  refine R_getr dX11_row_27 flX11_87 cok_11 rfl (by decide) (?_ : RR _ _ _ _ 30 _ _ _ _)
  refine R_getr dX11_row_30 flX11_432 cok_3 rfl (by decide) (?_ : RR _ _ _ _ 33 _ _ _ _)
  refine R_iload_n dX11_row_33 rfl (?_ : RR _ _ _ _ 34 _ _ _ _)
  refine R_lald dX11_row_34 (fun q34 => (?_ : RR _ _ _ _ 35 _ _ _ _))
  exact R_lreturn dX11_row_35 trivial hq
theorem M_rowA {n : Nat} {i : Int} (hn : h3 147 1 = n) (hn12 : n ≤ 12) (hi : r32 i) : RR mX12_row 1 0 0 0 (pm_ent [pR 147, pI i] 2) [] (shp0, rf0, h3) (if 0 ≤ i ∧ i < n then mq0 h3 (pL (h3 148 i)) 0 else mq0 h3 (pL 0) 1) := by
  show RR _ _ _ _ _ [pR 147, pI i] _ _ _
  obtain ⟨h5, h5e⟩ : ∃ h5, h5 = rup h3 147 (fup (h3 147) 0 0) := ⟨_, rfl⟩
  have n5 : h5 147 1 = n := by rw [h5e, rup_s, fup_n (by omega)]; exact hn
  have hIn := T_X12_in (h := h5) (v := i) (a := 0) (b := (n : Int) - 1)
  have mqi : ∀ (z t : Int) (h6 : Nat → Int → Int), h6 = rup h3 147 (fup (h3 147) 0 t) → mq0 h3 (pL z) t (some (pL z)) (shp0, rf0, h6) := fun z t h6 e => ⟨h6, rfl, rfl, ⟨fun a q => by rw [e, rup_n (by omega)], fun j q => by rw [e, rup_s, fup_n (by omega)], fun q => by rw [e, rup_s, fup_n (by omega)]; exact q, fun j _ => by rw [e, rup_n (by omega)]⟩, by rw [e, rup_s, fup_s], by rw [e, rup_s, fup_n (by omega)], by rw [e, rup_n (by omega)]⟩
  by_cases q : 0 ≤ i ∧ i < n
  · rw [if_pos (by omega)] at hIn
    rw [if_pos q]
    have hq := mqi (h3 148 i) 0 h5 h5e
    have e148 : h5 148 = h3 148 := by rw [h5e, rup_n (by omega)]
    generalize mq0 h3 (pL (h3 148 i)) 0 = QQ at *
    clear mqi
    refine R_aload_n dX12_row_0 rfl (?_ : RR _ _ _ _ 1 _ _ _ _)
    refine R_iconst dX12_row_1 (?_ : RR _ _ _ _ 2 _ _ _ _)
    refine R_puti (zk := 0) dX12_row_2 flX12_106 cok_12 (by decide) (fun q hq => by cases hq; rfl) rfl (?_ : RR _ _ _ _ 5 _ _ _ _)
    rw [← h5e]
    refine R_iload_n dX12_row_5 rfl (?_ : RR _ _ _ _ 6 _ _ _ _)
    refine R_i2l dX12_row_6 (by first | assumption | omega) (?_ : RR _ _ _ _ 7 _ _ _ _)
    refine R_lconst (z := 0) dX12_row_7 rfl (?_ : RR _ _ _ _ 8 _ _ _ _)
    refine R_aload_n dX12_row_8 rfl (?_ : RR _ _ _ _ 9 _ _ _ _)
    refine R_geti (z := 1) dX12_row_9 flX12_113 cok_12 rfl (by decide) rfl (fun q9 => (?_ : RR _ _ _ _ 12 _ _ _ _))
    rw [n5] at q9 ⊢
    refine R_iconst dX12_row_12 (?_ : RR _ _ _ _ 13 _ _ _ _)
    refine R_isub dX12_row_13 (?_ : RR _ _ _ _ 14 _ _ _ _)
    refine R_i2l dX12_row_14 (by first | assumption | omega) (?_ : RR _ _ _ _ 15 _ _ _ _)
    refine R_cSi3 dX12_row_15 msX12_in mlX12_120 (by decide) (Nat.le_of_ble_eq_true rfl) (Nat.le_of_ble_eq_true rfl) (hIn) (?_ : RR _ _ _ _ 18 _ _ _ _)
    refine R_if_ne (t := 28) dX12_row_18 rfl (fun c18 => ?_) (fun c18 => ?_)
    rotate_left
    · exfalso; omega
    refine R_aload_n dX12_row_28 rfl (?_ : RR _ _ _ _ 29 _ _ _ _)
    refine R_getr dX12_row_29 flX12_9 cok_12 rfl (by decide) (?_ : RR _ _ _ _ 32 _ _ _ _)
    refine R_iload_n dX12_row_32 rfl (?_ : RR _ _ _ _ 33 _ _ _ _)
    refine R_lald dX12_row_33 (fun q33 => (?_ : RR _ _ _ _ 34 _ _ _ _))
    rw [e148] at q33 ⊢
    exact R_lreturn dX12_row_34 trivial hq
  · rw [if_neg (by omega)] at hIn
    rw [if_neg q]
    have hq := mqi 0 1 (rup h5 147 (fup (h5 147) 0 1)) (by rw [h5e, rup_s, rup_rup, fup_fup])
    generalize mq0 h3 (pL 0) 1 = QQ at *
    clear mqi
    refine R_aload_n dX12_row_0 rfl (?_ : RR _ _ _ _ 1 _ _ _ _)
    refine R_iconst dX12_row_1 (?_ : RR _ _ _ _ 2 _ _ _ _)
    refine R_puti (zk := 0) dX12_row_2 flX12_106 cok_12 (by decide) (fun q hq => by cases hq; rfl) rfl (?_ : RR _ _ _ _ 5 _ _ _ _)
    rw [← h5e]
    refine R_iload_n dX12_row_5 rfl (?_ : RR _ _ _ _ 6 _ _ _ _)
    refine R_i2l dX12_row_6 (by first | assumption | omega) (?_ : RR _ _ _ _ 7 _ _ _ _)
    refine R_lconst (z := 0) dX12_row_7 rfl (?_ : RR _ _ _ _ 8 _ _ _ _)
    refine R_aload_n dX12_row_8 rfl (?_ : RR _ _ _ _ 9 _ _ _ _)
    refine R_geti (z := 1) dX12_row_9 flX12_113 cok_12 rfl (by decide) rfl (fun q9 => (?_ : RR _ _ _ _ 12 _ _ _ _))
    rw [n5] at q9 ⊢
    refine R_iconst dX12_row_12 (?_ : RR _ _ _ _ 13 _ _ _ _)
    refine R_isub dX12_row_13 (?_ : RR _ _ _ _ 14 _ _ _ _)
    refine R_i2l dX12_row_14 (by first | assumption | omega) (?_ : RR _ _ _ _ 15 _ _ _ _)
    refine R_cSi3 dX12_row_15 msX12_in mlX12_120 (by decide) (Nat.le_of_ble_eq_true rfl) (Nat.le_of_ble_eq_true rfl) (hIn) (?_ : RR _ _ _ _ 18 _ _ _ _)
    refine R_if_ne (t := 28) dX12_row_18 rfl (fun c18 => ?_) (fun c18 => ?_)
    · exfalso; omega
    refine R_aload_n dX12_row_21 rfl (?_ : RR _ _ _ _ 22 _ _ _ _)
    refine R_iconst dX12_row_22 (?_ : RR _ _ _ _ 23 _ _ _ _)
    refine R_puti (zk := 0) dX12_row_23 flX12_106 cok_12 (by decide) (fun q hq => by cases hq; rfl) rfl (?_ : RR _ _ _ _ 26 _ _ _ _)
    refine R_lconst (z := 0) dX12_row_26 rfl (?_ : RR _ _ _ _ 27 _ _ _ _)
    exact R_lreturn dX12_row_27 trivial hq
end LKP
