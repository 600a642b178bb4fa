section LKC
variable {k : Nat} {h h1 h2 h3 h4 g : Nat → Int → Int} {sem : Sem} {H np nc len : Nat}
/-! coach -/
def coZZ (X : Cx) (f : Int → Int) (c : Nat) (w : Int) : Int := if w = 0 then halS (f 0) (mP f) (mA f) c else if w = 1 then mP f c else if w = 2 then (bset (fun p => decide (mS f p = c)) (xP X) : Nat) else if w = 3 then xVote X f (fun p => decide (mS f p = c)) else poS (fun p => decide (mS f p = c)) (xV X f) (xWi X f) (xP X) (w - 4)
theorem C_coachA {c : Nat} {w : Int} (hs : SRx k h sem H np nc len) (hc : c < nc) (hw : 0 ≤ w ∧ w ≤ 6) : RR mX11_coach 6 0 0 0 (pm_ent [pR 0, pI c, pI w] 4) [] (shp0, rf0, h) (cq0 h (pI (coZZ (cxM sem h np nc) (h 154) c w))) := by
  show RR _ _ _ _ _ [pR 0, pI c, pI w, pU] _ _ _
  have x6 := sR6 hs
  have x12 := sR12 hs
  have t14 := isTr_14
  have hcp := hs.2.2.2.1.1
  have e2 : h 14 2 = nc := hcp.2.2.2.1
  have e0 : h 14 0 = h 154 0 := hcp.2.1
  have h11 : h 11 0 = np := hs.1.2.2.2.2.2.2.1.2.1.1
  obtain ⟨X, hX⟩ : ∃ X, X = cxM sem h np nc := ⟨_, rfl⟩
  have hXP : xP X = np := by rw [hX]; rfl
  have hXC : xC X = nc := by rw [hX]; rfl
  have p1 := hcp.2.2.2.2.2.1 c hc
  have p2 := hcp.2.2.2.2.2.2.1 c hc
  have p3 := hcp.1.2.2.2.2.1 c hc
  have hal := fOK_hal hcp.1 (c := (c : Int)) (by omega) (show (c : Int) < nc by omega)
  have hH := sRH hs
  have hT := T_X9_has (h := h) (t := 14) (c := (c : Int))
  rw [e2, if_pos (by omega)] at hT
  have hHd := C_held hs
  rw [← hX] at hHd ⊢
  have hq : ∀ z : Int, z = coZZ X (h 154) c w → ∀ h' : Nat → Int → Int, (∀ a, ¬ (a = 31 ∨ (37 ≤ a ∧ a ≤ 43)) → h' a = h a) → cq0 h (pI (coZZ X (h 154) c w)) (some (pI z)) (shp0, rf0, h') := fun z hz h' f => ⟨h', rfl, by rw [hz], fun a q => f a (by omega), f 145 (by omega), f 146 (by omega)⟩
  generalize cq0 h (pI (coZZ X (h 154) c w)) = QQ at *
  by_cases w0 : w = 0
  · subst w0
    have hHo := T_X9_haltOf (h := h) (t := 14) (c := (c : Int))
    have e : (if h (14 + 2) c = -1 then h (14 + 3) c else h 14 0) = coZZ X (h 154) c 0 := by
      unfold coZZ halS
      rw [if_pos rfl, p1, e0]
      by_cases y : mP (h 154) c = -1
      · rw [if_pos y, if_pos y, p2 y]
      · rw [if_neg y, if_neg y]
    rw [e] at hHo
    have hq := hq _ rfl h (fun _ _ => rfl)
    generalize coZZ X (h 154) c 0 = z at *
    refine R_aload_n dX11_coach_0 rfl (?_ : RR _ _ _ _ 1 _ _ _ _)
    refine R_getr dX11_coach_1 flX11_36 cok_11 rfl (by decide) (?_ : RR _ _ _ _ 4 _ _ _ _)
    refine R_iload_n dX11_coach_4 rfl (?_ : RR _ _ _ _ 5 _ _ _ _)
    refine R_cVi1 dX11_coach_5 mvX9_has mlX11_174 (by decide) (by decide) (Nat.le_of_ble_eq_true rfl) (Nat.le_of_ble_eq_true rfl) (hT) (?_ : RR _ _ _ _ 8 _ _ _ _)
    refine R_if_eq (t := 21) dX11_coach_8 rfl (fun c8 => ?_) (fun c8 => ?_)
    · exfalso; omega
    refine R_iload_n dX11_coach_11 rfl (?_ : RR _ _ _ _ 12 _ _ _ _)
    refine R_if_lt (t := 21) dX11_coach_12 rfl (fun c12 => ?_) (fun c12 => ?_)
    · exfalso; omega
    refine R_iload_n dX11_coach_15 rfl (?_ : RR _ _ _ _ 16 _ _ _ _)
    refine R_bipush dX11_coach_16 rfl (?_ : RR _ _ _ _ 18 _ _ _ _)
    refine R_icmp_le (t := 31) dX11_coach_18 rfl (fun c18 => ?_) (fun c18 => ?_)
    rotate_left
    · exfalso; omega
    refine R_iload_n dX11_coach_31 rfl (?_ : RR _ _ _ _ 32 _ _ _ _)
    refine R_if_ne (t := 44) dX11_coach_32 rfl (fun c32 => ?_) (fun c32 => ?_)
    · exfalso; omega
    refine R_aload_n dX11_coach_35 rfl (?_ : RR _ _ _ _ 36 _ _ _ _)
    refine R_getr dX11_coach_36 flX11_36 cok_11 rfl (by decide) (?_ : RR _ _ _ _ 39 _ _ _ _)
    refine R_iload_n dX11_coach_39 rfl (?_ : RR _ _ _ _ 40 _ _ _ _)
    refine R_cVi1 dX11_coach_40 mvX9_haltOf mlX11_180 (by decide) (by decide) (Nat.le_of_ble_eq_true rfl) (Nat.le_of_ble_eq_true rfl) (hHo) (?_ : RR _ _ _ _ 43 _ _ _ _)
    exact R_ireturn dX11_coach_43 trivial hq
  · by_cases w1 : w = 1
    · subst w1
      have hq := hq (h 16 c) (by unfold coZZ; rw [if_neg (by omega), if_pos rfl]; exact p1) h (fun _ _ => rfl)
      refine R_aload_n dX11_coach_0 rfl (?_ : RR _ _ _ _ 1 _ _ _ _)
      refine R_getr dX11_coach_1 flX11_36 cok_11 rfl (by decide) (?_ : RR _ _ _ _ 4 _ _ _ _)
      refine R_iload_n dX11_coach_4 rfl (?_ : RR _ _ _ _ 5 _ _ _ _)
      refine R_cVi1 dX11_coach_5 mvX9_has mlX11_174 (by decide) (by decide) (Nat.le_of_ble_eq_true rfl) (Nat.le_of_ble_eq_true rfl) (hT) (?_ : RR _ _ _ _ 8 _ _ _ _)
      refine R_if_eq (t := 21) dX11_coach_8 rfl (fun c8 => ?_) (fun c8 => ?_)
      · exfalso; omega
      refine R_iload_n dX11_coach_11 rfl (?_ : RR _ _ _ _ 12 _ _ _ _)
      refine R_if_lt (t := 21) dX11_coach_12 rfl (fun c12 => ?_) (fun c12 => ?_)
      · exfalso; omega
      refine R_iload_n dX11_coach_15 rfl (?_ : RR _ _ _ _ 16 _ _ _ _)
      refine R_bipush dX11_coach_16 rfl (?_ : RR _ _ _ _ 18 _ _ _ _)
      refine R_icmp_le (t := 31) dX11_coach_18 rfl (fun c18 => ?_) (fun c18 => ?_)
      rotate_left
      · exfalso; omega
      refine R_iload_n dX11_coach_31 rfl (?_ : RR _ _ _ _ 32 _ _ _ _)
      refine R_if_ne (t := 44) dX11_coach_32 rfl (fun c32 => ?_) (fun c32 => ?_)
      rotate_left
      · exfalso; omega
      refine R_iload_n dX11_coach_44 rfl (?_ : RR _ _ _ _ 45 _ _ _ _)
      refine R_iconst dX11_coach_45 (?_ : RR _ _ _ _ 46 _ _ _ _)
      refine R_icmp_ne (t := 59) dX11_coach_46 rfl (fun c46 => ?_) (fun c46 => ?_)
      · exfalso; omega
      refine R_aload_n dX11_coach_49 rfl (?_ : RR _ _ _ _ 50 _ _ _ _)
      refine R_getr dX11_coach_50 flX11_36 cok_11 rfl (by decide) (?_ : RR _ _ _ _ 53 _ _ _ _)
      refine R_getr dX11_coach_53 flX11_183 cok_9 rfl (by decide) (?_ : RR _ _ _ _ 56 _ _ _ _)
      refine R_iload_n dX11_coach_56 rfl (?_ : RR _ _ _ _ 57 _ _ _ _)
      refine R_iald dX11_coach_57 (fun q57 => (?_ : RR _ _ _ _ 58 _ _ _ _))
      exact R_ireturn dX11_coach_58 trivial hq
    · by_cases w2 : w = 2
      · subst w2
        have hIn := T_X9_inside (h := h) (t := 14) (n := np) (c := (c : Int))
        have hq := hq (bset (fun j => decide (h (14 + 4) j = (c : Int))) np : Nat) (by
          unfold coZZ
          rw [if_neg (by omega), if_neg (by omega), if_pos rfl, hXP]
          congr 1
          exact bset_congr (fun j hj => by rw [hcp.2.2.2.2.2.2.2 j hj])) h (fun _ _ => rfl)
        generalize bset (fun j => decide (h (14 + 4) j = (c : Int))) np = B at *
        refine R_aload_n dX11_coach_0 rfl (?_ : RR _ _ _ _ 1 _ _ _ _)
        refine R_getr dX11_coach_1 flX11_36 cok_11 rfl (by decide) (?_ : RR _ _ _ _ 4 _ _ _ _)
        refine R_iload_n dX11_coach_4 rfl (?_ : RR _ _ _ _ 5 _ _ _ _)
        refine R_cVi1 dX11_coach_5 mvX9_has mlX11_174 (by decide) (by decide) (Nat.le_of_ble_eq_true rfl) (Nat.le_of_ble_eq_true rfl) (hT) (?_ : RR _ _ _ _ 8 _ _ _ _)
        refine R_if_eq (t := 21) dX11_coach_8 rfl (fun c8 => ?_) (fun c8 => ?_)
        · exfalso; omega
        refine R_iload_n dX11_coach_11 rfl (?_ : RR _ _ _ _ 12 _ _ _ _)
        refine R_if_lt (t := 21) dX11_coach_12 rfl (fun c12 => ?_) (fun c12 => ?_)
        · exfalso; omega
        refine R_iload_n dX11_coach_15 rfl (?_ : RR _ _ _ _ 16 _ _ _ _)
        refine R_bipush dX11_coach_16 rfl (?_ : RR _ _ _ _ 18 _ _ _ _)
        refine R_icmp_le (t := 31) dX11_coach_18 rfl (fun c18 => ?_) (fun c18 => ?_)
        rotate_left
        · exfalso; omega
        refine R_iload_n dX11_coach_31 rfl (?_ : RR _ _ _ _ 32 _ _ _ _)
        refine R_if_ne (t := 44) dX11_coach_32 rfl (fun c32 => ?_) (fun c32 => ?_)
        rotate_left
        · exfalso; omega
        refine R_iload_n dX11_coach_44 rfl (?_ : RR _ _ _ _ 45 _ _ _ _)
        refine R_iconst dX11_coach_45 (?_ : RR _ _ _ _ 46 _ _ _ _)
        refine R_icmp_ne (t := 59) dX11_coach_46 rfl (fun c46 => ?_) (fun c46 => ?_)
        rotate_left
        · exfalso; omega
        refine R_iload_n dX11_coach_59 rfl (?_ : RR _ _ _ _ 60 _ _ _ _)
        refine R_iconst dX11_coach_60 (?_ : RR _ _ _ _ 61 _ _ _ _)
        refine R_icmp_ne (t := 80) dX11_coach_61 rfl (fun c61 => ?_) (fun c61 => ?_)
        · exfalso; omega
        refine R_aload_n dX11_coach_64 rfl (?_ : RR _ _ _ _ 65 _ _ _ _)
        refine R_getr dX11_coach_65 flX11_36 cok_11 rfl (by decide) (?_ : RR _ _ _ _ 68 _ _ _ _)
        refine R_iload_n dX11_coach_68 rfl (?_ : RR _ _ _ _ 69 _ _ _ _)
        refine R_aload_n dX11_coach_69 rfl (?_ : RR _ _ _ _ 70 _ _ _ _)
        refine R_getr dX11_coach_70 flX11_29 cok_11 rfl (by decide) (?_ : RR _ _ _ _ 73 _ _ _ _)
        refine R_geti (z := 0) dX11_coach_73 flX11_116 cok_2 rfl (by decide) rfl (fun q73 => (?_ : RR _ _ _ _ 76 _ _ _ _))
        rw [h11] at q73 ⊢
        refine R_cVi2 dX11_coach_76 mvX9_inside mlX11_186 (by decide) (by decide) (Nat.le_of_ble_eq_true rfl) (Nat.le_of_ble_eq_true rfl) (hIn) (?_ : RR _ _ _ _ 79 _ _ _ _)
        exact R_ireturn dX11_coach_79 trivial hq
      · have K84 : ∀ h' : Nat → Int → Int, heldP X (h 154) h h' → RR mX11_coach 6 0 0 84 [pR 0, pI c, pI w, pU] [pR 36] (shp0, rf0, h') QQ := by
          intro h' hh
          obtain ⟨a1, a2, a3, a4⟩ := hh
          by_cases w3 : w = 3
          · subst w3
            have hV := T_X10_voteOf (h := h') (c := (c : Int))
            have hq := hq (chS (h' 39 (3 * c)) (h' 39 (3 * c + 1)) (h' 39 (3 * c + 2))) (by
              have b0 := a3 c 0 (by omega) (by rw [hXC]; omega) (by omega) (by omega)
              have b1 := a3 c 1 (by omega) (by rw [hXC]; omega) (by omega) (by omega)
              have b2 := a3 c 2 (by omega) (by rw [hXC]; omega) (by omega) (by omega)
              rw [Int.add_zero] at b0
              rw [b0, b1, b2]
              unfold coZZ
              rw [if_neg (by omega), if_neg (by omega), if_neg (by omega), if_pos rfl]
              rfl) h' a1
            generalize chS (h' 39 (3 * c)) (h' 39 (3 * c + 1)) (h' 39 (3 * c + 2)) = z at *
            clear a3 a4 a2 hHd
            refine R_astore_n dX11_coach_84 (Nat.le_of_ble_eq_true rfl) (?_ : RR _ _ _ _ 85 [_, _, _, _] _ _ _)
            refine R_iload_n dX11_coach_85 rfl (?_ : RR _ _ _ _ 86 _ _ _ _)
            refine R_iconst dX11_coach_86 (?_ : RR _ _ _ _ 87 _ _ _ _)
            refine R_icmp_ne (t := 98) dX11_coach_87 rfl (fun c87 => ?_) (fun c87 => ?_)
            · exfalso; omega
            refine R_aload_n dX11_coach_90 rfl (?_ : RR _ _ _ _ 91 _ _ _ _)
            refine R_iload_n dX11_coach_91 rfl (?_ : RR _ _ _ _ 92 _ _ _ _)
            refine R_cVi1 dX11_coach_92 mvX10_voteOf mlX11_194 (by decide) (by decide) (Nat.le_of_ble_eq_true rfl) (Nat.le_of_ble_eq_true rfl) (hV) (?_ : RR _ _ _ _ 95 _ _ _ _)
            refine R_goto (t := 110) dX11_coach_95 rfl (?_ : RR _ _ _ _ 110 _ _ _ _)
            exact R_ireturn dX11_coach_110 trivial hq
          · have b0 := a3 c (w - 4) (by omega) (by rw [hXC]; omega) (by omega) (by omega)
            have hq := hq (h' 39 (3 * c + w - 4)) (by
              rw [show 3 * (c : Int) + w - 4 = 3 * c + (w - 4) by omega, b0]
              unfold coZZ
              rw [if_neg w0, if_neg w1, if_neg w2, if_neg w3]) h' a1
            clear a3 a4 a2 hHd b0
            refine R_astore_n dX11_coach_84 (Nat.le_of_ble_eq_true rfl) (?_ : RR _ _ _ _ 85 [_, _, _, _] _ _ _)
            refine R_iload_n dX11_coach_85 rfl (?_ : RR _ _ _ _ 86 _ _ _ _)
            refine R_iconst dX11_coach_86 (?_ : RR _ _ _ _ 87 _ _ _ _)
            refine R_icmp_ne (t := 98) dX11_coach_87 rfl (fun c87 => ?_) (fun c87 => ?_)
            rotate_left
            · exfalso; omega
            refine R_aload_n dX11_coach_98 rfl (?_ : RR _ _ _ _ 99 _ _ _ _)
            refine R_getr dX11_coach_99 flX11_199 cok_10 rfl (by decide) (?_ : RR _ _ _ _ 102 _ _ _ _)
            refine R_iconst dX11_coach_102 (?_ : RR _ _ _ _ 103 _ _ _ _)
            refine R_iload_n dX11_coach_103 rfl (?_ : RR _ _ _ _ 104 _ _ _ _)
            refine R_imul dX11_coach_104 (?_ : RR _ _ _ _ 105 _ _ _ _)
            refine R_iload_n dX11_coach_105 rfl (?_ : RR _ _ _ _ 106 _ _ _ _)
            refine R_iadd dX11_coach_106 (?_ : RR _ _ _ _ 107 _ _ _ _)
            refine R_iconst dX11_coach_107 (?_ : RR _ _ _ _ 108 _ _ _ _)
            refine R_isub dX11_coach_108 (?_ : RR _ _ _ _ 109 _ _ _ _)
            refine R_iald dX11_coach_109 (fun q109 => (?_ : RR _ _ _ _ 110 _ _ _ _))
            exact R_ireturn dX11_coach_110 trivial hq
        refine R_aload_n dX11_coach_0 rfl (?_ : RR _ _ _ _ 1 _ _ _ _)
        refine R_getr dX11_coach_1 flX11_36 cok_11 rfl (by decide) (?_ : RR _ _ _ _ 4 _ _ _ _)
        refine R_iload_n dX11_coach_4 rfl (?_ : RR _ _ _ _ 5 _ _ _ _)
        refine R_cVi1 dX11_coach_5 mvX9_has mlX11_174 (by decide) (by decide) (Nat.le_of_ble_eq_true rfl) (Nat.le_of_ble_eq_true rfl) (hT) (?_ : RR _ _ _ _ 8 _ _ _ _)
        refine R_if_eq (t := 21) dX11_coach_8 rfl (fun c8 => ?_) (fun c8 => ?_)
        · exfalso; omega
        refine R_iload_n dX11_coach_11 rfl (?_ : RR _ _ _ _ 12 _ _ _ _)
        refine R_if_lt (t := 21) dX11_coach_12 rfl (fun c12 => ?_) (fun c12 => ?_)
        · exfalso; omega
        refine R_iload_n dX11_coach_15 rfl (?_ : RR _ _ _ _ 16 _ _ _ _)
        refine R_bipush dX11_coach_16 rfl (?_ : RR _ _ _ _ 18 _ _ _ _)
        refine R_icmp_le (t := 31) dX11_coach_18 rfl (fun c18 => ?_) (fun c18 => ?_)
        rotate_left
        · exfalso; omega
        refine R_iload_n dX11_coach_31 rfl (?_ : RR _ _ _ _ 32 _ _ _ _)
        refine R_if_ne (t := 44) dX11_coach_32 rfl (fun c32 => ?_) (fun c32 => ?_)
        rotate_left
        · exfalso; omega
        refine R_iload_n dX11_coach_44 rfl (?_ : RR _ _ _ _ 45 _ _ _ _)
        refine R_iconst dX11_coach_45 (?_ : RR _ _ _ _ 46 _ _ _ _)
        refine R_icmp_ne (t := 59) dX11_coach_46 rfl (fun c46 => ?_) (fun c46 => ?_)
        rotate_left
        · exfalso; omega
        refine R_iload_n dX11_coach_59 rfl (?_ : RR _ _ _ _ 60 _ _ _ _)
        refine R_iconst dX11_coach_60 (?_ : RR _ _ _ _ 61 _ _ _ _)
        refine R_icmp_ne (t := 80) dX11_coach_61 rfl (fun c61 => ?_) (fun c61 => ?_)
        rotate_left
        · exfalso; omega
        refine R_aload_n dX11_coach_80 rfl (?_ : RR _ _ _ _ 81 _ _ _ _)
        refine R_qV0 dX11_coach_81 mvX11_heldVote mlX11_190 (by decide) (by decide) (Nat.le_of_ble_eq_true rfl) (Nat.le_of_ble_eq_true rfl) (hHd) (fun r9 g9 hq9 => (?_ : RR _ _ _ _ 84 _ _ _ _))
        obtain ⟨rfl, h9, rfl, hh⟩ := hq9
        show RR _ _ _ _ _ _ [pR 36] _ _
        exact K84 h9 hh
theorem M_coachA {c w : Int} (hs : SRx k h sem H np nc len) (e3 : ∀ a, 147 ≤ a → h3 a = h a) (hc : r32 c) (hw : r32 w) : RR mX12_coach 6 0 0 0 (pm_ent [pR 147, pI c, pI w] 4) [] (shp0, rf0, h3) (if (0 ≤ c ∧ c < nc) ∧ 0 ≤ w ∧ w ≤ 6 then mq0 h3 (pI (coZZ (cxM sem h np nc) (h 154) c.toNat w)) 0 else mq0 h3 (pI 0) 1) := by
  show RR _ _ _ _ _ [pR 147, pI c, pI w, pU] _ _ _
  have x6 := sR6 hs
  have x12 := sR12 hs
  have r154 := isRw_154
  have hcp := hs.2.2.2.1.1
  have h4c : h3 147 4 = nc := by rw [e3 147 (by omega)]; exact hs.1.2.1
  obtain ⟨h5, h5e⟩ : ∃ h5, h5 = rup h3 147 (fup (h3 147) 0 0) := ⟨_, rfl⟩
  have j5 : ∀ j : Int, j ≠ 0 → h5 147 j = h3 147 j := fun j j1 => by rw [h5e, rup_s, fup_n j1]
  have hI := T_X12_isCoach2 (z := 0) (h := h5) (c := c) (by rw [j5 4 (by omega)]; exact h4c) x6 hc
  have hIn := T_X12_in (h := h5) (v := w) (a := 0) (b := 6)
  have hR : mq0 h3 (pI 0) 1 (some (pI 0)) (shp0, rf0, rup h5 147 (fup (h5 147) 0 1)) := mq0_i 0 1 (by rw [h5e, rup_s, rup_rup, fup_fup])
  have hRf := T_X12_refuse (h := h5)
  by_cases q1 : 0 ≤ c ∧ c < nc
  · rw [if_pos q1] at hI
    by_cases q2 : 0 ≤ w ∧ w ≤ 6
    · rw [if_pos q2] at hIn
      rw [if_pos ⟨q1, q2⟩]
      obtain ⟨c', rfl⟩ := Int.eq_ofNat_of_zero_le q1.1
      rw [show ((c' : Int)).toNat = c' by omega]
      obtain ⟨X, hX⟩ : ∃ X, X = cxM sem h np nc := ⟨_, rfl⟩
      have hXP : xP X = np := by rw [hX]; rfl
      obtain ⟨y1, y2, y3, y4, y5, y6, y7⟩ := hypM (h4 := h5) (h1 := h5) hs hX e3 h5e vtF_rf
      have hV := T_X12_voteOf (h := h5) (r := 154) (np := np) (c := (c' : Int)) (sem := sem) y1 y2 y3
      rw [mvS_x (nc := nc), y5, y4] at hV
      rw [← hX]
      have vb : 0 ≤ xVote X (h 154) (fun p => decide (mS (h 154) p = (c' : Int))) ∧ xVote X (h 154) (fun p => decide (mS (h 154) p = (c' : Int))) ≤ 2 := chS_b
      clear hR hRf
      have K39 : ∀ h6 : Nat → Int → Int, poP sem h5 154 np (fun p => decide (mS (h 154) p = (c' : Int))) h6 → RR mX12_coach 6 0 0 39 [pR 147, pI c', pI w, pU] [pI (xVote X (h 154) (fun p => decide (mS (h 154) p = (c' : Int))))] (shp0, rf0, h6) (mq0 h3 (pI (coZZ X (h 154) c' w)) 0) := by
        intro h6 hpo
        have hpo2 := hpo.2
        have f6 : ∀ a, a ≠ 160 → a ≠ 161 → a ≠ 162 → h6 a = h5 a := hpo.1
        have p154 : h6 154 = h 154 := by rw [f6 154 (by omega) (by omega) (by omega)]; exact y4
        have e5 : mqF h3 h6 := (hypM (h4 := h5) (h1 := h6) hs hX e3 h5e (fun a a1 a2 a3 => f6 a a1 a2 a3)).2.2.2.2.2.1
        have hq : ∀ z : Int, z = coZZ X (h 154) c' w → mq0 h3 (pI (coZZ X (h 154) c' w)) 0 (some (pI z)) (shp0, rf0, h6) := fun z hz => ⟨h6, rfl, by rw [hz], e5, by rw [f6 147 (by omega) (by omega) (by omega), h5e, rup_s, fup_s], by rw [f6 147 (by omega) (by omega) (by omega), j5 1 (by omega)], by rw [f6 148 (by omega) (by omega) (by omega), h5e, rup_n (by omega)]⟩
        have hHo := T_X12_haltOf (h := h6) (r := 154) (c := (c' : Int))
        have hPl := T_X12_placeOf (h := h6) (r := 154) (c := (c' : Int))
        have hSi := T_X12_sitting (h := h6) (r := 154) (np := np) (c := (c' : Int)) (by rw [f6 147 (by omega) (by omega) (by omega)]; exact y3)
        rw [p154] at hHo hPl hSi
        have p3 := hcp.1.2.2.2.2.1 c' (show c' < nc by omega)
        rw [mhal (z := 0) (by omega)] at hHo
        have w6 : w = 0 ∨ w = 1 ∨ w = 2 ∨ w = 3 ∨ (4 ≤ w ∧ w ≤ 6) := by omega
        generalize mq0 h3 (pI (coZZ X (h 154) c' w)) 0 = QQ at *
        clear hV
        rcases w6 with rfl | rfl | rfl | rfl | w6
        · have hq := hq (halS (h 154 0) (mP (h 154)) (mA (h 154)) c') (by unfold coZZ; rw [if_pos rfl])
          generalize halS (h 154 0) (mP (h 154)) (mA (h 154)) c' = z at *
          generalize xVote X (h 154) (fun p => decide (mS (h 154) p = (c' : Int))) = V at *
          refine R_istore_n dX12_coach_39 (Nat.le_of_ble_eq_true rfl) (?_ : RR _ _ _ _ 40 [_, _, _, _] _ _ _)
          refine R_iload_n dX12_coach_40 rfl (?_ : RR _ _ _ _ 41 _ _ _ _)
          refine R_tabIn (t := 72) (off := 31) dX12_coach_41 (by omega) (by omega) rfl rfl (?_ : RR _ _ _ _ 72 _ _ _ _)
          refine R_aload_n dX12_coach_72 rfl (?_ : RR _ _ _ _ 73 _ _ _ _)
          refine R_getr dX12_coach_73 flX12_33 cok_12 rfl (by decide) (?_ : RR _ _ _ _ 76 _ _ _ _)
          refine R_iload_n dX12_coach_76 rfl (?_ : RR _ _ _ _ 77 _ _ _ _)
          refine R_cSi2 dX12_coach_77 msX12_haltOf mlX12_227 (by decide) (Nat.le_of_ble_eq_true rfl) (Nat.le_of_ble_eq_true rfl) (hHo) (?_ : RR _ _ _ _ 80 _ _ _ _)
          exact R_ireturn dX12_coach_80 trivial hq
        · have hq := hq (mP (h 154) c') (by unfold coZZ; rw [if_neg (by omega), if_pos rfl])
          generalize mP (h 154) c' = z at *
          generalize xVote X (h 154) (fun p => decide (mS (h 154) p = (c' : Int))) = V at *
          refine R_istore_n dX12_coach_39 (Nat.le_of_ble_eq_true rfl) (?_ : RR _ _ _ _ 40 [_, _, _, _] _ _ _)
          refine R_iload_n dX12_coach_40 rfl (?_ : RR _ _ _ _ 41 _ _ _ _)
          refine R_tabIn (t := 81) (off := 40) dX12_coach_41 (by omega) (by omega) rfl rfl (?_ : RR _ _ _ _ 81 _ _ _ _)
          refine R_aload_n dX12_coach_81 rfl (?_ : RR _ _ _ _ 82 _ _ _ _)
          refine R_getr dX12_coach_82 flX12_33 cok_12 rfl (by decide) (?_ : RR _ _ _ _ 85 _ _ _ _)
          refine R_iload_n dX12_coach_85 rfl (?_ : RR _ _ _ _ 86 _ _ _ _)
          refine R_cSi2 dX12_coach_86 msX12_placeOf mlX12_130 (by decide) (Nat.le_of_ble_eq_true rfl) (Nat.le_of_ble_eq_true rfl) (hPl) (?_ : RR _ _ _ _ 89 _ _ _ _)
          exact R_ireturn dX12_coach_89 trivial hq
        · have hq := hq (bset (fun p => decide (mS (h 154) p = (c' : Int))) np : Nat) (by unfold coZZ; rw [if_neg (by omega), if_neg (by omega), if_pos rfl, hXP])
          generalize xVote X (h 154) (fun p => decide (mS (h 154) p = (c' : Int))) = V at *
          generalize bset (fun p => decide (mS (h 154) p = (c' : Int))) np = B at *
          refine R_istore_n dX12_coach_39 (Nat.le_of_ble_eq_true rfl) (?_ : RR _ _ _ _ 40 [_, _, _, _] _ _ _)
          refine R_iload_n dX12_coach_40 rfl (?_ : RR _ _ _ _ 41 _ _ _ _)
          refine R_tabIn (t := 90) (off := 49) dX12_coach_41 (by omega) (by omega) rfl rfl (?_ : RR _ _ _ _ 90 _ _ _ _)
          refine R_aload_n dX12_coach_90 rfl (?_ : RR _ _ _ _ 91 _ _ _ _)
          refine R_aload_n dX12_coach_91 rfl (?_ : RR _ _ _ _ 92 _ _ _ _)
          refine R_getr dX12_coach_92 flX12_33 cok_12 rfl (by decide) (?_ : RR _ _ _ _ 95 _ _ _ _)
          refine R_iload_n dX12_coach_95 rfl (?_ : RR _ _ _ _ 96 _ _ _ _)
          refine R_cVi2 dX12_coach_96 mvX12_sitting mlX12_270 (by decide) (by decide) (Nat.le_of_ble_eq_true rfl) (Nat.le_of_ble_eq_true rfl) (hSi) (?_ : RR _ _ _ _ 99 _ _ _ _)
          exact R_ireturn dX12_coach_99 trivial hq
        · have hq := hq (xVote X (h 154) (fun p => decide (mS (h 154) p = (c' : Int)))) (by unfold coZZ; rw [if_neg (by omega), if_neg (by omega), if_neg (by omega), if_pos rfl])
          generalize xVote X (h 154) (fun p => decide (mS (h 154) p = (c' : Int))) = V at *
          refine R_istore_n dX12_coach_39 (Nat.le_of_ble_eq_true rfl) (?_ : RR _ _ _ _ 40 [_, _, _, _] _ _ _)
          refine R_iload_n dX12_coach_40 rfl (?_ : RR _ _ _ _ 41 _ _ _ _)
          refine R_tabIn (t := 100) (off := 59) dX12_coach_41 (by omega) (by omega) rfl rfl (?_ : RR _ _ _ _ 100 _ _ _ _)
          refine R_iload_n dX12_coach_100 rfl (?_ : RR _ _ _ _ 101 _ _ _ _)
          exact R_ireturn dX12_coach_101 trivial hq
        · have e4 := hpo2 (w - 4) ⟨by omega, by omega⟩
          have hq := hq (h6 162 (w - 4)) (by
            rw [e4]
            unfold coZZ
            rw [if_neg (by omega), if_neg (by omega), if_neg (by omega), if_neg (by omega), hXP, hX, ← cxM_fr (sem := sem) (np := np) (nc := nc) (h := h) (h' := h5) (fun a a1 a2 => by rw [h5e, rup_n (by omega)]; exact e3 a (by omega)), ← y4]
            rfl)
          clear hpo hpo2 e4
          generalize xVote X (h 154) (fun p => decide (mS (h 154) p = (c' : Int))) = V at *
          refine R_istore_n dX12_coach_39 (Nat.le_of_ble_eq_true rfl) (?_ : RR _ _ _ _ 40 [_, _, _, _] _ _ _)
          refine R_iload_n dX12_coach_40 rfl (?_ : RR _ _ _ _ 41 _ _ _ _)
          refine R_tabOut (t := 102) dX12_coach_41 rfl (by omega) (?_ : RR _ _ _ _ 102 _ _ _ _)
          refine R_aload_n dX12_coach_102 rfl (?_ : RR _ _ _ _ 103 _ _ _ _)
          refine R_getr dX12_coach_103 flX12_57 cok_12 rfl (by decide) (?_ : RR _ _ _ _ 106 _ _ _ _)
          refine R_iload_n dX12_coach_106 rfl (?_ : RR _ _ _ _ 107 _ _ _ _)
          refine R_iconst dX12_coach_107 (?_ : RR _ _ _ _ 108 _ _ _ _)
          refine R_isub dX12_coach_108 (?_ : RR _ _ _ _ 109 _ _ _ _)
          refine R_iald dX12_coach_109 (fun q109 => (?_ : RR _ _ _ _ 110 _ _ _ _))
          exact R_ireturn dX12_coach_110 trivial hq
      generalize mq0 h3 (pI (coZZ X (h 154) c' w)) 0 = QQ at *
      generalize xVote X (h 154) (fun p => decide (mS (h 154) p = (c' : Int))) = V at *
      refine R_aload_n dX12_coach_0 rfl (?_ : RR _ _ _ _ 1 _ _ _ _)
      refine R_iconst dX12_coach_1 (?_ : RR _ _ _ _ 2 _ _ _ _)
      refine R_puti (zk := 0) dX12_coach_2 flX12_106 cok_12 (by decide) (fun q hq => by cases hq; rfl) rfl (?_ : RR _ _ _ _ 5 _ _ _ _)
      rw [← h5e]
      refine R_aload_n dX12_coach_5 rfl (?_ : RR _ _ _ _ 6 _ _ _ _)
      refine R_iload_n dX12_coach_6 rfl (?_ : RR _ _ _ _ 7 _ _ _ _)
      refine R_cVi1 dX12_coach_7 mvX12_isCoach mlX12_317 (by decide) (by decide) (Nat.le_of_ble_eq_true rfl) (Nat.le_of_ble_eq_true rfl) (hI) (?_ : RR _ _ _ _ 10 _ _ _ _)
      refine R_if_eq (t := 25) dX12_coach_10 rfl (fun c10 => ?_) (fun c10 => ?_)
      · exfalso; omega
      refine R_iload_n dX12_coach_13 rfl (?_ : RR _ _ _ _ 14 _ _ _ _)
      refine R_i2l dX12_coach_14 (by first | assumption | omega) (?_ : RR _ _ _ _ 15 _ _ _ _)
      refine R_lconst (z := 0) dX12_coach_15 rfl (?_ : RR _ _ _ _ 16 _ _ _ _)
      refine R_ldc2 (z := 6) dX12_coach_16 klX12_320 (?_ : RR _ _ _ _ 19 _ _ _ _)
      refine R_cSi3 dX12_coach_19 msX12_in mlX12_120 (by decide) (Nat.le_of_ble_eq_true rfl) (Nat.le_of_ble_eq_true rfl) (hIn) (?_ : RR _ _ _ _ 22 _ _ _ _)
      refine R_if_ne (t := 30) dX12_coach_22 rfl (fun c22 => ?_) (fun c22 => ?_)
      rotate_left
      · exfalso; omega
      refine R_aload_n dX12_coach_30 rfl (?_ : RR _ _ _ _ 31 _ _ _ _)
      refine R_aload_n dX12_coach_31 rfl (?_ : RR _ _ _ _ 32 _ _ _ _)
      refine R_getr dX12_coach_32 flX12_33 cok_12 rfl (by decide) (?_ : RR _ _ _ _ 35 _ _ _ _)
      refine R_iload_n dX12_coach_35 rfl (?_ : RR _ _ _ _ 36 _ _ _ _)
      refine R_qV2 dX12_coach_36 mvX12_voteOf mlX12_322 (by decide) (by decide) (Nat.le_of_ble_eq_true rfl) (Nat.le_of_ble_eq_true rfl) (hV) (fun r9 g9 hq9 => (?_ : RR _ _ _ _ 39 _ _ _ _))
      obtain ⟨rfl, h6, rfl, hpo⟩ := hq9
      show RR _ _ _ _ _ _ [pI V] _ _
      exact K39 h6 hpo
    · rw [if_neg q2] at hIn
      rw [if_neg (fun w => q2 w.2)]
      generalize mq0 h3 (pI 0) 1 = QQ at *
      refine R_aload_n dX12_coach_0 rfl (?_ : RR _ _ _ _ 1 _ _ _ _)
      refine R_iconst dX12_coach_1 (?_ : RR _ _ _ _ 2 _ _ _ _)
      refine R_puti (zk := 0) dX12_coach_2 flX12_106 cok_12 (by decide) (fun q hq => by cases hq; rfl) rfl (?_ : RR _ _ _ _ 5 _ _ _ _)
      rw [← h5e]
      refine R_aload_n dX12_coach_5 rfl (?_ : RR _ _ _ _ 6 _ _ _ _)
      refine R_iload_n dX12_coach_6 rfl (?_ : RR _ _ _ _ 7 _ _ _ _)
      refine R_cVi1 dX12_coach_7 mvX12_isCoach mlX12_317 (by decide) (by decide) (Nat.le_of_ble_eq_true rfl) (Nat.le_of_ble_eq_true rfl) (hI) (?_ : RR _ _ _ _ 10 _ _ _ _)
      refine R_if_eq (t := 25) dX12_coach_10 rfl (fun c10 => ?_) (fun c10 => ?_)
      · exfalso; omega
      refine R_iload_n dX12_coach_13 rfl (?_ : RR _ _ _ _ 14 _ _ _ _)
      refine R_i2l dX12_coach_14 (by first | assumption | omega) (?_ : RR _ _ _ _ 15 _ _ _ _)
      refine R_lconst (z := 0) dX12_coach_15 rfl (?_ : RR _ _ _ _ 16 _ _ _ _)
      refine R_ldc2 (z := 6) dX12_coach_16 klX12_320 (?_ : RR _ _ _ _ 19 _ _ _ _)
      refine R_cSi3 dX12_coach_19 msX12_in mlX12_120 (by decide) (Nat.le_of_ble_eq_true rfl) (Nat.le_of_ble_eq_true rfl) (hIn) (?_ : RR _ _ _ _ 22 _ _ _ _)
      refine R_if_ne (t := 30) dX12_coach_22 rfl (fun c22 => ?_) (fun c22 => ?_)
      · exfalso; omega
      refine R_aload_n dX12_coach_25 rfl (?_ : RR _ _ _ _ 26 _ _ _ _)
      refine R_cVi0 dX12_coach_26 mvX12_refuse mlX12_311 (by decide) (by decide) (Nat.le_of_ble_eq_true rfl) (Nat.le_of_ble_eq_true rfl) (hRf) (?_ : RR _ _ _ _ 29 _ _ _ _)
      exact R_ireturn dX12_coach_29 trivial hR
  · rw [if_neg q1] at hI
    rw [if_neg (fun w => q1 w.1)]
    generalize mq0 h3 (pI 0) 1 = QQ at *
    refine R_aload_n dX12_coach_0 rfl (?_ : RR _ _ _ _ 1 _ _ _ _)
    refine R_iconst dX12_coach_1 (?_ : RR _ _ _ _ 2 _ _ _ _)
    refine R_puti (zk := 0) dX12_coach_2 flX12_106 cok_12 (by decide) (fun q hq => by cases hq; rfl) rfl (?_ : RR _ _ _ _ 5 _ _ _ _)
    rw [← h5e]
    refine R_aload_n dX12_coach_5 rfl (?_ : RR _ _ _ _ 6 _ _ _ _)
    refine R_iload_n dX12_coach_6 rfl (?_ : RR _ _ _ _ 7 _ _ _ _)
    refine R_cVi1 dX12_coach_7 mvX12_isCoach mlX12_317 (by decide) (by decide) (Nat.le_of_ble_eq_true rfl) (Nat.le_of_ble_eq_true rfl) (hI) (?_ : RR _ _ _ _ 10 _ _ _ _)
    refine R_if_eq (t := 25) dX12_coach_10 rfl (fun c10 => ?_) (fun c10 => ?_)
    rotate_left
    · exfalso; omega
    refine R_aload_n dX12_coach_25 rfl (?_ : RR _ _ _ _ 26 _ _ _ _)
    refine R_cVi0 dX12_coach_26 mvX12_refuse mlX12_311 (by decide) (by decide) (Nat.le_of_ble_eq_true rfl) (Nat.le_of_ble_eq_true rfl) (hRf) (?_ : RR _ _ _ _ 29 _ _ _ _)
    exact R_ireturn dX12_coach_29 trivial hR
end LKC
