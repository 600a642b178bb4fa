section AT
variable {k : Nat} {h h1 h2 h3 h4 : Nat → Int → Int} {sem : Sem} {H np nc len : Nat} {v : Int}
theorem T_X12_isCoach2 {c : Int} {z : Int} (hnc : h 147 4 = nc) (h6 : nc ≤ 6) (hc : r32 c) : MT mX12_isCoach 1 [pR 147, pI c] h (some (pI (if 0 ≤ c ∧ c < nc then 1 else 0))) h := by
  have := T_X12_isCoach (h := h) (c := c) (by rw [hnc]; omega) hc
  rw [hnc] at this
  by_cases q : 0 ≤ c ∧ c < nc
  · rw [if_pos (by omega)] at this
    rw [if_pos q]
    exact this
  · rw [if_neg (by omega)] at this
    rw [if_neg q]
    exact this
theorem cq_held {X : Cx} {f s : Int → Int} {h' : Nat → Int → Int} (hh : heldP X f h h') : cqF h (rup h' 42 s) := fun a q => by
  rw [rup_n (by omega)]
  exact hh.1 a (by omega)
set_option maxHeartbeats 4000000 in
theorem C_tips {c : Nat} {X : Cx} {P : Nat → Bool} {b : Int → Int} {as : Int} (hs : SRx k h sem H np nc len) (hX : X = cxM sem h np nc) (hc : c < nc) (hb : b = poS (fun p => decide (mS (h 154) p = c)) (xV X (h 154)) (xWi X (h 154)) np) (has : as = chS (b 0) (b 1) (b 2)) (hP : P = fun p : Nat => decide (mS (h 154) p = c ∧ (tpV b (xV X (h 154)) (xWi X (h 154)) p 0 ≠ as ∨ tpV b (xV X (h 154)) (xWi X (h 154)) p 1 ≠ as ∨ tpV b (xV X (h 154)) (xWi X (h 154)) p 2 ≠ as))) : RR mX11_tips 5 0 0 0 (pm_ent [pR 0, pI c] 5) [] (shp0, rf0, h) (cQ h (bset P np) (some [(pop 12 (bset P np) : Int)])) := by
  have x6 := sR6 hs
  have x12 := sR12 hs
  have h11 : h 11 0 = np := hs.1.2.2.2.2.2.2.1.2.1.1
  have hcp := hs.2.2.2.1.1
  have e2 : h 14 2 = nc := hcp.2.2.2.1
  have t14 := isTr_14
  have hT := C_held hs
  rw [← hX] at hT
  have hXP : xP X = np := by rw [hX]; rfl
  have hXC : xC X = nc := by rw [hX]; rfl
  show RR _ _ _ _ _ [pR 0, pI c, pU, pU, pU] _ _ _
  have hpl := bset_4096 (P := P) (n := np) x12
  have hp12 := pop_12 (P := P) (n := np) x12
  have L : ∀ (j i : Nat) (h' : Nat → Int → Int) (s : Int → Int), i + j = np → heldP X (h 154) h h' → RR mX11_tips 5 0 0 23 [pR 0, pI c, pR 36, pI (bset P i), pI i] [] (shp0, rf0, rup h' 42 s) (cQ h (bset P np) (some [(pop 12 (bset P np) : Int)])) := by
    intro j
    induction j with
    | zero =>
      intro i h' s hi hh
      obtain rfl : i = np := by omega
      have g11 : rup h' 42 s 11 0 = i := by rw [rup_n (by omega), hh.1 11 (by omega)]; exact h11
      refine R_iload dX11_tips_23 rfl (?_ : RR _ _ _ _ 25 _ _ _ _)
      refine R_aload_n dX11_tips_25 rfl (?_ : RR _ _ _ _ 26 _ _ _ _)
      refine R_getr dX11_tips_26 flX11_29 cok_11 rfl (by decide) (?_ : RR _ _ _ _ 29 _ _ _ _)
      refine R_geti (z := 0) dX11_tips_29 flX11_116 cok_2 rfl (by decide) rfl (fun q29 => (?_ : RR _ _ _ _ 32 _ _ _ _))
      rw [g11] at q29 ⊢
      refine R_icmp_ge (t := 72) dX11_tips_32 rfl (fun c32 => ?_) (fun c32 => ?_)
      rotate_left
      · exfalso; omega
      refine R_aload_n dX11_tips_72 rfl (?_ : RR _ _ _ _ 73 _ _ _ _)
      refine R_getr dX11_tips_73 flX11_87 cok_11 rfl (by decide) (?_ : RR _ _ _ _ 76 _ _ _ _)
      refine R_cVv0 dX11_tips_76 mvX3_clear mlX11_239 (by decide) (by decide) (Nat.le_of_ble_eq_true rfl) (Nat.le_of_ble_eq_true rfl) (T_tlc) (?_ : RR _ _ _ _ 79 _ _ _ _)
      refine R_aload_n dX11_tips_79 rfl (?_ : RR _ _ _ _ 80 _ _ _ _)
      refine R_getr dX11_tips_80 flX11_87 cok_11 rfl (by decide) (?_ : RR _ _ _ _ 83 _ _ _ _)
      refine R_iload_n dX11_tips_83 rfl (?_ : RR _ _ _ _ 84 _ _ _ _)
      refine R_cSi1 dX11_tips_84 msJ6_bitCount_0f7a4 mlX11_325 (by decide) (Nat.le_of_ble_eq_true rfl) (Nat.le_of_ble_eq_true rfl) (T_J6_bitCount_0f7a4) (?_ : RR _ _ _ _ 87 _ _ _ _)
      refine R_i2l dX11_tips_87 (by first | assumption | omega) (?_ : RR _ _ _ _ 88 _ _ _ _)
      refine R_cVv1 dX11_tips_88 mvX3_add mlX11_243 (by decide) (by decide) (Nat.le_of_ble_eq_true rfl) (Nat.le_of_ble_eq_true rfl) (T_tla (by simp) (by omega)) (?_ : RR _ _ _ _ 91 _ _ _ _)
      refine R_iload_n dX11_tips_91 rfl (?_ : RR _ _ _ _ 92 _ _ _ _)
      exact R_ireturn dX11_tips_92 trivial (cQ_tl (cq_held hh) rfl)
    | succ j ih =>
      intro i h' s hi hh
      have g11 : rup h' 42 s 11 0 = np := by rw [rup_n (by omega), hh.1 11 (by omega)]; exact h11
      have g18 : rup h' 42 s 18 i = mS (h 154) i := by rw [rup_n (by omega), hh.1 18 (by omega)]; exact hcp.2.2.2.2.2.2.2 i (show i < np by omega)
      have IH := fun s => ih (i + 1) h' s (by omega) hh
      by_cases y : mS (h 154) i = c
      · have hW := xWi_b (X := X) (f := h 154) (p := i) (by rw [y]; omega)
        obtain ⟨v1, v2⟩ := hh.2.1 i (by rw [hXP]; omega)
        have hit := C_isTipping (h := rup h' 42 s) (c := (c : Int)) (p := i) (b := b) (V := xV X (h 154)) (W := xWi X (h 154)) (as := as) (by omega) (by omega) (by rw [rup_n (by omega)]; exact v1) (by rw [rup_n (by omega)]; exact v2) xV_b (by omega) (fun j j0 j1 => by
          have hbj := poS_b (P := fun p => decide (mS (h 154) p = (c : Int))) (V := xV X (h 154)) (W := xWi X (h 154)) (np := np) (j := j) (fun p => xV_b)
          rw [rup_n (by omega), hh.2.2.1 c j (by omega) (by rw [hXC]; omega) j0 j1, hXP, ← hb]
          rw [← hb] at hbj
          exact ⟨rfl, hbj.1, by omega⟩) has
        by_cases z : tpV b (xV X (h 154)) (xWi X (h 154)) i 0 ≠ as ∨ tpV b (xV X (h 154)) (xWi X (h 154)) i 1 ≠ as ∨ tpV b (xV X (h 154)) (xWi X (h 154)) i 2 ≠ as
        · rw [if_pos z] at hit
          have e := bset_or (P := P) (n := i) (by omega) (by rw [hP]; exact decide_eq_true ⟨y, z⟩)
          refine R_iload dX11_tips_23 rfl (?_ : RR _ _ _ _ 25 _ _ _ _)
          refine R_aload_n dX11_tips_25 rfl (?_ : RR _ _ _ _ 26 _ _ _ _)
          refine R_getr dX11_tips_26 flX11_29 cok_11 rfl (by decide) (?_ : RR _ _ _ _ 29 _ _ _ _)
          refine R_geti (z := 0) dX11_tips_29 flX11_116 cok_2 rfl (by decide) rfl (fun q29 => (?_ : RR _ _ _ _ 32 _ _ _ _))
          rw [g11] at q29 ⊢
          refine R_icmp_ge (t := 72) dX11_tips_32 rfl (fun c32 => ?_) (fun c32 => ?_)
          · exfalso; omega
          refine R_aload_n dX11_tips_35 rfl (?_ : RR _ _ _ _ 36 _ _ _ _)
          refine R_getr dX11_tips_36 flX11_36 cok_11 rfl (by decide) (?_ : RR _ _ _ _ 39 _ _ _ _)
          refine R_getr dX11_tips_39 flX11_205 cok_9 rfl (by decide) (?_ : RR _ _ _ _ 42 _ _ _ _)
          refine R_iload dX11_tips_42 rfl (?_ : RR _ _ _ _ 44 _ _ _ _)
          refine R_iald dX11_tips_44 (fun q44 => (?_ : RR _ _ _ _ 45 _ _ _ _))
          rw [g18] at q44 ⊢
          refine R_iload_n dX11_tips_45 rfl (?_ : RR _ _ _ _ 46 _ _ _ _)
          refine R_icmp_ne (t := 66) dX11_tips_46 rfl (fun c46 => ?_) (fun c46 => ?_)
          · exfalso; omega
          refine R_aload_n dX11_tips_49 rfl (?_ : RR _ _ _ _ 50 _ _ _ _)
          refine R_iload_n dX11_tips_50 rfl (?_ : RR _ _ _ _ 51 _ _ _ _)
          refine R_iload dX11_tips_51 rfl (?_ : RR _ _ _ _ 53 _ _ _ _)
          refine R_qV2 dX11_tips_53 mvX10_isTipping mlX11_321 (by decide) (by decide) (Nat.le_of_ble_eq_true rfl) (Nat.le_of_ble_eq_true rfl) (hit) (fun r9 g9 hq9 => (?_ : RR _ _ _ _ 56 _ _ _ _))
          obtain ⟨rfl, s2, rfl⟩ := hq9
          rw [rup_rup]
          show RR _ _ _ _ _ _ [pI 1] _ _
          refine R_if_eq (t := 66) dX11_tips_56 rfl (fun c56 => ?_) (fun c56 => ?_)
          · exfalso; omega
          refine R_iload_n dX11_tips_59 rfl (?_ : RR _ _ _ _ 60 _ _ _ _)
          refine R_iconst dX11_tips_60 (?_ : RR _ _ _ _ 61 _ _ _ _)
          refine R_iload dX11_tips_61 rfl (?_ : RR _ _ _ _ 63 _ _ _ _)
          refine R_ishl dX11_tips_63 (?_ : RR _ _ _ _ 64 _ _ _ _)
          refine R_ior dX11_tips_64 (?_ : RR _ _ _ _ 65 _ _ _ _)
          rw [e]
          refine R_istore_n dX11_tips_65 (Nat.le_of_ble_eq_true rfl) (?_ : RR _ _ _ _ 66 [_, _, _, _, _] _ _ _)
          refine R_iinc dX11_tips_66 rfl (Nat.le_of_ble_eq_true rfl) (?_ : RR _ _ _ _ 69 [_, _, _, _, _] _ _ _)
          refine R_goto (t := 23) dX11_tips_69 rfl (?_ : RR _ _ _ _ 23 _ _ _ _)
          exact IH _
        · rw [if_neg z] at hit
          rw [bset_no (P := P) (n := i) (by rw [hP]; exact decide_eq_false (fun q => z q.2))] at IH
          refine R_iload dX11_tips_23 rfl (?_ : RR _ _ _ _ 25 _ _ _ _)
          refine R_aload_n dX11_tips_25 rfl (?_ : RR _ _ _ _ 26 _ _ _ _)
          refine R_getr dX11_tips_26 flX11_29 cok_11 rfl (by decide) (?_ : RR _ _ _ _ 29 _ _ _ _)
          refine R_geti (z := 0) dX11_tips_29 flX11_116 cok_2 rfl (by decide) rfl (fun q29 => (?_ : RR _ _ _ _ 32 _ _ _ _))
          rw [g11] at q29 ⊢
          refine R_icmp_ge (t := 72) dX11_tips_32 rfl (fun c32 => ?_) (fun c32 => ?_)
          · exfalso; omega
          refine R_aload_n dX11_tips_35 rfl (?_ : RR _ _ _ _ 36 _ _ _ _)
          refine R_getr dX11_tips_36 flX11_36 cok_11 rfl (by decide) (?_ : RR _ _ _ _ 39 _ _ _ _)
          refine R_getr dX11_tips_39 flX11_205 cok_9 rfl (by decide) (?_ : RR _ _ _ _ 42 _ _ _ _)
          refine R_iload dX11_tips_42 rfl (?_ : RR _ _ _ _ 44 _ _ _ _)
          refine R_iald dX11_tips_44 (fun q44 => (?_ : RR _ _ _ _ 45 _ _ _ _))
          rw [g18] at q44 ⊢
          refine R_iload_n dX11_tips_45 rfl (?_ : RR _ _ _ _ 46 _ _ _ _)
          refine R_icmp_ne (t := 66) dX11_tips_46 rfl (fun c46 => ?_) (fun c46 => ?_)
          · exfalso; omega
          refine R_aload_n dX11_tips_49 rfl (?_ : RR _ _ _ _ 50 _ _ _ _)
          refine R_iload_n dX11_tips_50 rfl (?_ : RR _ _ _ _ 51 _ _ _ _)
          refine R_iload dX11_tips_51 rfl (?_ : RR _ _ _ _ 53 _ _ _ _)
          refine R_qV2 dX11_tips_53 mvX10_isTipping mlX11_321 (by decide) (by decide) (Nat.le_of_ble_eq_true rfl) (Nat.le_of_ble_eq_true rfl) (hit) (fun r9 g9 hq9 => (?_ : RR _ _ _ _ 56 _ _ _ _))
          obtain ⟨rfl, s2, rfl⟩ := hq9
          rw [rup_rup]
          show RR _ _ _ _ _ _ [pI 0] _ _
          refine R_if_eq (t := 66) dX11_tips_56 rfl (fun c56 => ?_) (fun c56 => ?_)
          rotate_left
          · exfalso; omega
          refine R_iinc dX11_tips_66 rfl (Nat.le_of_ble_eq_true rfl) (?_ : RR _ _ _ _ 69 [_, _, _, _, _] _ _ _)
          refine R_goto (t := 23) dX11_tips_69 rfl (?_ : RR _ _ _ _ 23 _ _ _ _)
          exact IH _
      · rw [bset_no (P := P) (n := i) (by rw [hP]; exact decide_eq_false (fun q => y q.1))] at IH
        have hsi := hcp.1.2.2.2.2.2 i (show i < np by omega)
        have hsi : mS (h 154) i = -1 ∨ (0 ≤ mS (h 154) i ∧ mS (h 154) i < nc ∧ _) := hsi
        refine R_iload dX11_tips_23 rfl (?_ : RR _ _ _ _ 25 _ _ _ _)
        refine R_aload_n dX11_tips_25 rfl (?_ : RR _ _ _ _ 26 _ _ _ _)
        refine R_getr dX11_tips_26 flX11_29 cok_11 rfl (by decide) (?_ : RR _ _ _ _ 29 _ _ _ _)
        refine R_geti (z := 0) dX11_tips_29 flX11_116 cok_2 rfl (by decide) rfl (fun q29 => (?_ : RR _ _ _ _ 32 _ _ _ _))
        rw [g11] at q29 ⊢
        refine R_icmp_ge (t := 72) dX11_tips_32 rfl (fun c32 => ?_) (fun c32 => ?_)
        · exfalso; omega
        refine R_aload_n dX11_tips_35 rfl (?_ : RR _ _ _ _ 36 _ _ _ _)
        refine R_getr dX11_tips_36 flX11_36 cok_11 rfl (by decide) (?_ : RR _ _ _ _ 39 _ _ _ _)
        refine R_getr dX11_tips_39 flX11_205 cok_9 rfl (by decide) (?_ : RR _ _ _ _ 42 _ _ _ _)
        refine R_iload dX11_tips_42 rfl (?_ : RR _ _ _ _ 44 _ _ _ _)
        refine R_iald dX11_tips_44 (fun q44 => (?_ : RR _ _ _ _ 45 _ _ _ _))
        rw [g18] at q44 ⊢
        refine R_iload_n dX11_tips_45 rfl (?_ : RR _ _ _ _ 46 _ _ _ _)
        refine R_icmp_ne (t := 66) dX11_tips_46 rfl (fun c46 => ?_) (fun c46 => ?_)
        rotate_left
        · exfalso; omega
        refine R_iinc dX11_tips_66 rfl (Nat.le_of_ble_eq_true rfl) (?_ : RR _ _ _ _ 69 [_, _, _, _, _] _ _ _)
        refine R_goto (t := 23) dX11_tips_69 rfl (?_ : RR _ _ _ _ 23 _ _ _ _)
        exact IH _
  refine R_aload_n dX11_tips_0 rfl (?_ : RR _ _ _ _ 1 _ _ _ _)
  refine R_getr dX11_tips_1 flX11_36 cok_11 rfl (by decide) (?_ : RR _ _ _ _ 4 _ _ _ _)
  refine R_iload_n dX11_tips_4 rfl (?_ : RR _ _ _ _ 5 _ _ _ _)
  refine R_cVi1 dX11_tips_5 mvX9_has mlX11_174 (by decide) (by decide) (Nat.le_of_ble_eq_true rfl) (Nat.le_of_ble_eq_true rfl) (T_X9_has) (?_ : RR _ _ _ _ 8 _ _ _ _)
  rw [e2, if_pos (by omega)]
  refine R_if_ne (t := 13) dX11_tips_8 rfl (fun c8 => ?_) (fun c8 => ?_)
  rotate_left
  · exfalso; omega
  refine R_aload_n dX11_tips_13 rfl (?_ : RR _ _ _ _ 14 _ _ _ _)
  refine R_qV0 dX11_tips_14 mvX11_heldVote mlX11_190 (by decide) (by decide) (Nat.le_of_ble_eq_true rfl) (Nat.le_of_ble_eq_true rfl) (hT) (fun r9 g9 hq9 => (?_ : RR _ _ _ _ 17 _ _ _ _))
  obtain ⟨rfl, h5, rfl, hh⟩ := hq9
  show RR _ _ _ _ _ _ [pR 36] _ _
  refine R_astore_n dX11_tips_17 (Nat.le_of_ble_eq_true rfl) (?_ : RR _ _ _ _ 18 [_, _, _, _, _] _ _ _)
  refine R_iconst dX11_tips_18 (?_ : RR _ _ _ _ 19 _ _ _ _)
  refine R_istore_n dX11_tips_19 (Nat.le_of_ble_eq_true rfl) (?_ : RR _ _ _ _ 20 [_, _, _, _, _] _ _ _)
  refine R_iconst dX11_tips_20 (?_ : RR _ _ _ _ 21 _ _ _ _)
  refine R_istore dX11_tips_21 (Nat.le_of_ble_eq_true rfl) (?_ : RR _ _ _ _ 23 [_, _, _, _, _] _ _ _)
  have L0 := L np 0 h5 (h5 42) (by omega) hh
  rw [rup_self] at L0
  exact L0
set_option maxHeartbeats 4000000 in
theorem M_tips {c : Nat} {X : Cx} {P : Nat → Bool} {b : Int → Int} {as : Int} (hs : SRx k h sem H np nc len) (hX : X = cxM sem h np nc) (hc : c < nc) (hb : b = poS (fun p => decide (mS (h 154) p = c)) (xV X (h 154)) (xWi X (h 154)) np) (has : as = chS (b 0) (b 1) (b 2)) (hP : P = fun p : Nat => decide (mS (h 154) p = c ∧ (tpV b (xV X (h 154)) (xWi X (h 154)) p 0 ≠ as ∨ tpV b (xV X (h 154)) (xWi X (h 154)) p 1 ≠ as ∨ tpV b (xV X (h 154)) (xWi X (h 154)) p 2 ≠ as))) (e : ∀ a, 147 ≤ a → h3 a = h a) : RR mX12_tips 6 0 0 0 (pm_ent [pR 147, pI c] 8) [] (shp0, rf0, h3) (mQ h3 (bset P np) (some [(pop 12 (bset P np) : Int)])) := by
  have x6 := sR6 hs
  have x12 := sR12 hs
  have hcp := hs.2.2.2.1.1
  have r154 := isRw_154
  show RR _ _ _ _ _ [pR 147, pI c, pU, pU, pU, pU, pU, pU] _ _ _
  obtain ⟨h4, h4e⟩ : ∃ h4, h4 = rup h3 147 (fup (h3 147) 0 0) := ⟨_, rfl⟩
  have f4 : ∀ a, 147 < a → h4 a = h a := fun a a1 => by rw [h4e, rup_n (by omega)]; exact e a (by omega)
  have j4 : ∀ j : Int, j ≠ 0 → h4 147 j = h 147 j := fun j j1 => by rw [h4e, rup_s, fup_n j1, e 147 (by omega)]
  have g4 : h4 147 4 = nc := by rw [j4 4 (by omega)]; exact hs.1.2.1
  have hpl := bset_4096 (P := P) (n := np) x12
  have hp12 := pop_12 (P := P) (n := np) x12
  have hbb : ∀ j : Int, 0 ≤ b j ∧ b j ≤ 1200 := fun j => by
    have hbj := poS_b (P := fun p => decide (mS (h 154) p = (c : Int))) (V := xV X (h 154)) (W := xWi X (h 154)) (np := np) (j := j) (fun p => xV_b)
    rw [← hb] at hbj
    omega
  have hasb : 0 ≤ as ∧ as ≤ 2 := by rw [has]; exact chS_b
  -- what any later heap is
  have hyp : ∀ h1 : Nat → Int → Int, (∀ a, a ≠ 160 → a ≠ 161 → a ≠ 162 → h1 a = h4 a) → mOK h1 154 np ∧ mrOK h1 sem ∧ h1 147 5 = np ∧ h1 154 = h 154 ∧ cxM sem h1 np nc = X ∧ mqF h3 h1 := fun h1 hf => by
    refine ⟨mOK_s hs (fun a q => by rw [hf a (by omega) (by omega) (by omega)]; exact f4 a (by omega)), mrOK_fr hs.1.2.2.2.2.2.2.2.1 (by rw [hf 147 (by omega) (by omega) (by omega), j4 23 (by omega)]) (by rw [hf 158 (by omega) (by omega) (by omega)]; exact f4 158 (by omega)), by rw [hf 147 (by omega) (by omega) (by omega), j4 5 (by omega)]; exact hs.1.2.2.1, by rw [hf 154 (by omega) (by omega) (by omega)]; exact f4 154 (by omega), by rw [hX]; exact cxM_fr (fun a a1 a2 => by rw [hf a (by omega) (by omega) (by omega)]; exact f4 a (by omega)), ⟨fun a q => by rw [hf a (by omega) (by omega) (by omega), h4e, rup_n (by omega)], fun j q => by rw [hf 147 (by omega) (by omega) (by omega), h4e, rup_s, fup_n (by omega)], fun q => by rw [hf 147 (by omega) (by omega) (by omega), h4e, rup_s, fup_n (by omega)]; exact q, fun j q => by rw [hf 155 (by omega) (by omega) (by omega), h4e, rup_n (by omega)]⟩⟩
  have L : ∀ (j i : Nat) (h1 : Nat → Int → Int) (w5 w6 w7 : PV), i + j = np → (∀ a, a ≠ 160 → a ≠ 161 → a ≠ 162 → h1 a = h4 a) → (∀ j : Int, 0 ≤ j → j < 3 → h1 162 j = b j) → RR mX12_tips 6 0 0 30 [pR 147, pI c, pI as, pI (bset P i), pI i, w5, w6, w7] [] (shp0, rf0, h1) (mQ h3 (bset P np) (some [(pop 12 (bset P np) : Int)])) := by
    intro j
    induction j with
    | zero =>
      intro i h1 w5 w6 w7 hi hf hpo
      obtain rfl : i = np := by omega
      obtain ⟨y1, y2, y3, y4, y5, y6⟩ := hyp h1 hf
      refine R_iload dX12_tips_30 rfl (?_ : RR _ _ _ _ 32 _ _ _ _)
      refine R_aload_n dX12_tips_32 rfl (?_ : RR _ _ _ _ 33 _ _ _ _)
      refine R_geti (z := 5) dX12_tips_33 flX12_127 cok_12 rfl (by decide) rfl (fun q33 => (?_ : RR _ _ _ _ 36 _ _ _ _))
      rw [y3] at q33 ⊢
      refine R_icmp_ge (t := 165) dX12_tips_36 rfl (fun c36 => ?_) (fun c36 => ?_)
      rotate_left
      · exfalso; omega
      refine R_aload_n dX12_tips_165 rfl (?_ : RR _ _ _ _ 166 _ _ _ _)
      refine R_iconst dX12_tips_166 (?_ : RR _ _ _ _ 167 _ _ _ _)
      refine R_puti (zk := 1) dX12_tips_167 flX12_113 cok_12 (by decide) (fun q hq => by cases hq; rfl) rfl (?_ : RR _ _ _ _ 170 _ _ _ _)
      show RR _ _ _ _ _ _ _ (shp0, rf0, tmR h1 []) _
      refine R_aload_n dX12_tips_170 rfl (?_ : RR _ _ _ _ 171 _ _ _ _)
      refine R_iload_n dX12_tips_171 rfl (?_ : RR _ _ _ _ 172 _ _ _ _)
      refine R_cSi1 dX12_tips_172 msJ6_bitCount_0f7a4 mlX12_273 (by decide) (Nat.le_of_ble_eq_true rfl) (Nat.le_of_ble_eq_true rfl) (T_J6_bitCount_0f7a4) (?_ : RR _ _ _ _ 175 _ _ _ _)
      refine R_i2l dX12_tips_175 (by first | assumption | omega) (?_ : RR _ _ _ _ 176 _ _ _ _)
      refine R_cVv1 dX12_tips_176 mvX12_enters mlX12_116 (by decide) (by decide) (Nat.le_of_ble_eq_true rfl) (Nat.le_of_ble_eq_true rfl) (T_tma (by simp) (by omega)) (?_ : RR _ _ _ _ 179 _ _ _ _)
      refine R_iload_n dX12_tips_179 rfl (?_ : RR _ _ _ _ 180 _ _ _ _)
      exact R_ireturn dX12_tips_180 trivial (mQ_tm y6 rfl)
    | succ j ih =>
      intro i h1 w5 w6 w7 hi hf hpo
      obtain ⟨y1, y2, y3, y4, y5, y6⟩ := hyp h1 hf
      have g154 : h1 154 (14 + (i : Int)) = mS (h 154) i := by rw [y4]; rfl
      have hsi := hcp.1.2.2.2.2.2 i (show i < np by omega)
      have hsi : mS (h 154) i = -1 ∨ (0 ≤ mS (h 154) i ∧ mS (h 154) i < nc ∧ _) := hsi
      by_cases y : mS (h 154) i = c
      · obtain ⟨V, hV⟩ : ∃ V : Int, V = xV X (h 154) i := ⟨_, rfl⟩
        obtain ⟨W, hW⟩ : ∃ W : Int, W = xWi X (h 154) i := ⟨_, rfl⟩
        have hVb := xV_b (X := X) (f := h 154) (p := i)
        have hWb := xWi_b (X := X) (f := h 154) (p := i) (by rw [y]; omega)
        rw [← hV] at hVb
        rw [← hW] at hWb
        have hwi := T_X12_wishOf (h := h1) (r := 154) (np := np) (p := i) y1 (by omega) (by rw [y4, y]; omega)
        have hwe : wiS (h1 149) (h1 150) (nds (h1 151)) (h1 152) (mS (h1 154)) (mP (h1 154)) (mA (h1 154)) (h1 154 0) i = W := by
          rw [hW, ← y5, ← y4]
          rfl
        rw [hwe] at hwi
        have hvo := T_X12_votesOf (h := h1) (r := 154) (np := np) (p := i) (sem := sem) y1 y2 y3 (by omega) (by rw [y4, y]; omega)
        have hve : vtS sem (h1 153) (h1 152) (nds (h1 151)) (mS (h1 154)) (mP (h1 154)) (mA (h1 154)) (h1 154 0) (h1 154 1) np i = V := by
          rw [hV, ← y5, ← y4]
          rfl
        rw [hve] at hvo
        have hge : V ≤ b W := by
          rw [hb, hV, hW]
          exact poS_ge (fun p => (xV_b).1) (show i < np by omega) (decide_eq_true y) rfl
        -- behind the votes
        have K : ∀ h2 : Nat → Int → Int, (∀ a, a ≠ 160 → a ≠ 161 → h2 a = h1 a) → RR mX12_tips 6 0 0 77 [pR 147, pI c, pI as, pI (bset P i), pI i, pI W, pI V, w7] [] (shp0, rf0, h2) (mQ h3 (bset P np) (some [(pop 12 (bset P np) : Int)])) := by
          intro h2 hf2
          have e162 : h2 162 = h1 162 := hf2 162 (by omega) (by omega)
          obtain ⟨R, hR⟩ : ∃ R, R = fup (h1 162) W (h1 162 W - V) := ⟨_, rfl⟩
          have hRj : ∀ j : Int, 0 ≤ j → j < 3 → R j = b j - (if W = j then V else 0) := fun j j0 j1 => by
            rw [hR]
            by_cases q : j = W
            · rw [q, fup_s, if_pos rfl, hpo W (by omega) (by omega)]
            · rw [fup_n q, if_neg (fun z => q z.symm), hpo j j0 j1, Int.sub_zero]
          have hRb : ∀ j : Int, 0 ≤ j → j < 3 → 0 ≤ R j ∧ R j ≤ 1200 := fun j j0 j1 => by
            rw [hRj j j0 j1]
            have := hbb j
            by_cases q : W = j
            · rw [if_pos q]
              rw [q] at hge
              omega
            · rw [if_neg q]
              omega
          have htp : ∀ w : Int, 0 ≤ w → w < 3 → chS (fup R w (R w + V) 0) (fup R w (R w + V) 1) (fup R w (R w + V) 2) = tpV b (xV X (h 154)) (xWi X (h 154)) i w := fun w w0 w1 => by
            unfold tpV
            rw [← hV, ← hW]
            have key : ∀ j : Int, 0 ≤ j → j < 3 → fup R w (R w + V) j = b j + ((if j = w then V else 0) - (if W = j then V else 0)) := fun j j0 j1 => by
              by_cases q : j = w
              · rw [q, fup_s, if_pos rfl, hRj w w0 w1]
                omega
              · rw [fup_n q, if_neg q, hRj j j0 j1]
                omega
            rw [key 0 (by omega) (by omega), key 1 (by omega) (by omega), key 2 (by omega) (by omega)]
          have back : fup R W (R W + V) = h1 162 := by
            rw [hR, fup_s, fup_fup, Int.sub_add_cancel, fup_self]
          -- behind the three wishes
          have K3 : RR mX12_tips 6 0 0 92 [pR 147, pI c, pI as, pI (bset P (i + 1)), pI i, pI W, pI V, pI 3] [] (shp0, rf0, rup h2 162 R) (mQ h3 (bset P np) (some [(pop 12 (bset P np) : Int)])) := by
            have bW := hRb W (by omega) (by omega)
            refine R_iload dX12_tips_92 rfl (?_ : RR _ _ _ _ 94 _ _ _ _)
            refine R_iconst dX12_tips_94 (?_ : RR _ _ _ _ 95 _ _ _ _)
            refine R_icmp_ge (t := 147) dX12_tips_95 rfl (fun c95 => ?_) (fun c95 => ?_)
            rotate_left
            · exfalso; omega
            refine R_aload_n dX12_tips_147 rfl (?_ : RR _ _ _ _ 148 _ _ _ _)
            refine R_getr dX12_tips_148 flX12_57 cok_12 rfl (by decide) (?_ : RR _ _ _ _ 151 _ _ _ _)
            refine R_iload dX12_tips_151 rfl (?_ : RR _ _ _ _ 153 _ _ _ _)
            refine R_dup2 dX12_tips_153 (fun _ => rfl) (fun _ => rfl) (?_ : RR _ _ _ _ 154 _ _ _ _)
            refine R_iald dX12_tips_154 (fun q154 => (?_ : RR _ _ _ _ 155 _ _ _ _))
            try simp (disch := omega) only [rup_rup, rup_sort, rupS_def, rup_s, rup_n, fup_fup, fup_s, fup_n] at q154 ⊢
            refine R_iload dX12_tips_155 rfl (?_ : RR _ _ _ _ 157 _ _ _ _)
            refine R_iadd dX12_tips_157 (?_ : RR _ _ _ _ 158 _ _ _ _)
            refine R_iast dX12_tips_158 (?_ : RR _ _ _ _ 159 _ _ _ _)
            try simp (disch := omega) only [rup_rup, rup_sort, rupS_def, rup_s, rup_n, fup_fup, fup_s, fup_n]
            rw [back, rup_id (a := 162) e162]
            refine R_iinc dX12_tips_159 rfl (Nat.le_of_ble_eq_true rfl) (?_ : RR _ _ _ _ 162 [_, _, _, _, _, _, _, _] _ _ _)
            refine R_goto (t := 30) dX12_tips_162 rfl (?_ : RR _ _ _ _ 30 _ _ _ _)
            exact ih (i + 1) h2 _ _ _ (by omega) (fun a a1 a2 a3 => (hf2 a a1 a2).trans (hf a a1 a2 a3)) (fun j j0 j1 => by rw [e162]; exact hpo j j0 j1)
          have hsh := iShl_one i (by omega)
          have hpw : 2 ^ i < 2 ^ 12 := Nat.pow_lt_pow_right (by omega) (by omega)
          have hbl := bset_4096 (P := P) (n := i) (by omega)
          -- one wish
          have S : ∀ (w : Int) (B : Nat), 0 ≤ w → w < 3 → B < 4096 → RR mX12_tips 6 0 0 92 [pR 147, pI c, pI as, pI ((if tpV b (xV X (h 154)) (xWi X (h 154)) i w ≠ as then B ||| 2 ^ i else B : Nat) : Int), pI i, pI W, pI V, pI (w + 1)] [] (shp0, rf0, rup h2 162 R) (mQ h3 (bset P np) (some [(pop 12 (bset P np) : Int)])) → RR mX12_tips 6 0 0 92 [pR 147, pI c, pI as, pI (B : Int), pI i, pI W, pI V, pI w] [] (shp0, rf0, rup h2 162 R) (mQ h3 (bset P np) (some [(pop 12 (bset P np) : Int)])) := by
            intro w B w0 w1 hB KK
            have bw := hRb w w0 w1
            have nn : ∀ j : Int, 0 ≤ j → j < 3 → 0 ≤ rup h2 162 (fup R w (R w + V)) 162 j := fun j j0 j1 => by
              rw [rup_s]
              unfold fup
              have := hRb j j0 j1
              split <;> omega
            have hpo2 := T_X12_polled (h := rup h2 162 (fup R w (R w + V))) (nn 0 (by omega) (by omega)) (nn 1 (by omega) (by omega)) (nn 2 (by omega) (by omega))
            rw [rup_s, htp w w0 w1] at hpo2
            have htb : 0 ≤ tpV b (xV X (h 154)) (xWi X (h 154)) i w ∧ tpV b (xV X (h 154)) (xWi X (h 154)) i w ≤ 2 := chS_b
            have bk2 : fup (fup R w (R w + V)) w (fup R w (R w + V) w - V) = R := by rw [fup_s, fup_fup, Int.add_sub_cancel, fup_self]
            rw [fup_fup, fup_s] at bk2
            by_cases u : tpV b (xV X (h 154)) (xWi X (h 154)) i w = as
            · rw [if_neg (fun z => z u)] at KK
              refine R_iload dX12_tips_92 rfl (?_ : RR _ _ _ _ 94 _ _ _ _)
              refine R_iconst dX12_tips_94 (?_ : RR _ _ _ _ 95 _ _ _ _)
              refine R_icmp_ge (t := 147) dX12_tips_95 rfl (fun c95 => ?_) (fun c95 => ?_)
              · exfalso; omega
              refine R_aload_n dX12_tips_98 rfl (?_ : RR _ _ _ _ 99 _ _ _ _)
              refine R_getr dX12_tips_99 flX12_57 cok_12 rfl (by decide) (?_ : RR _ _ _ _ 102 _ _ _ _)
              refine R_iload dX12_tips_102 rfl (?_ : RR _ _ _ _ 104 _ _ _ _)
              refine R_dup2 dX12_tips_104 (fun _ => rfl) (fun _ => rfl) (?_ : RR _ _ _ _ 105 _ _ _ _)
              refine R_iald dX12_tips_105 (fun q105 => (?_ : RR _ _ _ _ 106 _ _ _ _))
              try simp (disch := omega) only [rup_rup, rup_sort, rupS_def, rup_s, rup_n, fup_fup, fup_s, fup_n] at q105 ⊢
              refine R_iload dX12_tips_106 rfl (?_ : RR _ _ _ _ 108 _ _ _ _)
              refine R_iadd dX12_tips_108 (?_ : RR _ _ _ _ 109 _ _ _ _)
              refine R_iast dX12_tips_109 (?_ : RR _ _ _ _ 110 _ _ _ _)
              try simp (disch := omega) only [rup_rup, rup_sort, rupS_def, rup_s, rup_n, fup_fup, fup_s, fup_n]
              refine R_iload_n dX12_tips_110 rfl (?_ : RR _ _ _ _ 111 _ _ _ _)
              refine R_aload_n dX12_tips_111 rfl (?_ : RR _ _ _ _ 112 _ _ _ _)
              refine R_cVi0 dX12_tips_112 mvX12_polled mlX12_300 (by decide) (by decide) (Nat.le_of_ble_eq_true rfl) (Nat.le_of_ble_eq_true rfl) (hpo2) (?_ : RR _ _ _ _ 115 _ _ _ _)
              try simp (disch := omega) only [rup_rup, rup_sort, rupS_def, rup_s, rup_n, fup_fup, fup_s, fup_n]
              refine R_iload_n dX12_tips_115 rfl (?_ : RR _ _ _ _ 116 _ _ _ _)
              refine R_icmp_eq (t := 126) dX12_tips_116 rfl (fun c116 => ?_) (fun c116 => ?_)
              rotate_left
              · exfalso; omega
              refine R_iconst dX12_tips_126 (?_ : RR _ _ _ _ 127 _ _ _ _)
              refine R_ior dX12_tips_127 (?_ : RR _ _ _ _ 128 _ _ _ _)
              rw [iOr_0 (by omega)]
              refine R_istore_n dX12_tips_128 (Nat.le_of_ble_eq_true rfl) (?_ : RR _ _ _ _ 129 [_, _, _, _, _, _, _, _] _ _ _)
              refine R_aload_n dX12_tips_129 rfl (?_ : RR _ _ _ _ 130 _ _ _ _)
              refine R_getr dX12_tips_130 flX12_57 cok_12 rfl (by decide) (?_ : RR _ _ _ _ 133 _ _ _ _)
              refine R_iload dX12_tips_133 rfl (?_ : RR _ _ _ _ 135 _ _ _ _)
              refine R_dup2 dX12_tips_135 (fun _ => rfl) (fun _ => rfl) (?_ : RR _ _ _ _ 136 _ _ _ _)
              refine R_iald dX12_tips_136 (fun q136 => (?_ : RR _ _ _ _ 137 _ _ _ _))
              try simp (disch := omega) only [rup_rup, rup_sort, rupS_def, rup_s, rup_n, fup_fup, fup_s, fup_n] at q136 ⊢
              refine R_iload dX12_tips_137 rfl (?_ : RR _ _ _ _ 139 _ _ _ _)
              refine R_isub dX12_tips_139 (?_ : RR _ _ _ _ 140 _ _ _ _)
              refine R_iast dX12_tips_140 (?_ : RR _ _ _ _ 141 _ _ _ _)
              try simp (disch := omega) only [rup_rup, rup_sort, rupS_def, rup_s, rup_n, fup_fup, fup_s, fup_n]
              rw [bk2]
              refine R_iinc dX12_tips_141 rfl (Nat.le_of_ble_eq_true rfl) (?_ : RR _ _ _ _ 144 [_, _, _, _, _, _, _, _] _ _ _)
              refine R_goto (t := 92) dX12_tips_144 rfl (?_ : RR _ _ _ _ 92 _ _ _ _)
              exact KK
            · rw [if_pos u] at KK
              have hor := iOr_nat (a := B) (b := 2 ^ i) (by omega) (by omega)
              refine R_iload dX12_tips_92 rfl (?_ : RR _ _ _ _ 94 _ _ _ _)
              refine R_iconst dX12_tips_94 (?_ : RR _ _ _ _ 95 _ _ _ _)
              refine R_icmp_ge (t := 147) dX12_tips_95 rfl (fun c95 => ?_) (fun c95 => ?_)
              · exfalso; omega
              refine R_aload_n dX12_tips_98 rfl (?_ : RR _ _ _ _ 99 _ _ _ _)
              refine R_getr dX12_tips_99 flX12_57 cok_12 rfl (by decide) (?_ : RR _ _ _ _ 102 _ _ _ _)
              refine R_iload dX12_tips_102 rfl (?_ : RR _ _ _ _ 104 _ _ _ _)
              refine R_dup2 dX12_tips_104 (fun _ => rfl) (fun _ => rfl) (?_ : RR _ _ _ _ 105 _ _ _ _)
              refine R_iald dX12_tips_105 (fun q105 => (?_ : RR _ _ _ _ 106 _ _ _ _))
              try simp (disch := omega) only [rup_rup, rup_sort, rupS_def, rup_s, rup_n, fup_fup, fup_s, fup_n] at q105 ⊢
              refine R_iload dX12_tips_106 rfl (?_ : RR _ _ _ _ 108 _ _ _ _)
              refine R_iadd dX12_tips_108 (?_ : RR _ _ _ _ 109 _ _ _ _)
              refine R_iast dX12_tips_109 (?_ : RR _ _ _ _ 110 _ _ _ _)
              try simp (disch := omega) only [rup_rup, rup_sort, rupS_def, rup_s, rup_n, fup_fup, fup_s, fup_n]
              refine R_iload_n dX12_tips_110 rfl (?_ : RR _ _ _ _ 111 _ _ _ _)
              refine R_aload_n dX12_tips_111 rfl (?_ : RR _ _ _ _ 112 _ _ _ _)
              refine R_cVi0 dX12_tips_112 mvX12_polled mlX12_300 (by decide) (by decide) (Nat.le_of_ble_eq_true rfl) (Nat.le_of_ble_eq_true rfl) (hpo2) (?_ : RR _ _ _ _ 115 _ _ _ _)
              try simp (disch := omega) only [rup_rup, rup_sort, rupS_def, rup_s, rup_n, fup_fup, fup_s, fup_n]
              refine R_iload_n dX12_tips_115 rfl (?_ : RR _ _ _ _ 116 _ _ _ _)
              refine R_icmp_eq (t := 126) dX12_tips_116 rfl (fun c116 => ?_) (fun c116 => ?_)
              · exfalso; omega
              refine R_iconst dX12_tips_119 (?_ : RR _ _ _ _ 120 _ _ _ _)
              refine R_iload dX12_tips_120 rfl (?_ : RR _ _ _ _ 122 _ _ _ _)
              refine R_ishl dX12_tips_122 (?_ : RR _ _ _ _ 123 _ _ _ _)
              rw [hsh]
              refine R_goto (t := 127) dX12_tips_123 rfl (?_ : RR _ _ _ _ 127 _ _ _ _)
              refine R_ior dX12_tips_127 (?_ : RR _ _ _ _ 128 _ _ _ _)
              rw [hor]
              refine R_istore_n dX12_tips_128 (Nat.le_of_ble_eq_true rfl) (?_ : RR _ _ _ _ 129 [_, _, _, _, _, _, _, _] _ _ _)
              refine R_aload_n dX12_tips_129 rfl (?_ : RR _ _ _ _ 130 _ _ _ _)
              refine R_getr dX12_tips_130 flX12_57 cok_12 rfl (by decide) (?_ : RR _ _ _ _ 133 _ _ _ _)
              refine R_iload dX12_tips_133 rfl (?_ : RR _ _ _ _ 135 _ _ _ _)
              refine R_dup2 dX12_tips_135 (fun _ => rfl) (fun _ => rfl) (?_ : RR _ _ _ _ 136 _ _ _ _)
              refine R_iald dX12_tips_136 (fun q136 => (?_ : RR _ _ _ _ 137 _ _ _ _))
              try simp (disch := omega) only [rup_rup, rup_sort, rupS_def, rup_s, rup_n, fup_fup, fup_s, fup_n] at q136 ⊢
              refine R_iload dX12_tips_137 rfl (?_ : RR _ _ _ _ 139 _ _ _ _)
              refine R_isub dX12_tips_139 (?_ : RR _ _ _ _ 140 _ _ _ _)
              refine R_iast dX12_tips_140 (?_ : RR _ _ _ _ 141 _ _ _ _)
              try simp (disch := omega) only [rup_rup, rup_sort, rupS_def, rup_s, rup_n, fup_fup, fup_s, fup_n]
              rw [bk2]
              refine R_iinc dX12_tips_141 rfl (Nat.le_of_ble_eq_true rfl) (?_ : RR _ _ _ _ 144 [_, _, _, _, _, _, _, _] _ _ _)
              refine R_goto (t := 92) dX12_tips_144 rfl (?_ : RR _ _ _ _ 92 _ _ _ _)
              exact KK
          have hbs : bset P (i + 1) = bset P i ||| (if P i then 2 ^ i else 0) := rfl
          have hPi : P i = decide (tpV b (xV X (h 154)) (xWi X (h 154)) i 0 ≠ as ∨ tpV b (xV X (h 154)) (xWi X (h 154)) i 1 ≠ as ∨ tpV b (xV X (h 154)) (xWi X (h 154)) i 2 ≠ as) := by
            rw [hP]
            apply decide_eq_decide.mpr
            exact ⟨fun z => z.2, fun z => ⟨y, z⟩⟩
          have hor2 : (bset P i ||| 2 ^ i) ||| 2 ^ i = bset P i ||| 2 ^ i := by rw [Nat.or_assoc, Nat.or_self]
          have hle : bset P i ||| 2 ^ i < 4096 := Nat.or_lt_two_pow (n := 12) hbl hpw
          have KF : RR mX12_tips 6 0 0 92 [pR 147, pI c, pI as, pI (bset P i), pI i, pI W, pI V, pI 0] [] (shp0, rf0, rup h2 162 R) (mQ h3 (bset P np) (some [(pop 12 (bset P np) : Int)])) := by
            refine S 0 (bset P i) (by omega) (by omega) hbl ?_
            by_cases u0 : tpV b (xV X (h 154)) (xWi X (h 154)) i 0 ≠ as
            · rw [hbs, hPi, if_pos (decide_eq_true (Or.inl u0))] at K3
              rw [if_pos u0]
              refine S 1 _ (by omega) (by omega) hle ?_
              rw [show (if tpV b (xV X (h 154)) (xWi X (h 154)) i 1 ≠ as then (bset P i ||| 2 ^ i) ||| 2 ^ i else bset P i ||| 2 ^ i) = bset P i ||| 2 ^ i by rw [hor2]; split <;> rfl]
              refine S 2 _ (by omega) (by omega) hle ?_
              rw [show (if tpV b (xV X (h 154)) (xWi X (h 154)) i 2 ≠ as then (bset P i ||| 2 ^ i) ||| 2 ^ i else bset P i ||| 2 ^ i) = bset P i ||| 2 ^ i by rw [hor2]; split <;> rfl]
              exact K3
            · rw [if_neg u0]
              refine S 1 _ (by omega) (by omega) hbl ?_
              by_cases u1 : tpV b (xV X (h 154)) (xWi X (h 154)) i 1 ≠ as
              · rw [hbs, hPi, if_pos (decide_eq_true (Or.inr (Or.inl u1)))] at K3
                rw [if_pos u1]
                refine S 2 _ (by omega) (by omega) hle ?_
                rw [show (if tpV b (xV X (h 154)) (xWi X (h 154)) i 2 ≠ as then (bset P i ||| 2 ^ i) ||| 2 ^ i else bset P i ||| 2 ^ i) = bset P i ||| 2 ^ i by rw [hor2]; split <;> rfl]
                exact K3
              · rw [if_neg u1]
                refine S 2 _ (by omega) (by omega) hbl ?_
                by_cases u2 : tpV b (xV X (h 154)) (xWi X (h 154)) i 2 ≠ as
                · rw [hbs, hPi, if_pos (decide_eq_true (Or.inr (Or.inr u2)))] at K3
                  rw [if_pos u2]
                  exact K3
                · rw [if_neg u2]
                  rw [hbs, hPi, if_neg (fun z => by rcases of_decide_eq_true z with z | z | z; exact u0 z; exact u1 z; exact u2 z), Nat.or_zero] at K3
                  exact K3
          have bW := hpo W (by omega) (by omega)
          have bW2 := hbb W
          refine R_aload_n dX12_tips_77 rfl (?_ : RR _ _ _ _ 78 _ _ _ _)
          refine R_getr dX12_tips_78 flX12_57 cok_12 rfl (by decide) (?_ : RR _ _ _ _ 81 _ _ _ _)
          refine R_iload dX12_tips_81 rfl (?_ : RR _ _ _ _ 83 _ _ _ _)
          refine R_dup2 dX12_tips_83 (fun _ => rfl) (fun _ => rfl) (?_ : RR _ _ _ _ 84 _ _ _ _)
          refine R_iald dX12_tips_84 (fun q84 => (?_ : RR _ _ _ _ 85 _ _ _ _))
          try simp (disch := omega) only [rup_rup, rup_sort, rupS_def, rup_s, rup_n, fup_fup, fup_s, fup_n] at q84 ⊢
          rw [e162, bW] at q84 ⊢
          refine R_iload dX12_tips_85 rfl (?_ : RR _ _ _ _ 87 _ _ _ _)
          refine R_isub dX12_tips_87 (?_ : RR _ _ _ _ 88 _ _ _ _)
          refine R_iast dX12_tips_88 (?_ : RR _ _ _ _ 89 _ _ _ _)
          try simp (disch := omega) only [rup_rup, rup_sort, rupS_def, rup_s, rup_n, fup_fup, fup_s, fup_n]
          rw [e162, ← bW, ← hR]
          refine R_iconst dX12_tips_89 (?_ : RR _ _ _ _ 90 _ _ _ _)
          refine R_istore dX12_tips_90 (Nat.le_of_ble_eq_true rfl) (?_ : RR _ _ _ _ 92 [_, _, _, _, _, _, _, _] _ _ _)
          exact KF
        refine R_iload dX12_tips_30 rfl (?_ : RR _ _ _ _ 32 _ _ _ _)
        refine R_aload_n dX12_tips_32 rfl (?_ : RR _ _ _ _ 33 _ _ _ _)
        refine R_geti (z := 5) dX12_tips_33 flX12_127 cok_12 rfl (by decide) rfl (fun q33 => (?_ : RR _ _ _ _ 36 _ _ _ _))
        rw [y3] at q33 ⊢
        refine R_icmp_ge (t := 165) dX12_tips_36 rfl (fun c36 => ?_) (fun c36 => ?_)
        · exfalso; omega
        refine R_aload_n dX12_tips_39 rfl (?_ : RR _ _ _ _ 40 _ _ _ _)
        refine R_getr dX12_tips_40 flX12_33 cok_12 rfl (by decide) (?_ : RR _ _ _ _ 43 _ _ _ _)
        refine R_bipush dX12_tips_43 rfl (?_ : RR _ _ _ _ 45 _ _ _ _)
        refine R_iload dX12_tips_45 rfl (?_ : RR _ _ _ _ 47 _ _ _ _)
        refine R_iadd dX12_tips_47 (?_ : RR _ _ _ _ 48 _ _ _ _)
        refine R_iald dX12_tips_48 (fun q48 => (?_ : RR _ _ _ _ 49 _ _ _ _))
        rw [g154] at q48 ⊢
        refine R_iload_n dX12_tips_49 rfl (?_ : RR _ _ _ _ 50 _ _ _ _)
        refine R_icmp_ne (t := 159) dX12_tips_50 rfl (fun c50 => ?_) (fun c50 => ?_)
        · exfalso; omega
        refine R_aload_n dX12_tips_53 rfl (?_ : RR _ _ _ _ 54 _ _ _ _)
        refine R_aload_n dX12_tips_54 rfl (?_ : RR _ _ _ _ 55 _ _ _ _)
        refine R_getr dX12_tips_55 flX12_33 cok_12 rfl (by decide) (?_ : RR _ _ _ _ 58 _ _ _ _)
        refine R_iload dX12_tips_58 rfl (?_ : RR _ _ _ _ 60 _ _ _ _)
        refine R_cVi2 dX12_tips_60 mvX12_wishOf mlX12_291 (by decide) (by decide) (Nat.le_of_ble_eq_true rfl) (Nat.le_of_ble_eq_true rfl) (hwi) (?_ : RR _ _ _ _ 63 _ _ _ _)
        refine R_istore dX12_tips_63 (Nat.le_of_ble_eq_true rfl) (?_ : RR _ _ _ _ 65 [_, _, _, _, _, _, _, _] _ _ _)
        refine R_aload_n dX12_tips_65 rfl (?_ : RR _ _ _ _ 66 _ _ _ _)
        refine R_aload_n dX12_tips_66 rfl (?_ : RR _ _ _ _ 67 _ _ _ _)
        refine R_getr dX12_tips_67 flX12_33 cok_12 rfl (by decide) (?_ : RR _ _ _ _ 70 _ _ _ _)
        refine R_iload dX12_tips_70 rfl (?_ : RR _ _ _ _ 72 _ _ _ _)
        refine R_qV2 dX12_tips_72 mvX12_votesOf mlX12_294 (by decide) (by decide) (Nat.le_of_ble_eq_true rfl) (Nat.le_of_ble_eq_true rfl) (hvo) (fun r9 g9 hq9 => (?_ : RR _ _ _ _ 75 _ _ _ _))
        obtain ⟨rfl, sk, th, rfl⟩ := hq9
        show RR _ _ _ _ _ _ [pI V] _ _
        refine R_istore dX12_tips_75 (Nat.le_of_ble_eq_true rfl) (?_ : RR _ _ _ _ 77 [_, _, _, _, _, _, _, _] _ _ _)
        exact K _ (fun a a1 a2 => by rw [rup_n a2, rup_n a1])
      · have IH := fun w5 w6 w7 => ih (i + 1) h1 w5 w6 w7 (by omega) hf hpo
        rw [bset_no (P := P) (n := i) (by rw [hP]; exact decide_eq_false (fun q => y q.1))] at IH
        refine R_iload dX12_tips_30 rfl (?_ : RR _ _ _ _ 32 _ _ _ _)
        refine R_aload_n dX12_tips_32 rfl (?_ : RR _ _ _ _ 33 _ _ _ _)
        refine R_geti (z := 5) dX12_tips_33 flX12_127 cok_12 rfl (by decide) rfl (fun q33 => (?_ : RR _ _ _ _ 36 _ _ _ _))
        rw [y3] at q33 ⊢
        refine R_icmp_ge (t := 165) dX12_tips_36 rfl (fun c36 => ?_) (fun c36 => ?_)
        · exfalso; omega
        refine R_aload_n dX12_tips_39 rfl (?_ : RR _ _ _ _ 40 _ _ _ _)
        refine R_getr dX12_tips_40 flX12_33 cok_12 rfl (by decide) (?_ : RR _ _ _ _ 43 _ _ _ _)
        refine R_bipush dX12_tips_43 rfl (?_ : RR _ _ _ _ 45 _ _ _ _)
        refine R_iload dX12_tips_45 rfl (?_ : RR _ _ _ _ 47 _ _ _ _)
        refine R_iadd dX12_tips_47 (?_ : RR _ _ _ _ 48 _ _ _ _)
        refine R_iald dX12_tips_48 (fun q48 => (?_ : RR _ _ _ _ 49 _ _ _ _))
        rw [g154] at q48 ⊢
        refine R_iload_n dX12_tips_49 rfl (?_ : RR _ _ _ _ 50 _ _ _ _)
        refine R_icmp_ne (t := 159) dX12_tips_50 rfl (fun c50 => ?_) (fun c50 => ?_)
        rotate_left
        · exfalso; omega
        refine R_iinc dX12_tips_159 rfl (Nat.le_of_ble_eq_true rfl) (?_ : RR _ _ _ _ 162 [_, _, _, _, _, _, _, _] _ _ _)
        refine R_goto (t := 30) dX12_tips_162 rfl (?_ : RR _ _ _ _ 30 _ _ _ _)
        exact IH _ _ _
  obtain ⟨y1, y2, y3, y4, y5, y6⟩ := hyp h4 (fun _ _ _ _ => rfl)
  have hvt := T_X12_voteOf (h := h4) (r := 154) (np := np) (c := (c : Int)) (sem := sem) y1 y2 y3 (by omega)
  have hve : mvS sem h4 154 np (fun p => decide (mS (h4 154) p = (c : Int))) = as := by
    rw [has, hb, mvS_x (nc := nc), y5, y4]
    unfold xVote
    rw [show xP X = np by rw [hX]; rfl]
  rw [hve] at hvt
  refine R_aload_n dX12_tips_0 rfl (?_ : RR _ _ _ _ 1 _ _ _ _)
  refine R_iconst dX12_tips_1 (?_ : RR _ _ _ _ 2 _ _ _ _)
  refine R_puti (zk := 0) dX12_tips_2 flX12_106 cok_12 (by decide) (fun q hq => by cases hq; rfl) rfl (?_ : RR _ _ _ _ 5 _ _ _ _)
  rw [← h4e]
  refine R_aload_n dX12_tips_5 rfl (?_ : RR _ _ _ _ 6 _ _ _ _)
  refine R_iload_n dX12_tips_6 rfl (?_ : RR _ _ _ _ 7 _ _ _ _)
  refine R_cVi1 dX12_tips_7 mvX12_isCoach mlX12_317 (by decide) (by decide) (Nat.le_of_ble_eq_true rfl) (Nat.le_of_ble_eq_true rfl) (T_X12_isCoach2 (z := 0) g4 x6 (by omega)) (?_ : RR _ _ _ _ 10 _ _ _ _)
  rw [if_pos (by omega)]
  refine R_if_ne (t := 15) dX12_tips_10 rfl (fun c10 => ?_) (fun c10 => ?_)
  rotate_left
  · exfalso; omega
  refine R_aload_n dX12_tips_15 rfl (?_ : RR _ _ _ _ 16 _ _ _ _)
  refine R_aload_n dX12_tips_16 rfl (?_ : RR _ _ _ _ 17 _ _ _ _)
  refine R_getr dX12_tips_17 flX12_33 cok_12 rfl (by decide) (?_ : RR _ _ _ _ 20 _ _ _ _)
  refine R_iload_n dX12_tips_20 rfl (?_ : RR _ _ _ _ 21 _ _ _ _)
  refine R_qV2 dX12_tips_21 mvX12_voteOf mlX12_322 (by decide) (by decide) (Nat.le_of_ble_eq_true rfl) (Nat.le_of_ble_eq_true rfl) (hvt) (fun r9 g9 hq9 => (?_ : RR _ _ _ _ 24 _ _ _ _))
  obtain ⟨rfl, h5, rfl, hp1, hp2⟩ := hq9
  show RR _ _ _ _ _ _ [pI as] _ _
  refine R_istore_n dX12_tips_24 (Nat.le_of_ble_eq_true rfl) (?_ : RR _ _ _ _ 25 [_, _, _, _, _, _, _, _] _ _ _)
  refine R_iconst dX12_tips_25 (?_ : RR _ _ _ _ 26 _ _ _ _)
  refine R_istore_n dX12_tips_26 (Nat.le_of_ble_eq_true rfl) (?_ : RR _ _ _ _ 27 [_, _, _, _, _, _, _, _] _ _ _)
  refine R_iconst dX12_tips_27 (?_ : RR _ _ _ _ 28 _ _ _ _)
  refine R_istore dX12_tips_28 (Nat.le_of_ble_eq_true rfl) (?_ : RR _ _ _ _ 30 [_, _, _, _, _, _, _, _] _ _ _)
  exact L np 0 h5 _ _ _ (by omega) hp1 (fun j j0 j1 => by rw [hp2 j ⟨j0, j1⟩, hb, ← y5, ← y4]; rfl)
theorem A_tips (hs : SRx k h sem H np nc len) (hv : r32 v) : AG mX11_tips mX12_tips 5 6 [pI v] k h := by
  have x6 := sR6 hs
  have hcp := hs.2.2.2.1.1
  have e2 : h 14 2 = nc := hcp.2.2.2.1
  have t14 := isTr_14
  by_cases q : 0 ≤ v ∧ v < nc
  · obtain ⟨c, rfl⟩ := Int.eq_ofNat_of_zero_le q.1
    exact A_q hs (C_tips hs rfl (by omega) rfl rfl rfl) (fun h3 e => M_tips hs rfl (by omega) rfl rfl rfl e) (fun L e => by injection e with e; subst e; exact (by omega : 1 ≤ 12))
  · refine A_q hs (z := -1) (o := none) (cQ_no (M := mX11_tips) (d := 5) (As := [pR 0, pI v]) (MT.of (fun Q hQ => (?_ : RR mX11_tips _ _ _ _ [pR 0, pI v, pU, pU, pU] _ _ _)))) (fun h3 e => mQ_thr (M := mX12_tips) (d := 6) (As := [pR 147, pI v]) (MT.of (fun Q hQ => (?_ : RR mX12_tips _ _ _ _ [pR 147, pI v, pU, pU, pU, pU, pU, pU] _ _ _)))) (fun L e => by cases e)
    · refine R_aload_n dX11_tips_0 rfl (?_ : RR _ _ _ _ 1 _ _ _ _)
      refine R_getr dX11_tips_1 flX11_36 cok_11 rfl (by decide) (?_ : RR _ _ _ _ 4 _ _ _ _)
      refine R_iload_n dX11_tips_4 rfl (?_ : RR _ _ _ _ 5 _ _ _ _)
      refine R_cVi1 dX11_tips_5 mvX9_has mlX11_174 (by decide) (by decide) (Nat.le_of_ble_eq_true rfl) (Nat.le_of_ble_eq_true rfl) (T_X9_has) (?_ : RR _ _ _ _ 8 _ _ _ _)
      rw [e2, if_neg q]
      refine R_if_ne (t := 13) dX11_tips_8 rfl (fun c8 => ?_) (fun c8 => ?_)
      · exfalso; omega
      refine R_iconst dX11_tips_11 (?_ : RR _ _ _ _ 12 _ _ _ _)
      exact R_ireturn dX11_tips_12 trivial hQ
    · have g4 : rup h3 147 (fup (h3 147) 0 0) 147 4 = nc := by rw [rup_s, fup_n (by omega), e 147 (by omega)]; exact hs.1.2.1
      refine R_aload_n dX12_tips_0 rfl (?_ : RR _ _ _ _ 1 _ _ _ _)
      refine R_iconst dX12_tips_1 (?_ : RR _ _ _ _ 2 _ _ _ _)
      refine R_puti (zk := 0) dX12_tips_2 flX12_106 cok_12 (by decide) (fun q hq => by cases hq; rfl) rfl (?_ : RR _ _ _ _ 5 _ _ _ _)
      refine R_aload_n dX12_tips_5 rfl (?_ : RR _ _ _ _ 6 _ _ _ _)
      refine R_iload_n dX12_tips_6 rfl (?_ : RR _ _ _ _ 7 _ _ _ _)
      refine R_cVi1 dX12_tips_7 mvX12_isCoach mlX12_317 (by decide) (by decide) (Nat.le_of_ble_eq_true rfl) (Nat.le_of_ble_eq_true rfl) (T_X12_isCoach2 (z := 0) g4 x6 (by omega)) (?_ : RR _ _ _ _ 10 _ _ _ _)
      rw [if_neg q]
      refine R_if_ne (t := 15) dX12_tips_10 rfl (fun c10 => ?_) (fun c10 => ?_)
      · exfalso; omega
      refine R_iconst dX12_tips_13 (?_ : RR _ _ _ _ 14 _ _ _ _)
      exact R_ireturn dX12_tips_14 trivial hQ
end AT
