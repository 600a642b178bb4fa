section AH
variable {k : Nat} {h h3 h4 : Nat → Int → Int} {sem : Sem} {H np nc len : Nat} {v : Int}
theorem CO_24 {X : Cx} (hC : CO X H h 3 14 29) : CO X H h 3 24 29 := by
  obtain ⟨c1, c2, c3, c4, c5, c6, ⟨t1, t2, t3⟩, c8, c9, c10, c11⟩ := hC
  exact ⟨c1, c2, c3, c4, c5, c6, ⟨isTr_24, t2, t3⟩, by omega, c9, c10, c11⟩
/-- the class's start of a look ahead: the trial train is as the train -/
theorem tri (hs : SRx k h sem H np nc len) : Cpl (cxM sem h np nc) H (trC h 24 14) 24 (h 154) len ∧ Cpl (cxM sem h np nc) H (trC h 24 14) 14 (h 154) len ∧ CO (cxM sem h np nc) H (trC h 24 14) 3 24 29 ∧ (trC h 24 14 29 4 = 0 → noN sem) :=
  ⟨Cpl_cp (sR6 hs) (sR12 hs) hs.2.2.2.1.1, Cpl_fr hs.2.2.2.1.1 (fun a a1 a2 => trC_n (by omega)), CO_24 (CO_f hs.1.2.2.2.2.2.2.1 (fun a q => trC_n (by omega))), by rw [trC_n (by omega)]; exact hs.1.2.2.2.2.2.2.2.2.2.1⟩
/-- and the other's -/
theorem mtri (hs : SRx k h sem H np nc len) (hk : k ≤ 1000) (e : ∀ a, 147 ≤ a → h3 a = h a) (hh : h4 = rup (rup h3 147 (fup (h3 147) 0 0)) 155 (h3 154)) : MBk sem h4 155 H np nc ∧ cxM sem h4 np nc = cxM sem h np nc ∧ h4 155 = h 154 ∧ h4 154 = h 154 := by
  have f4 : ∀ a, a ≠ 147 → a ≠ 155 → 147 ≤ a → h4 a = h a := fun a a1 a2 a3 => by rw [hh, rup_n a2, rup_n a1]; exact e a a3
  have f155 : h4 155 = h 154 := by rw [hh, rup_s]; exact e 154 (by omega)
  have fj : ∀ j : Int, j ≠ 0 → h4 147 j = h 147 j := fun j hj => by rw [hh, rup_n (by omega), rup_s, fup_n hj, e 147 (by omega)]
  obtain ⟨⟨m1, m2, m3, m4, m5, m6, m7, m8, m9⟩, eX⟩ := MBk_of (h' := h4) hs hk (fun a q => f4 a (by omega) (by omega) (by omega)) (fun j q => fj j (by omega)) (by rw [fj 30 (by omega)]; exact hs.2.2.2.2.2.2.2)
  rw [f4 154 (by omega) (by omega) (by omega)] at m2 m6
  exact ⟨⟨m1, by rw [f155]; exact m2, m3, m4, m5, by rw [f155]; exact m6, m7, isRw_155, Or.inr rfl⟩, eX, f155, f4 154 (by omega) (by omega) (by omega)⟩
theorem puts_oor (hs : SRx k h sem H np nc len) (e : ∀ a, 147 ≤ a → h3 a = h a) : oor (rup h3 147 (fup (h3 147) 0 0) 155) (rup h3 147 (fup (h3 147) 0 0) 154) := by
  rw [rup_n (by omega), rup_n (by omega), e 155 (by omega), e 154 (by omega)]
  exact hs.2.2.2.1.2.2.1
/-- frames: from the start to what is behind runs and told rows -/
theorem mq_tn {h5 : Nat → Int → Int} (hs : SRx k h sem H np nc len) (e : ∀ a, 147 ≤ a → h3 a = h a) (hh : h4 = rup (rup h3 147 (fup (h3 147) 0 0)) 155 (h3 154)) (hf : tnF h4 h5) (ho : oor (h5 155) (h 154)) : mqF h3 h5 := by
  have f : ∀ a, a ≠ 147 → a ≠ 155 → a ≠ 160 → a ≠ 161 → a ≠ 162 → h5 a = h3 a := fun a a1 a2 a3 a4 a5 => by rw [hf.1 a a1 a2 a3 a4 a5, hh, rup_n a2, rup_n a1]
  refine ⟨fun a q => f a (by omega) (by omega) (by omega) (by omega) (by omega), fun j q => ?_, fun _ => hf.2.2, fun j q => ?_⟩
  · rw [hf.2.1 j (by omega), hh, rup_n (by omega), rup_s, fup_n (by omega)]
  · rw [ho j q, ← hs.2.2.2.1.2.2.1 j q, e 155 (by omega)]
theorem mq_told {h5 h6 : Nat → Int → Int} (a : mqF h3 h5) (e : ∀ a, a ≠ 147 → a ≠ 148 → h6 a = h5 a) (e2 : ∀ j : Int, j ≠ 1 → h6 147 j = h5 147 j) : mqF h3 h6 := by
  refine ⟨fun b q => (e b (by omega) (by omega)).trans (a.1 b q), fun j q => (e2 j (by omega)).trans (a.2.1 j q), fun q => by rw [e2 30 (by omega)]; exact a.2.2.1 q, fun j q => by rw [e 155 (by omega) (by omega)]; exact a.2.2.2 j q⟩
theorem cq_on {h2 h5 : Nat → Int → Int} (hf : onF 24 29 (trC h 24 14) h2) (e : ∀ a, a ≠ 145 → a ≠ 146 → h5 a = h2 a) : cqF h h5 := fun a q => by
  rw [e a (by omega) (by omega), hf a (by omega) (by omega) (by omega) (by omega) (by omega) (by omega) (by omega), trC_n (by omega)]
theorem mP_bits {X : Cx} {f : Int → Int} (h6 : xC X ≤ 6) : bset (fun c => decide (0 ≤ mP f c)) (xC X) < 64 := Nat.lt_of_lt_of_le (bset_lt _ _) (show 2 ^ xC X ≤ 2 ^ 6 from Nat.pow_le_pow_right (by omega) h6)
theorem A_ahead (hs : SRx k h sem H np nc len) (hk : k ≤ 1000) (hv : r32 v) : AG mX11_ahead mX12_ahead 7 10 [pI v] k h := by
  have x6 := sR6 hs
  have x12 := sR12 hs
  have hX := hs.1.2.2.2.2.1
  have hn := hs.2.2.2.1.2.1
  have hc := hs.2.2.2.1.1
  by_cases q : 0 ≤ v ∧ v ≤ 30
  · obtain ⟨m, rfl⟩ := Int.eq_ofNat_of_zero_le q.1
    have hm : m ≤ 30 := by omega
    obtain ⟨X, hXe⟩ : ∃ X, X = cxM sem h np nc := ⟨_, rfl⟩
    obtain ⟨f', hf'⟩ : ∃ f', f' = xIt X 0 m (h 154) := ⟨_, rfl⟩
    have hok : okF X H f' := by rw [hf']; exact ok_it (by rw [hXe]; exact hX) m _ (by rw [hXe]; exact okF_c hc)
    have hf1 : f' 1 ≤ h 154 1 + 9 * m := by rw [hf']; exact xIt_1 (by rw [hXe]; exact hX) m _ (by rw [hXe]; exact okF_c hc)
    have hmb : bset (fun c => decide (0 ≤ mP f' c)) nc < 64 := mP_bits (X := cxM sem h np nc) x6
    have hb1 := oMn_b (X := X) (f := f') (by rw [hXe]; exact x12)
    have hb2 := oMn_b (X := X) (f := h 154) (by rw [hXe]; exact x12)
    refine A_q hs (z := oMn X f' - oMn X (h 154)) (o := some [f' 0, f' 1, (bset (fun c => decide (0 ≤ mP f' c)) nc : Nat)]) ?_ (fun h3 e => ?_) (fun L e => by injection e with e; subst e; exact (by omega : 3 ≤ 12))
    · show RR _ _ _ _ _ [pR 0, pI m, pU] _ _ _
      have t14 := isTr_14
      have t24 := isTr_24
      obtain ⟨k1, k2, k3, k4⟩ := tri hs
      have hpo := C_outMoreIn (m := m) (bh := 0) hX k3 k1 k2 (by omega) (by omega) (by omega) k4
      rw [← hXe, ← hf'] at hpo
      have K : ∀ (h2 : Nat → Int → Int) (len2 : Nat), onF 24 29 (trC h 24 14) h2 → Cpl X H h2 24 f' len2 → RR mX11_ahead 7 0 0 37 [pR 0, pI m, pU] [pI (oMn X f' - oMn X (h 154))] (shp0, rf0, h2) (cQ h (oMn X f' - oMn X (h 154)) (some [f' 0, f' 1, (bset (fun c => decide (0 ≤ mP f' c)) nc : Nat)])) := by
        intro h2 len2 hf2 hc2
        obtain ⟨g0, g1, g2, g3, g4, g5, g6, g7⟩ := id hc2
        have fl : len2 ≤ xC X := g0.2.2.1
        have fl : len2 ≤ nc := by rw [hXe] at fl; exact fl
        have ho : ∀ j : Nat, j < len2 → 0 ≤ h2 (24 + 1) j ∧ h2 (24 + 1) j < 6 := fun j hj => by
          have hj := g0.2.2.2.1 j hj
          rw [hXe] at hj
          have hj : 0 ≤ h2 (24 + 1) j ∧ h2 (24 + 1) j < nc ∧ _ := hj
          omega
        have htb : shB (h2 (24 + 1)) 0 len2 = bset (fun c => decide (0 ≤ mP f' c)) nc := by
          have := cpl_tb hc2
          rw [hXe] at this
          exact this
        obtain ⟨h5, h5e⟩ : ∃ h5, h5 = rup (rup h2 145 (fup (fup (fup (fup (h2 145) 1 0) 1 ((0 : Nat) + 1)) 1 ((1 : Nat) + 1)) 1 ((2 : Nat) + 1))) 146 (fup (fup (fup (h2 146) (0 : Nat) (f' 0)) (1 : Nat) (f' 1)) (2 : Nat) (bset (fun c => decide (0 ≤ mP f' c)) nc : Nat)) := ⟨_, rfl⟩
        have hq : cQ h (oMn X f' - oMn X (h 154)) (some [f' 0, f' 1, (bset (fun c => decide (0 ≤ mP f' c)) nc : Nat)]) (some (pI (oMn X f' - oMn X (h 154)))) (shp0, rf0, h5) := by
          refine ⟨h5, rfl, rfl, cq_on hf2 (fun a a1 a2 => by rw [h5e, rup_n a2, rup_n a1]), tC_3 ?_ ?_ ?_ ?_⟩
          · rw [h5e, rup_n (by omega), rup_s, fup_s]; rfl
          · rw [h5e, rup_s, fup_n (by omega), fup_n (by omega)]; exact fup_s
          · rw [h5e, rup_s, fup_n (by omega)]; exact fup_s
          · rw [h5e, rup_s]; exact fup_s
        refine R_istore_n dX11_ahead_37 (Nat.le_of_ble_eq_true rfl) (?_ : RR _ _ _ _ 38 [_, _, _] _ _ _)
        refine R_aload_n dX11_ahead_38 rfl (?_ : RR _ _ _ _ 39 _ _ _ _)
        refine R_getr dX11_ahead_39 flX11_87 cok_11 rfl (by decide) (?_ : RR _ _ _ _ 42 _ _ _ _)
        refine R_cVv0 dX11_ahead_42 mvX3_clear mlX11_239 (by decide) (by decide) (Nat.le_of_ble_eq_true rfl) (Nat.le_of_ble_eq_true rfl) (T_X3_clear) (?_ : RR _ _ _ _ 45 _ _ _ _)
        refine R_aload_n dX11_ahead_45 rfl (?_ : RR _ _ _ _ 46 _ _ _ _)
        refine R_getr dX11_ahead_46 flX11_87 cok_11 rfl (by decide) (?_ : RR _ _ _ _ 49 _ _ _ _)
        refine R_aload_n dX11_ahead_49 rfl (?_ : RR _ _ _ _ 50 _ _ _ _)
        refine R_getr dX11_ahead_50 flX11_43 cok_11 rfl (by decide) (?_ : RR _ _ _ _ 53 _ _ _ _)
        refine R_geti (z := 0) dX11_ahead_53 flX11_171 cok_9 rfl (by decide) rfl (fun q53 => (?_ : RR _ _ _ _ 56 _ _ _ _))
        simp (disch := omega) only [rup_n, g1] at q53 ⊢
        refine R_i2l dX11_ahead_56 (by first | assumption | omega) (?_ : RR _ _ _ _ 57 _ _ _ _)
        refine R_cVv1 dX11_ahead_57 mvX3_add mlX11_243 (by decide) (by decide) (Nat.le_of_ble_eq_true rfl) (Nat.le_of_ble_eq_true rfl) (T_X3_add (n := 0) (by rw [rup_s, fup_s]; rfl) (by omega)) (?_ : RR _ _ _ _ 60 _ _ _ _)
        simp (disch := omega) only [rup_rup, rup_s, rup_n]
        refine R_aload_n dX11_ahead_60 rfl (?_ : RR _ _ _ _ 61 _ _ _ _)
        refine R_getr dX11_ahead_61 flX11_87 cok_11 rfl (by decide) (?_ : RR _ _ _ _ 64 _ _ _ _)
        refine R_aload_n dX11_ahead_64 rfl (?_ : RR _ _ _ _ 65 _ _ _ _)
        refine R_getr dX11_ahead_65 flX11_43 cok_11 rfl (by decide) (?_ : RR _ _ _ _ 68 _ _ _ _)
        refine R_geti (z := 1) dX11_ahead_68 flX11_312 cok_9 rfl (by decide) rfl (fun q68 => (?_ : RR _ _ _ _ 71 _ _ _ _))
        simp (disch := omega) only [rup_n, g2] at q68 ⊢
        refine R_i2l dX11_ahead_71 (by first | assumption | omega) (?_ : RR _ _ _ _ 72 _ _ _ _)
        refine R_cVv1 dX11_ahead_72 mvX3_add mlX11_243 (by decide) (by decide) (Nat.le_of_ble_eq_true rfl) (Nat.le_of_ble_eq_true rfl) (T_X3_add (n := 1) (by rw [rup_n (by omega), rup_s, fup_s]; rfl) (by omega)) (?_ : RR _ _ _ _ 75 _ _ _ _)
        simp (disch := omega) only [rup_rup, rup_sort, rupS_def, rup_s, rup_n]
        refine R_aload_n dX11_ahead_75 rfl (?_ : RR _ _ _ _ 76 _ _ _ _)
        refine R_getr dX11_ahead_76 flX11_87 cok_11 rfl (by decide) (?_ : RR _ _ _ _ 79 _ _ _ _)
        refine R_aload_n dX11_ahead_79 rfl (?_ : RR _ _ _ _ 80 _ _ _ _)
        refine R_getr dX11_ahead_80 flX11_43 cok_11 rfl (by decide) (?_ : RR _ _ _ _ 83 _ _ _ _)
        refine R_cVi0 dX11_ahead_83 mvX9_trainBits mlX11_315 (by decide) (by decide) (Nat.le_of_ble_eq_true rfl) (Nat.le_of_ble_eq_true rfl) (T_X9_trainBits (t := 24) (n := len2) (by simp (disch := omega) only [rup_n]; exact g4) (by simp (disch := omega) only [rup_n]; exact ho)) (?_ : RR _ _ _ _ 86 _ _ _ _)
        simp (disch := omega) only [rup_n, htb]
        refine R_i2l dX11_ahead_86 (by first | assumption | omega) (?_ : RR _ _ _ _ 87 _ _ _ _)
        refine R_cVv1 dX11_ahead_87 mvX3_add mlX11_243 (by decide) (by decide) (Nat.le_of_ble_eq_true rfl) (Nat.le_of_ble_eq_true rfl) (T_X3_add (n := 2) (by rw [rup_n (by omega), rup_s, fup_s]; rfl) (by omega)) (?_ : RR _ _ _ _ 90 _ _ _ _)
        simp (disch := omega) only [rup_rup, rup_sort, rupS_def, rup_s, rup_n]
        rw [← h5e]
        refine R_iload_n dX11_ahead_90 rfl (?_ : RR _ _ _ _ 91 _ _ _ _)
        exact R_ireturn dX11_ahead_91 trivial hq
      refine R_iload_n dX11_ahead_0 rfl (?_ : RR _ _ _ _ 1 _ _ _ _)
      refine R_if_lt (t := 10) dX11_ahead_1 rfl (fun c1 => ?_) (fun c1 => ?_)
      · exfalso; omega
      refine R_iload_n dX11_ahead_4 rfl (?_ : RR _ _ _ _ 5 _ _ _ _)
      refine R_bipush dX11_ahead_5 rfl (?_ : RR _ _ _ _ 7 _ _ _ _)
      refine R_icmp_le (t := 12) dX11_ahead_7 rfl (fun c7 => ?_) (fun c7 => ?_)
      rotate_left
      · exfalso; omega
      refine R_aload_n dX11_ahead_12 rfl (?_ : RR _ _ _ _ 13 _ _ _ _)
      refine R_getr dX11_ahead_13 flX11_43 cok_11 rfl (by decide) (?_ : RR _ _ _ _ 16 _ _ _ _)
      refine R_aload_n dX11_ahead_16 rfl (?_ : RR _ _ _ _ 17 _ _ _ _)
      refine R_getr dX11_ahead_17 flX11_36 cok_11 rfl (by decide) (?_ : RR _ _ _ _ 20 _ _ _ _)
      refine R_cVv1 dX11_ahead_20 mvX9_copyFrom mlX11_231 (by decide) (by decide) (Nat.le_of_ble_eq_true rfl) (Nat.le_of_ble_eq_true rfl) (T_X9_copyFrom) (?_ : RR _ _ _ _ 23 _ _ _ _)
      refine R_aload_n dX11_ahead_23 rfl (?_ : RR _ _ _ _ 24 _ _ _ _)
      refine R_iload_n dX11_ahead_24 rfl (?_ : RR _ _ _ _ 25 _ _ _ _)
      refine R_aload_n dX11_ahead_25 rfl (?_ : RR _ _ _ _ 26 _ _ _ _)
      refine R_getr dX11_ahead_26 flX11_19 cok_11 rfl (by decide) (?_ : RR _ _ _ _ 29 _ _ _ _)
      refine R_aload_n dX11_ahead_29 rfl (?_ : RR _ _ _ _ 30 _ _ _ _)
      refine R_getr dX11_ahead_30 flX11_49 cok_11 rfl (by decide) (?_ : RR _ _ _ _ 33 _ _ _ _)
      refine R_iconst dX11_ahead_33 (?_ : RR _ _ _ _ 34 _ _ _ _)
      refine R_qV4 dX11_ahead_34 mvX11_outMoreIn mlX11_308 (by decide) (by decide) (Nat.le_of_ble_eq_true rfl) (Nat.le_of_ble_eq_true rfl) (hpo) (fun r9 g9 hq9 => (?_ : RR _ _ _ _ 37 _ _ _ _))
      obtain ⟨rfl, h2, len2, rfl, hf2, hc2⟩ := hq9
      show RR _ _ _ _ _ _ [pI _] _ _
      exact K h2 len2 hf2 hc2
    · show RR _ _ _ _ _ [pR 147, pI m, pU] _ _ _
      obtain ⟨h4, h4e⟩ : ∃ h4, h4 = rup (rup h3 147 (fup (h3 147) 0 0)) 155 (h3 154) := ⟨_, rfl⟩
      obtain ⟨hB, eX, e155, e154⟩ := mtri hs hk e h4e
      have hpo := M_outIn (m := m) hB (by omega) (by rw [e155]; omega)
      rw [eX, e155, e154, ← hXe, ← hf'] at hpo
      have hoo : oor f' (h 154) := by rw [hf']; exact xIt_oor (by rw [hXe]; exact x6) (by rw [hXe]; exact x12) m _
      have hnc : h3 147 4 = nc := by rw [e 147 (by omega)]; exact hs.1.2.1
      have r155 := isRw_155
      have K : ∀ h5 : Nat → Int → Int, tnF h4 h5 → h5 155 = f' → RR mX12_ahead 10 0 0 28 [pR 147, pI m, pU] [pI (oMn X f' - oMn X (h 154))] (shp0, rf0, h5) (mQ h3 (oMn X f' - oMn X (h 154)) (some [f' 0, f' 1, (bset (fun c => decide (0 ≤ mP f' c)) nc : Nat)])) := by
        intro h5 hf5 e5
        have g4 : h5 147 4 = nc := by rw [hf5.2.1 4 (by omega), h4e, rup_n (by omega), rup_s, fup_n (by omega)]; exact hnc
        obtain ⟨h6, h6e⟩ : ∃ h6, h6 = rup (rup h5 147 (fup (fup (fup (fup (h5 147) 1 0) 1 ((0 : Nat) + 1)) 1 ((1 : Nat) + 1)) 1 ((2 : Nat) + 1))) 148 (fup (fup (fup (h5 148) (0 : Nat) (f' 0)) (1 : Nat) (f' 1)) (2 : Nat) (bset (fun c => decide (0 ≤ mP f' c)) nc : Nat)) := ⟨_, rfl⟩
        have hq : mQ h3 (oMn X f' - oMn X (h 154)) (some [f' 0, f' 1, (bset (fun c => decide (0 ≤ mP f' c)) nc : Nat)]) (some (pI (oMn X f' - oMn X (h 154)))) (shp0, rf0, h6) := by
          refine ⟨h6, rfl, rfl, mq_told (mq_tn hs e h4e hf5 (by rw [e5]; exact hoo)) (fun a a1 a2 => by rw [h6e, rup_n a2, rup_n a1]) (fun j hj => by rw [h6e, rup_n (by omega), rup_s, fup_n hj, fup_n hj, fup_n hj, fup_n hj]), tM_3 ?_ ?_ ?_ ?_⟩
          · rw [h6e, rup_n (by omega), rup_s, fup_s]; rfl
          · rw [h6e, rup_s, fup_n (by omega), fup_n (by omega)]; exact fup_s
          · rw [h6e, rup_s, fup_n (by omega)]; exact fup_s
          · rw [h6e, rup_s]; exact fup_s
        refine R_istore_n dX12_ahead_28 (Nat.le_of_ble_eq_true rfl) (?_ : RR _ _ _ _ 29 [_, _, _] _ _ _)
        refine R_aload_n dX12_ahead_29 rfl (?_ : RR _ _ _ _ 30 _ _ _ _)
        refine R_iconst dX12_ahead_30 (?_ : RR _ _ _ _ 31 _ _ _ _)
        refine R_puti (zk := 1) dX12_ahead_31 flX12_113 cok_12 (by decide) (fun q hq => by cases hq; rfl) rfl (?_ : RR _ _ _ _ 34 _ _ _ _)
        refine R_aload_n dX12_ahead_34 rfl (?_ : RR _ _ _ _ 35 _ _ _ _)
        refine R_aload_n dX12_ahead_35 rfl (?_ : RR _ _ _ _ 36 _ _ _ _)
        refine R_getr dX12_ahead_36 flX12_36 cok_12 rfl (by decide) (?_ : RR _ _ _ _ 39 _ _ _ _)
        refine R_iconst dX12_ahead_39 (?_ : RR _ _ _ _ 40 _ _ _ _)
        refine R_iald dX12_ahead_40 (fun q40 => (?_ : RR _ _ _ _ 41 _ _ _ _))
        simp (disch := omega) only [rup_n, e5] at q40 ⊢
        refine R_i2l dX12_ahead_41 (by first | assumption | omega) (?_ : RR _ _ _ _ 42 _ _ _ _)
        refine R_cVv1 dX12_ahead_42 mvX12_enters mlX12_116 (by decide) (by decide) (Nat.le_of_ble_eq_true rfl) (Nat.le_of_ble_eq_true rfl) (T_X12_enters (n := 0) (by rw [rup_s, fup_s]; rfl) (by omega) (by omega)) (?_ : RR _ _ _ _ 45 _ _ _ _)
        simp (disch := omega) only [rup_rup, rup_s, rup_n]
        refine R_aload_n dX12_ahead_45 rfl (?_ : RR _ _ _ _ 46 _ _ _ _)
        refine R_aload_n dX12_ahead_46 rfl (?_ : RR _ _ _ _ 47 _ _ _ _)
        refine R_getr dX12_ahead_47 flX12_36 cok_12 rfl (by decide) (?_ : RR _ _ _ _ 50 _ _ _ _)
        refine R_iconst dX12_ahead_50 (?_ : RR _ _ _ _ 51 _ _ _ _)
        refine R_iald dX12_ahead_51 (fun q51 => (?_ : RR _ _ _ _ 52 _ _ _ _))
        simp (disch := omega) only [rup_n, e5] at q51 ⊢
        refine R_i2l dX12_ahead_52 (by first | assumption | omega) (?_ : RR _ _ _ _ 53 _ _ _ _)
        refine R_cVv1 dX12_ahead_53 mvX12_enters mlX12_116 (by decide) (by decide) (Nat.le_of_ble_eq_true rfl) (Nat.le_of_ble_eq_true rfl) (T_X12_enters (n := 1) (by rw [rup_n (by omega), rup_s, fup_s]; rfl) (by omega) (by omega)) (?_ : RR _ _ _ _ 56 _ _ _ _)
        simp (disch := omega) only [rup_rup, rup_sort, rupS_def, rup_s, rup_n]
        refine R_aload_n dX12_ahead_56 rfl (?_ : RR _ _ _ _ 57 _ _ _ _)
        refine R_aload_n dX12_ahead_57 rfl (?_ : RR _ _ _ _ 58 _ _ _ _)
        refine R_aload_n dX12_ahead_58 rfl (?_ : RR _ _ _ _ 59 _ _ _ _)
        refine R_getr dX12_ahead_59 flX12_36 cok_12 rfl (by decide) (?_ : RR _ _ _ _ 62 _ _ _ _)
        refine R_cVi1 dX12_ahead_62 mvX12_train mlX12_418 (by decide) (by decide) (Nat.le_of_ble_eq_true rfl) (Nat.le_of_ble_eq_true rfl) (T_X12_train (nc := nc) (by simp (disch := omega) only [rup_n, rup_s, fup_n]; exact g4)) (?_ : RR _ _ _ _ 65 _ _ _ _)
        simp (disch := omega) only [rup_n, e5]
        refine R_i2l dX12_ahead_65 (by first | assumption | omega) (?_ : RR _ _ _ _ 66 _ _ _ _)
        refine R_cVv1 dX12_ahead_66 mvX12_enters mlX12_116 (by decide) (by decide) (Nat.le_of_ble_eq_true rfl) (Nat.le_of_ble_eq_true rfl) (T_X12_enters (n := 2) (by rw [rup_n (by omega), rup_s, fup_s]; rfl) (by omega) (by omega)) (?_ : RR _ _ _ _ 69 _ _ _ _)
        simp (disch := omega) only [rup_rup, rup_sort, rupS_def, rup_s, rup_n]
        rw [← h6e]
        refine R_iload_n dX12_ahead_69 rfl (?_ : RR _ _ _ _ 70 _ _ _ _)
        exact R_ireturn dX12_ahead_70 trivial hq
      refine R_aload_n dX12_ahead_0 rfl (?_ : RR _ _ _ _ 1 _ _ _ _)
      refine R_iconst dX12_ahead_1 (?_ : RR _ _ _ _ 2 _ _ _ _)
      refine R_puti (zk := 0) dX12_ahead_2 flX12_106 cok_12 (by decide) (fun q hq => by cases hq; rfl) rfl (?_ : RR _ _ _ _ 5 _ _ _ _)
      refine R_iload_n dX12_ahead_5 rfl (?_ : RR _ _ _ _ 6 _ _ _ _)
      refine R_i2l dX12_ahead_6 (by first | assumption | omega) (?_ : RR _ _ _ _ 7 _ _ _ _)
      refine R_lconst (z := 0) dX12_ahead_7 rfl (?_ : RR _ _ _ _ 8 _ _ _ _)
      refine R_ldc2 (z := 30) dX12_ahead_8 klX12_413 (?_ : RR _ _ _ _ 11 _ _ _ _)
      refine R_cSi3 dX12_ahead_11 msX12_in mlX12_120 (by decide) (Nat.le_of_ble_eq_true rfl) (Nat.le_of_ble_eq_true rfl) (T_X12_in) (?_ : RR _ _ _ _ 14 _ _ _ _)
      rw [if_pos q]
      refine R_if_ne (t := 19) dX12_ahead_14 rfl (fun c14 => ?_) (fun c14 => ?_)
      rotate_left
      · exfalso; omega
      refine R_aload_n dX12_ahead_19 rfl (?_ : RR _ _ _ _ 20 _ _ _ _)
      refine R_cVv0 dX12_ahead_20 mvX12_puts mlX12_407 (by decide) (by decide) (Nat.le_of_ble_eq_true rfl) (Nat.le_of_ble_eq_true rfl) (T_X12_puts (puts_oor hs e)) (?_ : RR _ _ _ _ 23 _ _ _ _)
      simp (disch := omega) only [rup_n]
      rw [← h4e]
      refine R_aload_n dX12_ahead_23 rfl (?_ : RR _ _ _ _ 24 _ _ _ _)
      refine R_iload_n dX12_ahead_24 rfl (?_ : RR _ _ _ _ 25 _ _ _ _)
      refine R_qV1 dX12_ahead_25 mvX12_outIn mlX12_415 (by decide) (by decide) (Nat.le_of_ble_eq_true rfl) (Nat.le_of_ble_eq_true rfl) (hpo) (fun r9 g9 hq9 => (?_ : RR _ _ _ _ 28 _ _ _ _))
      obtain ⟨rfl, h5, rfl, hf5, e5⟩ := hq9
      show RR _ _ _ _ _ _ [pI _] _ _
      exact K h5 hf5 e5
  · refine A_q hs (z := -1) (o := none) (cQ_no (M := mX11_ahead) (d := 7) (As := [pR 0, pI v]) (MT.of (fun Q hQ => (?_ : RR mX11_ahead _ _ _ _ [pR 0, pI v, pU] _ _ _)))) (fun h3 e => mQ_thr (M := mX12_ahead) (d := 10) (As := [pR 147, pI v]) (MT.of (fun Q hQ => (?_ : RR mX12_ahead _ _ _ _ [pR 147, pI v, pU] _ _ _)))) (fun L e => by cases e)
    · refine R_iload_n dX11_ahead_0 rfl (?_ : RR _ _ _ _ 1 _ _ _ _)
      refine R_if_lt (t := 10) dX11_ahead_1 rfl (fun c1 => ?_) (fun c1 => ?_)
      · first
        | (exfalso; omega)
        | (refine R_iconst dX11_ahead_10 (?_ : RR _ _ _ _ 11 _ _ _ _)
           exact R_ireturn dX11_ahead_11 trivial hQ)
      · first
        | (exfalso; omega)
        | (refine R_iload_n dX11_ahead_4 rfl (?_ : RR _ _ _ _ 5 _ _ _ _)
           refine R_bipush dX11_ahead_5 rfl (?_ : RR _ _ _ _ 7 _ _ _ _)
           refine R_icmp_le (t := 12) dX11_ahead_7 rfl (fun c7 => ?_) (fun c7 => ?_)
           · first
             | (exfalso; omega)
             | (exfalso; omega)
           · first
             | (exfalso; omega)
             | (refine R_iconst dX11_ahead_10 (?_ : RR _ _ _ _ 11 _ _ _ _)
                exact R_ireturn dX11_ahead_11 trivial hQ))
    · refine R_aload_n dX12_ahead_0 rfl (?_ : RR _ _ _ _ 1 _ _ _ _)
      refine R_iconst dX12_ahead_1 (?_ : RR _ _ _ _ 2 _ _ _ _)
      refine R_puti (zk := 0) dX12_ahead_2 flX12_106 cok_12 (by decide) (fun q hq => by cases hq; rfl) rfl (?_ : RR _ _ _ _ 5 _ _ _ _)
      try simp (disch := omega) only [rup_rup, rup_sort, rupS_def, rup_s, rup_n, fup_fup, fup_s, fup_n]
      refine R_iload_n dX12_ahead_5 rfl (?_ : RR _ _ _ _ 6 _ _ _ _)
      refine R_i2l dX12_ahead_6 (by first | assumption | omega) (?_ : RR _ _ _ _ 7 _ _ _ _)
      refine R_lconst (z := 0) dX12_ahead_7 rfl (?_ : RR _ _ _ _ 8 _ _ _ _)
      refine R_ldc2 (z := 30) dX12_ahead_8 klX12_413 (?_ : RR _ _ _ _ 11 _ _ _ _)
      refine R_cSi3 dX12_ahead_11 msX12_in mlX12_120 (by decide) (Nat.le_of_ble_eq_true rfl) (Nat.le_of_ble_eq_true rfl) (T_X12_in) (?_ : RR _ _ _ _ 14 _ _ _ _)
      try simp (disch := omega) only [rup_rup, rup_sort, rupS_def, rup_s, rup_n, fup_fup, fup_s, fup_n]
      rw [if_neg q]
      refine R_if_ne (t := 19) dX12_ahead_14 rfl (fun c14 => ?_) (fun c14 => ?_)
      · exfalso; omega
      refine R_iconst dX12_ahead_17 (?_ : RR _ _ _ _ 18 _ _ _ _)
      exact R_ireturn dX12_ahead_18 trivial hQ
end AH
