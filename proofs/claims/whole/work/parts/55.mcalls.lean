section ML
variable {k : Nat} {h h3 : Nat → Int → Int} {sem : Sem} {H np nc len : Nat}
/-- the other's numbers behind 'puts by' -/
abbrev pby (h3 : Nat → Int → Int) (U : Nat) : Nat → Int → Int := rup (rup h3 147 (fup (h3 147) 0 0)) 163 (put (26 * U) (h3 154) (h3 163) 26)
theorem pby_a {U a : Nat} (h1 : a ≠ 163) (h2 : a ≠ 147) : pby h3 U a = h3 a := by
  show rup (rup h3 147 (fup (h3 147) 0 0)) 163 (put (26 * U) (h3 154) (h3 163) 26) a = _
  rw [rup_n h1, rup_n h2]
theorem pby_j {U : Nat} {j : Int} (hj : j ≠ 0) : pby h3 U 147 j = h3 147 j := by
  show rup (rup h3 147 (fup (h3 147) 0 0)) 163 (put (26 * U) (h3 154) (h3 163) 26) 147 j = _
  rw [rup_n (by omega), rup_s, fup_n hj]
theorem pby_163 {U : Nat} : pby h3 U 163 = put (26 * U) (h3 154) (h3 163) 26 := rup_s
theorem MBk_pby (hs : SRx k h sem H np nc len) (hk : k ≤ 1000) (e : ∀ a, 147 ≤ a → h3 a = h a) {U : Nat} : MBk sem (pby h3 U) 154 H np nc ∧ cxM sem (pby h3 U) np nc = cxM sem h np nc :=
  MBk_of hs hk (fun a q => by rw [pby_a (by omega) (by omega)]; exact e a (by omega)) (fun j q => by rw [pby_j (by omega), e 147 (by omega)]) (by rw [pby_j (by omega), e 147 (by omega)]; exact hs.2.2.2.2.2.2.2)
theorem mAct_counts {h6 : Nat → Int → Int} {U : Nat} {w : Int × (Int → Int)} (m1 : ∀ a, a ≠ 147 → a ≠ 154 → a ≠ 160 → a ≠ 161 → a ≠ 162 → h6 a = pby h3 U a) (m2 : h6 154 = w.2) (m3 : ∀ j : Int, j ≠ 30 → h6 147 j = pby h3 U 147 j) (m4 : 0 ≤ h6 147 30 ∧ h6 147 30 < 64) : mAct h3 U w (fun h4 => h4 147 1 = h3 147 1 ∧ h4 148 = h3 148) (some (pI w.1)) (shp0, rf0, if w.1 < 0 then h6 else rup (rup h6 147 (fup (h6 147) 28 (min 15 (U + 1)))) 163 (if U < 15 then h6 163 else shf (h6 163) 390)) := by
  have f1 : ∀ a, a ≠ 147 → a ≠ 154 → a ≠ 160 → a ≠ 161 → a ≠ 162 → a ≠ 163 → h6 a = h3 a := fun a a1 a2 a3 a4 a5 a6 => by rw [m1 a a1 a2 a3 a4 a5, pby_a a6 a1]
  have f2 : ∀ j : Int, j ≠ 0 → j ≠ 30 → h6 147 j = h3 147 j := fun j j0 j1 => by rw [m3 j j1, pby_j j0]
  have f3 : h6 163 = put (26 * U) (h3 154) (h3 163) 26 := by rw [m1 163 (by omega) (by omega) (by omega) (by omega) (by omega), pby_163]
  by_cases q : w.1 < 0
  · rw [if_pos q]
    exact ⟨h6, rfl, rfl, m2, ⟨f2 1 (by omega) (by omega), f1 148 (by omega) (by omega) (by omega) (by omega) (by omega) (by omega)⟩, fun a a1 a2 a3 a4 a5 a6 a7 => f1 a a1 a3 a4 a5 a6 a7, fun j j1 j2 j3 j4 => f2 j j1 j4, m4, fun _ => ⟨f2 28 (by omega) (by omega), Or.inl f3⟩, fun z => by omega⟩
  · rw [if_neg q]
    refine ⟨_, rfl, rfl, ?_, ⟨?_, ?_⟩, fun a a1 a2 a3 a4 a5 a6 a7 => ?_, fun j j1 j2 j3 j4 => ?_, ?_, fun z => by omega, fun _ => ⟨?_, ?_⟩⟩
    · rw [rup_n (by omega), rup_n (by omega)]; exact m2
    · rw [rup_n (by omega), rup_s, fup_n (by omega)]; exact f2 1 (by omega) (by omega)
    · rw [rup_n (by omega), rup_n (by omega)]; exact f1 148 (by omega) (by omega) (by omega) (by omega) (by omega) (by omega)
    · rw [rup_n a7, rup_n a1]; exact f1 a a1 a3 a4 a5 a6 a7
    · rw [rup_n (by omega), rup_s, fup_n j3]; exact f2 j j1 j4
    · rw [rup_n (by omega), rup_s, fup_n (by omega)]; exact m4
    · rw [rup_n (by omega), rup_s, fup_s]; omega
    · rw [rup_s, f3]
theorem SD_un {w : Int × (Int → Int)} (hs : SRx k h sem H np nc len) : ∀ h3 h4 : Nat → Int → Int, (h3 145 = h 145 ∧ h3 146 = h 146) → (h4 147 1 = h 147 1 ∧ h4 148 = h 148) → h4 145 = h3 145 → h4 146 = h3 146 → SD h4 := fun h3 h4 c m e1 e2 => SD_same hs.2.2.1 (by rw [e1, c.1]) m.1 (e2.trans c.2) m.2
theorem A_couple (hs : SRx k h sem H np nc len) (hk : k ≤ 1000) : AG mX11_couple mX12_couple 4 3 [] k h := by
  obtain ⟨U, x, hU, hx, hx15, hU15, hU2⟩ := sRU hs
  have hc := hs.2.2.2.1.1
  have hX := hs.1.2.2.2.2.1
  have x6 := sR6 hs
  have hn := hs.2.2.2.1.2.1
  refine A_act hs hU hx (C_couple hs hU hx hx15 hU15) (TM := fun h4 => h4 147 1 = h 147 1 ∧ h4 148 = h 148) (fun h3 e => ?_) ?_ ?_ (SD_un (w := (0, h 154)) hs)
  · obtain ⟨hB, eX⟩ := MBk_pby (U := U) hs hk e
    have hT := M_couples hB
    rw [eX, show pby h3 U 154 = h 154 by rw [pby_a (by omega) (by omega)]; exact e 154 (by omega)] at hT
    show RR _ _ _ _ _ [pR 147] _ _ _
    have e28 : h3 147 28 = U := by rw [e 147 (by omega)]; exact hU2
    generalize hw : aCo (cxM sem h np nc) (h 154) = w at hT ⊢
    have hwr : r32 w.1 := by
      rw [← hw]
      have hb := pop_bset (P := stB (h 154)) (n := nc) (by omega)
      have hb2 := sm_b (g := fun p : Nat => if stB (h 154) p then 1 else 0) (B := 1) (by omega) (fun p => by split <;> omega) nc
      rw [← hb] at hb2
      unfold aCo
      show r32 (if bset (stB (h 154)) nc = 0 then -2 else (pop 12 (bset (stB (h 154)) nc) : Int))
      split <;> omega
    rw [← e 147 (by omega), ← e 148 (by omega)]
    refine R_aload_n dX12_couple_0 rfl (?_ : RR _ _ _ _ 1 _ _ _ _)
    refine R_iconst dX12_couple_1 (?_ : RR _ _ _ _ 2 _ _ _ _)
    refine R_puti (zk := 0) dX12_couple_2 flX12_106 cok_12 (by decide) (fun q hq => by cases hq; rfl) rfl (?_ : RR _ _ _ _ 5 _ _ _ _)
    refine R_aload_n dX12_couple_5 rfl (?_ : RR _ _ _ _ 6 _ _ _ _)
    refine R_cVv0 dX12_couple_6 mvX12_putsBy mlX12_367 (by decide) (by decide) (Nat.le_of_ble_eq_true rfl) (Nat.le_of_ble_eq_true rfl) (T_X12_putsBy (U := U) (by simp (disch := omega) only [rup_s, fup_n]; exact e28) hU15) (?_ : RR _ _ _ _ 9 _ _ _ _)
    simp (disch := omega) only [rup_n]
    refine R_aload_n dX12_couple_9 rfl (?_ : RR _ _ _ _ 10 _ _ _ _)
    refine R_aload_n dX12_couple_10 rfl (?_ : RR _ _ _ _ 11 _ _ _ _)
    refine R_aload_n dX12_couple_11 rfl (?_ : RR _ _ _ _ 12 _ _ _ _)
    refine R_getr dX12_couple_12 flX12_33 cok_12 rfl (by decide) (?_ : RR _ _ _ _ 15 _ _ _ _)
    refine R_qV1 dX12_couple_15 mvX12_couples mlX12_380 (by decide) (by decide) (Nat.le_of_ble_eq_true rfl) (Nat.le_of_ble_eq_true rfl) (hT) (fun r9 g9 hq9 => (?_ : RR _ _ _ _ 18 _ _ _ _))
    obtain ⟨h6, rfl, m1, m2, rfl, m3, m4⟩ := hq9
    show RR _ _ _ _ _ _ [pI w.1, pR 147] _ _
    refine R_cVi1 dX12_couple_18 mvX12_counts mlX12_383 (by decide) (by decide) (Nat.le_of_ble_eq_true rfl) (Nat.le_of_ble_eq_true rfl) (T_X12_counts (U := U) (by rw [m3 28 (by omega), pby_j (by omega)]; exact e28) hU15 hwr) (?_ : RR _ _ _ _ 21 _ _ _ _)
    exact R_ireturn dX12_couple_21 trivial (mAct_counts m1 m2 m3 m4)
  · unfold aCo
    show mcF (stB (h 154)) _ (h 154) nc 1 ≤ _
    rw [mcF_0 (Or.inr rfl)]
    omega
  · exact mcF_oor x6
theorem A_cut {n : Int} (hs : SRx k h sem H np nc len) (hk : k ≤ 1000) (hnr : r32 n) : AG mX11_cut mX12_cut 4 5 [pI n] k h := by
  obtain ⟨U, x, hU, hx, hx15, hU15, hU2⟩ := sRU hs
  have hc := hs.2.2.2.1.1
  have hX := hs.1.2.2.2.2.1
  have x6 := sR6 hs
  have hn := hs.2.2.2.1.2.1
  refine A_act hs hU hx (C_cut hs hnr hU hx hx15 hU15) (TM := fun h4 => h4 147 1 = h 147 1 ∧ h4 148 = h 148) (fun h3 e => ?_) ?_ ?_ (SD_un (w := (0, h 154)) hs)
  · obtain ⟨hB, eX⟩ := MBk_pby (U := U) hs hk e
    have hT := M_cuts hB hnr
    rw [eX, show pby h3 U 154 = h 154 by rw [pby_a (by omega) (by omega)]; exact e 154 (by omega)] at hT
    show RR _ _ _ _ _ [pR 147, pI n] _ _ _
    have e28 : h3 147 28 = U := by rw [e 147 (by omega)]; exact hU2
    have h1 : xLn (cxM sem h np nc) (h 154) ≤ nc := (ok_len (okF_c hc)).2
    generalize hw : aCu (cxM sem h np nc) (h 154) n = w at hT ⊢
    have hwr : r32 w.1 := by
      rw [← hw]
      unfold aCu
      split
      · show r32 (-1); omega
      · show r32 ((xLn (cxM sem h np nc) (h 154) : Int) - n); omega
    rw [← e 147 (by omega), ← e 148 (by omega)]
    refine R_aload_n dX12_cut_0 rfl (?_ : RR _ _ _ _ 1 _ _ _ _)
    refine R_iconst dX12_cut_1 (?_ : RR _ _ _ _ 2 _ _ _ _)
    refine R_puti (zk := 0) dX12_cut_2 flX12_106 cok_12 (by decide) (fun q hq => by cases hq; rfl) rfl (?_ : RR _ _ _ _ 5 _ _ _ _)
    refine R_aload_n dX12_cut_5 rfl (?_ : RR _ _ _ _ 6 _ _ _ _)
    refine R_cVv0 dX12_cut_6 mvX12_putsBy mlX12_367 (by decide) (by decide) (Nat.le_of_ble_eq_true rfl) (Nat.le_of_ble_eq_true rfl) (T_X12_putsBy (U := U) (by simp (disch := omega) only [rup_s, fup_n]; exact e28) hU15) (?_ : RR _ _ _ _ 9 _ _ _ _)
    simp (disch := omega) only [rup_n]
    refine R_aload_n dX12_cut_9 rfl (?_ : RR _ _ _ _ 10 _ _ _ _)
    refine R_aload_n dX12_cut_10 rfl (?_ : RR _ _ _ _ 11 _ _ _ _)
    refine R_aload_n dX12_cut_11 rfl (?_ : RR _ _ _ _ 12 _ _ _ _)
    refine R_getr dX12_cut_12 flX12_33 cok_12 rfl (by decide) (?_ : RR _ _ _ _ 15 _ _ _ _)
    refine R_iload_n dX12_cut_15 rfl (?_ : RR _ _ _ _ 16 _ _ _ _)
    refine R_qV2 dX12_cut_16 mvX12_cuts mlX12_386 (by decide) (by decide) (Nat.le_of_ble_eq_true rfl) (Nat.le_of_ble_eq_true rfl) (hT) (fun r9 g9 hq9 => (?_ : RR _ _ _ _ 19 _ _ _ _))
    obtain ⟨h6, rfl, m1, m2, rfl, m3, m4⟩ := hq9
    show RR _ _ _ _ _ _ [pI w.1, pR 147] _ _
    refine R_cVi1 dX12_cut_19 mvX12_counts mlX12_383 (by decide) (by decide) (Nat.le_of_ble_eq_true rfl) (Nat.le_of_ble_eq_true rfl) (T_X12_counts (U := U) (by rw [m3 28 (by omega), pby_j (by omega)]; exact e28) hU15 hwr) (?_ : RR _ _ _ _ 22 _ _ _ _)
    exact R_ireturn dX12_cut_22 trivial (mAct_counts m1 m2 m3 m4)
  · unfold aCu
    split
    · show h 154 1 ≤ _; omega
    · show mlF (h 154) (xLn (cxM sem h np nc) (h 154) - n) nc 1 ≤ _
      rw [mlF_1]
      omega
  · unfold aCu
    split
    · exact fun _ _ => rfl
    · exact mlF_oor x6
theorem A_walk {p c : Int} (hs : SRx k h sem H np nc len) (hk : k ≤ 1000) (hpr : r32 p) (hcr : r32 c) : AG mX11_walk mX12_walk 4 3 [pI p, pI c] k h := by
  obtain ⟨U, x, hU, hx, hx15, hU15, hU2⟩ := sRU hs
  have hc := hs.2.2.2.1.1
  have hX := hs.1.2.2.2.2.1
  have x6 := sR6 hs
  have x12 := sR12 hs
  have hn := hs.2.2.2.1.2.1
  refine A_act hs hU hx (C_walk hs hk hpr hcr hU hx hx15 hU15) (TM := fun h4 => h4 147 1 = h 147 1 ∧ h4 148 = h 148) (fun h3 e => ?_) ?_ ?_ (SD_un (w := (0, h 154)) hs)
  · obtain ⟨hB, eX⟩ := MBk_pby (U := U) hs hk e
    have hT := M_walks hB hpr hcr
    rw [eX, show pby h3 U 154 = h 154 by rw [pby_a (by omega) (by omega)]; exact e 154 (by omega)] at hT
    show RR _ _ _ _ _ [pR 147, pI p, pI c] _ _ _
    have e28 : h3 147 28 = U := by rw [e 147 (by omega)]; exact hU2
    generalize hw : aWa (cxM sem h np nc) (h 154) p c = w at hT ⊢
    have hwr : r32 w.1 := by
      rw [← hw]
      unfold aWa
      split
      · show r32 (-1); omega
      · rename_i q
        have q : (0 ≤ p ∧ p < np) ∧ 0 ≤ c ∧ c < nc := Decidable.not_not.mp q
        split
        · show r32 (-2); omega
        · split
          · show r32 (-3); omega
          · show r32 (mS (h 154) p)
            have h3 := hc.1.2.2.2.2.2 p.toNat (show p.toNat < np by omega)
            rw [show ((p.toNat : Nat) : Int) = p by omega] at h3
            have h3 : mS (h 154) p = -1 ∨ (0 ≤ mS (h 154) p ∧ mS (h 154) p < nc ∧ _) := h3
            omega
    rw [← e 147 (by omega), ← e 148 (by omega)]
    refine R_aload_n dX12_walk_0 rfl (?_ : RR _ _ _ _ 1 _ _ _ _)
    refine R_iconst dX12_walk_1 (?_ : RR _ _ _ _ 2 _ _ _ _)
    refine R_puti (zk := 0) dX12_walk_2 flX12_106 cok_12 (by decide) (fun q hq => by cases hq; rfl) rfl (?_ : RR _ _ _ _ 5 _ _ _ _)
    refine R_aload_n dX12_walk_5 rfl (?_ : RR _ _ _ _ 6 _ _ _ _)
    refine R_cVv0 dX12_walk_6 mvX12_putsBy mlX12_367 (by decide) (by decide) (Nat.le_of_ble_eq_true rfl) (Nat.le_of_ble_eq_true rfl) (T_X12_putsBy (U := U) (by simp (disch := omega) only [rup_s, fup_n]; exact e28) hU15) (?_ : RR _ _ _ _ 9 _ _ _ _)
    simp (disch := omega) only [rup_n]
    refine R_aload_n dX12_walk_9 rfl (?_ : RR _ _ _ _ 10 _ _ _ _)
    refine R_aload_n dX12_walk_10 rfl (?_ : RR _ _ _ _ 11 _ _ _ _)
    refine R_aload_n dX12_walk_11 rfl (?_ : RR _ _ _ _ 12 _ _ _ _)
    refine R_getr dX12_walk_12 flX12_33 cok_12 rfl (by decide) (?_ : RR _ _ _ _ 15 _ _ _ _)
    refine R_iload_n dX12_walk_15 rfl (?_ : RR _ _ _ _ 16 _ _ _ _)
    refine R_iload_n dX12_walk_16 rfl (?_ : RR _ _ _ _ 17 _ _ _ _)
    refine R_qV3 dX12_walk_17 mvX12_walks mlX12_389 (by decide) (by decide) (Nat.le_of_ble_eq_true rfl) (Nat.le_of_ble_eq_true rfl) (hT) (fun r9 g9 hq9 => (?_ : RR _ _ _ _ 20 _ _ _ _))
    obtain ⟨h6, rfl, m1, m2, rfl, m3, m4⟩ := hq9
    show RR _ _ _ _ _ _ [pI w.1, pR 147] _ _
    refine R_cVi1 dX12_walk_20 mvX12_counts mlX12_383 (by decide) (by decide) (Nat.le_of_ble_eq_true rfl) (Nat.le_of_ble_eq_true rfl) (T_X12_counts (U := U) (by rw [m3 28 (by omega), pby_j (by omega)]; exact e28) hU15 hwr) (?_ : RR _ _ _ _ 23 _ _ _ _)
    exact R_ireturn dX12_walk_23 trivial (mAct_counts m1 m2 m3 m4)
  · unfold aWa
    split
    · show h 154 1 ≤ _; omega
    · split
      · show h 154 1 ≤ _; omega
      · split
        · show h 154 1 ≤ _; omega
        · show fup (fup (h 154) (14 + p) c) 1 (h 154 1 + 1) 1 ≤ _
          rw [fup_s]
          omega
  · unfold aWa
    split
    · exact fun _ _ => rfl
    · rename_i q
      have q : (0 ≤ p ∧ p < np) ∧ 0 ≤ c ∧ c < nc := Decidable.not_not.mp q
      split
      · exact fun _ _ => rfl
      · split
        · exact fun _ _ => rfl
        · exact oor_tr (fup_oor (by omega)) (fup_oor (by omega))
theorem A_stand {n : Int} (hs : SRx k h sem H np nc len) (hk : k ≤ 1000) (hnr : r32 n) : AG mX11_stand mX12_stand 4 1 [pI n] k h := by
  obtain ⟨U, x, hU, hx, hx15, hU15, hU2⟩ := sRU hs
  have hc := hs.2.2.2.1.1
  have hn := hs.2.2.2.1.2.1
  have hn0 := hc.1.2.1
  have h64 := hs.2.2.2.2.2.2.2
  refine A_act hs hU hx (C_stand hs hk hnr hU hx hx15 hU15) (TM := fun h4 => h4 147 1 = h 147 1 ∧ h4 148 = h 148) (fun h3 e => ?_) ?_ ?_ (SD_un (w := (0, h 154)) hs)
  · have e28 : h3 147 28 = U := by rw [e 147 (by omega)]; exact hU2
    rw [← e 154 (by omega)] at hn hn0 ⊢
    rw [← e 147 (by omega)] at h64 ⊢
    rw [← e 148 (by omega)]
    show RR _ _ _ _ _ [pR 147, pI n] _ _ _
    unfold aSt
    by_cases q : 0 ≤ n ∧ n ≤ 99
    · rw [if_neg (fun z => z q)]
      have hq := mAct_counts (h3 := h3) (U := U) (h6 := rup (pby h3 U) 154 (fup (h3 154) 1 (h3 154 1 + n))) (w := (h3 154 1 + n, fup (h3 154) 1 (h3 154 1 + n))) (fun a a1 a2 a3 a4 a5 => by rw [rup_n a2]) (by rw [rup_s]) (fun j hj => by rw [rup_n (by omega)]) (by rw [rup_n (by omega), pby_j (by omega)]; exact h64)
      rw [if_neg (show ¬ h3 154 1 + n < 0 by omega)] at hq
      refine R_aload_n dX12_stand_0 rfl (?_ : RR _ _ _ _ 1 _ _ _ _)
      refine R_iconst dX12_stand_1 (?_ : RR _ _ _ _ 2 _ _ _ _)
      refine R_puti (zk := 0) dX12_stand_2 flX12_106 cok_12 (by decide) (fun q hq => by cases hq; rfl) rfl (?_ : RR _ _ _ _ 5 _ _ _ _)
      refine R_iload_n dX12_stand_5 rfl (?_ : RR _ _ _ _ 6 _ _ _ _)
      refine R_i2l dX12_stand_6 (by first | assumption | omega) (?_ : RR _ _ _ _ 7 _ _ _ _)
      refine R_lconst (z := 0) dX12_stand_7 rfl (?_ : RR _ _ _ _ 8 _ _ _ _)
      refine R_ldc2 (z := 99) dX12_stand_8 klX12_392 (?_ : RR _ _ _ _ 11 _ _ _ _)
      refine R_cSi3 dX12_stand_11 msX12_in mlX12_120 (by decide) (Nat.le_of_ble_eq_true rfl) (Nat.le_of_ble_eq_true rfl) (T_X12_in) (?_ : RR _ _ _ _ 14 _ _ _ _)
      rw [if_pos q]
      refine R_if_ne (t := 19) dX12_stand_14 rfl (fun c14 => ?_) (fun c14 => ?_)
      rotate_left
      · exfalso; omega
      refine R_aload_n dX12_stand_19 rfl (?_ : RR _ _ _ _ 20 _ _ _ _)
      refine R_cVv0 dX12_stand_20 mvX12_putsBy mlX12_367 (by decide) (by decide) (Nat.le_of_ble_eq_true rfl) (Nat.le_of_ble_eq_true rfl) (T_X12_putsBy (U := U) (by simp (disch := omega) only [rup_s, fup_n]; exact e28) hU15) (?_ : RR _ _ _ _ 23 _ _ _ _)
      simp (disch := omega) only [rup_n]
      refine R_aload_n dX12_stand_23 rfl (?_ : RR _ _ _ _ 24 _ _ _ _)
      refine R_getr dX12_stand_24 flX12_33 cok_12 rfl (by decide) (?_ : RR _ _ _ _ 27 _ _ _ _)
      refine R_iconst dX12_stand_27 (?_ : RR _ _ _ _ 28 _ _ _ _)
      refine R_dup2 dX12_stand_28 (fun _ => rfl) (fun _ => rfl) (?_ : RR _ _ _ _ 29 _ _ _ _)
      refine R_iald dX12_stand_29 (fun q29 => (?_ : RR _ _ _ _ 30 _ _ _ _))
      simp (disch := omega) only [rup_n] at q29 ⊢
      refine R_iload_n dX12_stand_30 rfl (?_ : RR _ _ _ _ 31 _ _ _ _)
      refine R_iadd dX12_stand_31 (?_ : RR _ _ _ _ 32 _ _ _ _)
      refine R_iast dX12_stand_32 (?_ : RR _ _ _ _ 33 _ _ _ _)
      refine R_aload_n dX12_stand_33 rfl (?_ : RR _ _ _ _ 34 _ _ _ _)
      refine R_aload_n dX12_stand_34 rfl (?_ : RR _ _ _ _ 35 _ _ _ _)
      refine R_getr dX12_stand_35 flX12_33 cok_12 rfl (by decide) (?_ : RR _ _ _ _ 38 _ _ _ _)
      refine R_iconst dX12_stand_38 (?_ : RR _ _ _ _ 39 _ _ _ _)
      refine R_iald dX12_stand_39 (fun q39 => (?_ : RR _ _ _ _ 40 _ _ _ _))
      rw [rup_s, fup_s] at q39 ⊢
      refine R_cVi1 dX12_stand_40 mvX12_adds mlX12_332 (by decide) (by decide) (Nat.le_of_ble_eq_true rfl) (Nat.le_of_ble_eq_true rfl) (T_X12_adds (U := U) (by rw [rup_n (by omega), rup_n (by omega), rup_s, fup_n (by omega)]; exact e28) hU15 (by omega)) (?_ : RR _ _ _ _ 43 _ _ _ _)
      exact R_ireturn dX12_stand_43 trivial hq
    · rw [if_pos q]
      have hq : mAct h3 U (-1, h3 154) (fun h4 => h4 147 1 = h3 147 1 ∧ h4 148 = h3 148) (some (pI (-1))) (shp0, rf0, rup h3 147 (fup (h3 147) 0 0)) := ⟨_, rfl, rfl, by rw [rup_n (by omega)], ⟨by rw [rup_s, fup_n (by omega)], by rw [rup_n (by omega)]⟩, fun a a1 a2 a3 a4 a5 a6 a7 => by rw [rup_n a1], fun j j1 j2 j3 j4 => by rw [rup_s, fup_n j1], by rw [rup_s, fup_n (by omega)]; exact h64, fun _ => ⟨by rw [rup_s, fup_n (by omega)], Or.inr (by rw [rup_n (by omega)])⟩, fun z => by omega⟩
      refine R_aload_n dX12_stand_0 rfl (?_ : RR _ _ _ _ 1 _ _ _ _)
      refine R_iconst dX12_stand_1 (?_ : RR _ _ _ _ 2 _ _ _ _)
      refine R_puti (zk := 0) dX12_stand_2 flX12_106 cok_12 (by decide) (fun q hq => by cases hq; rfl) rfl (?_ : RR _ _ _ _ 5 _ _ _ _)
      refine R_iload_n dX12_stand_5 rfl (?_ : RR _ _ _ _ 6 _ _ _ _)
      refine R_i2l dX12_stand_6 (by first | assumption | omega) (?_ : RR _ _ _ _ 7 _ _ _ _)
      refine R_lconst (z := 0) dX12_stand_7 rfl (?_ : RR _ _ _ _ 8 _ _ _ _)
      refine R_ldc2 (z := 99) dX12_stand_8 klX12_392 (?_ : RR _ _ _ _ 11 _ _ _ _)
      refine R_cSi3 dX12_stand_11 msX12_in mlX12_120 (by decide) (Nat.le_of_ble_eq_true rfl) (Nat.le_of_ble_eq_true rfl) (T_X12_in) (?_ : RR _ _ _ _ 14 _ _ _ _)
      rw [if_neg q]
      refine R_if_ne (t := 19) dX12_stand_14 rfl (fun c14 => ?_) (fun c14 => ?_)
      · exfalso; omega
      refine R_iconst dX12_stand_17 (?_ : RR _ _ _ _ 18 _ _ _ _)
      exact R_ireturn dX12_stand_18 trivial hq
  · unfold aSt
    split
    · show h 154 1 ≤ _; omega
    · rename_i q
      have q : 0 ≤ n ∧ n ≤ 99 := Decidable.not_not.mp q
      show fup (h 154) 1 (h 154 1 + n) 1 ≤ _
      rw [fup_s]
      omega
  · unfold aSt
    split
    · exact fun _ _ => rfl
    · exact fup_oor (by omega)
end ML
