section GP
variable {k : Nat} {h h3 : Nat → Int → Int} {sem : Sem} {H np nc len : Nat}
theorem mAct_adds {h7 : Nat → Int → Int} {U : Nat} {w : Int × (Int → Int)} {TM : (Nat → Int → Int) → Prop} (q : 0 ≤ w.1) (m1 : ∀ a, a ≠ 147 → a ≠ 148 → a ≠ 154 → a ≠ 160 → a ≠ 161 → a ≠ 162 → h7 a = pby h3 U a) (m2 : h7 154 = w.2) (m3 : ∀ j : Int, j ≠ 1 → j ≠ 30 → h7 147 j = pby h3 U 147 j) (m4 : 0 ≤ h7 147 30 ∧ h7 147 30 < 64) (hTM : ∀ h4 : Nat → Int → Int, h4 147 1 = h7 147 1 → h4 148 = h7 148 → TM h4) : mAct h3 U w TM (some (pI w.1)) (shp0, rf0, rup (rup h7 147 (fup (h7 147) 28 (min 15 (U + 1)))) 163 (if U < 15 then h7 163 else shf (h7 163) 390)) := by
  have f1 : ∀ a, a ≠ 147 → a ≠ 148 → a ≠ 154 → a ≠ 160 → a ≠ 161 → a ≠ 162 → a ≠ 163 → h7 a = h3 a := fun a a1 b1 a2 a3 a4 a5 a6 => by rw [m1 a a1 b1 a2 a3 a4 a5, pby_a a6 a1]
  have f2 : ∀ j : Int, j ≠ 0 → j ≠ 1 → j ≠ 30 → h7 147 j = h3 147 j := fun j j0 j2 j1 => by rw [m3 j j2 j1, pby_j j0]
  have f3 : h7 163 = put (26 * U) (h3 154) (h3 163) 26 := by rw [m1 163 (by omega) (by omega) (by omega) (by omega) (by omega) (by omega), pby_163]
  refine ⟨_, rfl, rfl, ?_, hTM _ ?_ ?_, fun a a1 a2 a3 a4 a5 a6 a7 => ?_, fun j j1 j2 j3 j4 => ?_, ?_, fun z => by omega, fun _ => ⟨?_, ?_⟩⟩
  · rw [rup_n (by omega), rup_n (by omega)]; exact m2
  · rw [rup_n (by omega), rup_s, fup_n (by omega)]
  · rw [rup_n (by omega), rup_n (by omega)]
  · rw [rup_n a7, rup_n a1]; exact f1 a a1 a2 a3 a4 a5 a6 a7
  · rw [rup_n (by omega), rup_s, fup_n j3]; exact f2 j j1 j2 j4
  · rw [rup_n (by omega), rup_s, fup_n (by omega)]; exact m4
  · rw [rup_n (by omega), rup_s, fup_s]; omega
  · rw [rup_s, f3]
theorem A_go {a n : Int} (hs : SRx k h sem H np nc len) (hk : k ≤ 1000) (har : r32 a) (hnr : r32 n) : AG mX11_go mX12_go 4 5 [pI a, pI n] k h := by
  obtain ⟨U, x, hU, hx, hx15, hU15, hU2⟩ := sRU hs
  have hc := hs.2.2.2.1.1
  have hX := hs.1.2.2.2.2.1
  have x6 := sR6 hs
  have x12 := sR12 hs
  have hn := hs.2.2.2.1.2.1
  have hn0 := hc.1.2.1
  have hM := hX.2.2.2.2.2.1
  have hf0 := hc.1.1
  have hH := (sRH hs).2
  have hwb : (aGo (cxM sem h np nc) (h 154) a n).1 < 100 ∧ -100 < (aGo (cxM sem h np nc) (h 154) a n).1 ∧ (aGo (cxM sem h np nc) (h 154) a n).2 1 ≤ h 154 1 + 9 ∧ oor (aGo (cxM sem h np nc) (h 154) a n).2 (h 154) := by
    unfold aGo
    split
    · exact ⟨by show (-1 : Int) < 100; omega, by show (-100 : Int) < -1; omega, by show h 154 1 ≤ h 154 1 + 9; omega, fun _ _ => rfl⟩
    · rename_i q
      have q := Decidable.not_not.mp q
      split
      · exact ⟨by show (-2 : Int) < 100; omega, by show (-100 : Int) < -2; omega, by show h 154 1 ≤ h 154 1 + 9; omega, fun _ _ => rfl⟩
      · have := hM (2 * h 154 0 + a) (by omega) (by omega)
        refine ⟨?_, ?_, ?_, xGo_oor x6 x12⟩
        · show xM (cxM sem h np nc) (2 * h 154 0 + a) < 100; omega
        · show -100 < xM (cxM sem h np nc) (2 * h 154 0 + a); omega
        · show xGo (cxM sem h np nc) (h 154) n.toNat (2 * h 154 0 + a) 1 ≤ _
          rw [xGo_1]
          omega
  refine A_act hs hU hx (C_go hs hk har hnr hU hx hx15 hU15) (TM := toM (aGo (cxM sem h np nc) (h 154) a n) h (newOut np (aGo (cxM sem h np nc) (h 154) a n).2 (h 154))) (fun h3 e => ?_) (by omega) hwb.2.2.2 (fun h3 h4 c m e1 e2 => ?_)
  · obtain ⟨hB, eX⟩ := MBk_pby (U := U) hs hk e
    have hT := M_goes hB har hnr
    rw [eX, show pby h3 U 154 = h 154 by rw [pby_a (by omega) (by omega)]; exact e 154 (by omega)] at hT
    show RR _ _ _ _ _ [pR 147, pI a, pI n, pU, pU] _ _ _
    have e28 : h3 147 28 = U := by rw [e 147 (by omega)]; exact hU2
    have hnp : h3 147 5 = np := by rw [e 147 (by omega)]; exact hs.1.2.2.1
    have hr := isRw_154
    generalize aGo (cxM sem h np nc) (h 154) a n = w at hT hwb ⊢
    have K : ∀ (h6 : Nat → Int → Int), (∀ a, a ≠ 147 → a ≠ 154 → a ≠ 160 → a ≠ 161 → a ≠ 162 → h6 a = pby h3 U a) → h6 154 = w.2 → (∀ j : Int, j ≠ 30 → h6 147 j = pby h3 U 147 j) → (0 ≤ h6 147 30 ∧ h6 147 30 < 64) → RR mX12_go 5 0 0 28 [pR 147, pI a, pI n, pI (bset (fun p => decide (mS (h 154) p < 0)) np), pU] [pI w.1] (shp0, rf0, h6) (mAct h3 U w (toM w h (newOut np w.2 (h 154)))) := by
      intro h6 m1 m2 m3 m4
      have g1 : h6 147 1 = h 147 1 := by rw [m3 1 (by omega), pby_j (by omega), e 147 (by omega)]
      have g148 : h6 148 = h 148 := by rw [m1 148 (by omega) (by omega) (by omega) (by omega) (by omega), pby_a (by omega) (by omega), e 148 (by omega)]
      have g28 : h6 147 28 = U := by rw [m3 28 (by omega), pby_j (by omega)]; exact e28
      have g5 : h6 147 5 = np := by rw [m3 5 (by omega), pby_j (by omega)]; exact hnp
      by_cases q : w.1 < 0
      · have hq : mAct h3 U w (toM w h (newOut np w.2 (h 154))) (some (pI w.1)) (shp0, rf0, h6) := by
          refine ⟨h6, rfl, rfl, m2, ⟨fun _ => ⟨g1, g148⟩, fun z => by omega⟩, fun b b1 b2 b3 b4 b5 b6 b7 => by rw [m1 b b1 b3 b4 b5 b6, pby_a b7 b1], fun j j1 j2 j3 j4 => by rw [m3 j j4, pby_j j1], m4, fun _ => ⟨by rw [m3 28 (by omega), pby_j (by omega)], Or.inl (by rw [m1 163 (by omega) (by omega) (by omega) (by omega) (by omega), pby_163])⟩, fun z => by omega⟩
        refine R_istore dX12_go_28 (Nat.le_of_ble_eq_true rfl) (?_ : RR _ _ _ _ 30 [_, _, _, _, _] _ _ _)
        refine R_iload dX12_go_30 rfl (?_ : RR _ _ _ _ 32 _ _ _ _)
        refine R_if_ge (t := 38) dX12_go_32 rfl (fun c32 => ?_) (fun c32 => ?_)
        · exfalso; omega
        refine R_iload dX12_go_35 rfl (?_ : RR _ _ _ _ 37 _ _ _ _)
        exact R_ireturn dX12_go_37 trivial hq
      · obtain ⟨V, hV⟩ : ∃ V : Int, V = iAnd (bset (fun p => decide (mS w.2 p < 0)) np : Int) (iXor (bset (fun p => decide (mS (h 154) p < 0)) np : Int) (-1)) := ⟨_, rfl⟩
        have hVr : r32 V := by rw [hV]; exact iAnd_r
        have hV2 : V = (newOut np w.2 (h 154) : Nat) := by rw [hV, outs_new x12]; rfl
        obtain ⟨h7, h7e⟩ : ∃ h7, h7 = rup (rup h6 147 (fup (fup (h6 147) 1 0) 1 ((0 : Nat) + 1))) 148 (fup (h6 148) (0 : Nat) V) := ⟨_, rfl⟩
        have hq := mAct_adds (h3 := h3) (h7 := h7) (U := U) (w := w) (TM := toM w h (newOut np w.2 (h 154))) (by omega) (fun b b1 b2 b3 b4 b5 b6 => by rw [h7e, rup_n b2, rup_n b1]; exact m1 b b1 b3 b4 b5 b6) (by rw [h7e, rup_n (by omega), rup_n (by omega)]; exact m2) (fun j j1 j2 => by rw [h7e, rup_n (by omega), rup_s, fup_n j1, fup_n j1]; exact m3 j j2) (by rw [h7e, rup_n (by omega), rup_s, fup_n (by omega), fup_n (by omega)]; exact m4) (fun h4 z1 z2 => ⟨fun z => by omega, fun _ => ⟨by rw [z1, h7e, rup_n (by omega), rup_s, fup_s]; rfl, by rw [z2, h7e, rup_s, ← hV2]; exact fup_s⟩⟩)
        refine R_istore dX12_go_28 (Nat.le_of_ble_eq_true rfl) (?_ : RR _ _ _ _ 30 [_, _, _, _, _] _ _ _)
        refine R_iload dX12_go_30 rfl (?_ : RR _ _ _ _ 32 _ _ _ _)
        refine R_if_ge (t := 38) dX12_go_32 rfl (fun c32 => ?_) (fun c32 => ?_)
        rotate_left
        · exfalso; omega
        refine R_aload_n dX12_go_38 rfl (?_ : RR _ _ _ _ 39 _ _ _ _)
        refine R_iconst dX12_go_39 (?_ : RR _ _ _ _ 40 _ _ _ _)
        refine R_puti (zk := 1) dX12_go_40 flX12_113 cok_12 (by decide) (fun q hq => by cases hq; rfl) rfl (?_ : RR _ _ _ _ 43 _ _ _ _)
        refine R_aload_n dX12_go_43 rfl (?_ : RR _ _ _ _ 44 _ _ _ _)
        refine R_aload_n dX12_go_44 rfl (?_ : RR _ _ _ _ 45 _ _ _ _)
        refine R_aload_n dX12_go_45 rfl (?_ : RR _ _ _ _ 46 _ _ _ _)
        refine R_getr dX12_go_46 flX12_33 cok_12 rfl (by decide) (?_ : RR _ _ _ _ 49 _ _ _ _)
        refine R_cVi1 dX12_go_49 mvX12_outs mlX12_370 (by decide) (by decide) (Nat.le_of_ble_eq_true rfl) (Nat.le_of_ble_eq_true rfl) (T_X12_outs (np := np) (by simp (disch := omega) only [rup_s, fup_n]; exact g5)) (?_ : RR _ _ _ _ 52 _ _ _ _)
        simp (disch := omega) only [rup_n]
        rw [m2]
        refine R_iload_n dX12_go_52 rfl (?_ : RR _ _ _ _ 53 _ _ _ _)
        refine R_iconst dX12_go_53 (?_ : RR _ _ _ _ 54 _ _ _ _)
        refine R_ixor dX12_go_54 (?_ : RR _ _ _ _ 55 _ _ _ _)
        refine R_iand dX12_go_55 (?_ : RR _ _ _ _ 56 _ _ _ _)
        rw [← hV]
        refine R_i2l dX12_go_56 (by first | assumption | omega) (?_ : RR _ _ _ _ 57 _ _ _ _)
        refine R_cVv1 dX12_go_57 mvX12_enters mlX12_116 (by decide) (by decide) (Nat.le_of_ble_eq_true rfl) (Nat.le_of_ble_eq_true rfl) (T_X12_enters (n := 0) (by rw [rup_s, fup_s]; rfl) (by omega) (by omega)) (?_ : RR _ _ _ _ 60 _ _ _ _)
        simp (disch := omega) only [rup_rup, rup_s, rup_n]
        rw [← h7e]
        refine R_aload_n dX12_go_60 rfl (?_ : RR _ _ _ _ 61 _ _ _ _)
        refine R_iload dX12_go_61 rfl (?_ : RR _ _ _ _ 63 _ _ _ _)
        refine R_cVi1 dX12_go_63 mvX12_adds mlX12_332 (by decide) (by decide) (Nat.le_of_ble_eq_true rfl) (Nat.le_of_ble_eq_true rfl) (T_X12_adds (U := U) (by rw [h7e, rup_n (by omega), rup_s, fup_n (by omega), fup_n (by omega)]; exact g28) hU15 (by omega)) (?_ : RR _ _ _ _ 66 _ _ _ _)
        exact R_ireturn dX12_go_66 trivial hq
    refine R_aload_n dX12_go_0 rfl (?_ : RR _ _ _ _ 1 _ _ _ _)
    refine R_iconst dX12_go_1 (?_ : RR _ _ _ _ 2 _ _ _ _)
    refine R_puti (zk := 0) dX12_go_2 flX12_106 cok_12 (by decide) (fun q hq => by cases hq; rfl) rfl (?_ : RR _ _ _ _ 5 _ _ _ _)
    refine R_aload_n dX12_go_5 rfl (?_ : RR _ _ _ _ 6 _ _ _ _)
    refine R_cVv0 dX12_go_6 mvX12_putsBy mlX12_367 (by decide) (by decide) (Nat.le_of_ble_eq_true rfl) (Nat.le_of_ble_eq_true rfl) (T_X12_putsBy (U := U) (by simp (disch := omega) only [rup_s, fup_n]; exact e28) hU15) (?_ : RR _ _ _ _ 9 _ _ _ _)
    simp (disch := omega) only [rup_n]
    refine R_aload_n dX12_go_9 rfl (?_ : RR _ _ _ _ 10 _ _ _ _)
    refine R_aload_n dX12_go_10 rfl (?_ : RR _ _ _ _ 11 _ _ _ _)
    refine R_getr dX12_go_11 flX12_33 cok_12 rfl (by decide) (?_ : RR _ _ _ _ 14 _ _ _ _)
    refine R_cVi1 dX12_go_14 mvX12_outs mlX12_370 (by decide) (by decide) (Nat.le_of_ble_eq_true rfl) (Nat.le_of_ble_eq_true rfl) (T_X12_outs (np := np) (by simp (disch := omega) only [rup_n, rup_s, fup_n]; exact hnp)) (?_ : RR _ _ _ _ 17 _ _ _ _)
    simp (disch := omega) only [rup_n]
    rw [e 154 (by omega)]
    refine R_istore_n dX12_go_17 (Nat.le_of_ble_eq_true rfl) (?_ : RR _ _ _ _ 18 [_, _, _, _, _] _ _ _)
    refine R_aload_n dX12_go_18 rfl (?_ : RR _ _ _ _ 19 _ _ _ _)
    refine R_aload_n dX12_go_19 rfl (?_ : RR _ _ _ _ 20 _ _ _ _)
    refine R_getr dX12_go_20 flX12_33 cok_12 rfl (by decide) (?_ : RR _ _ _ _ 23 _ _ _ _)
    refine R_iload_n dX12_go_23 rfl (?_ : RR _ _ _ _ 24 _ _ _ _)
    refine R_iload_n dX12_go_24 rfl (?_ : RR _ _ _ _ 25 _ _ _ _)
    rw [← e 154 (by omega)]
    refine R_qV3 dX12_go_25 mvX12_goes mlX12_376 (by decide) (by decide) (Nat.le_of_ble_eq_true rfl) (Nat.le_of_ble_eq_true rfl) (hT) (fun r9 g9 hq9 => (?_ : RR _ _ _ _ 28 _ _ _ _))
    obtain ⟨h6, rfl, m1, m2, rfl, m3, m4⟩ := hq9
    rw [e 154 (by omega)]
    show RR _ _ _ _ _ _ [pI w.1] _ _
    exact K h6 m1 m2 m3 m4
  · by_cases q : (aGo (cxM sem h np nc) (h 154) a n).1 < 0
    · have c := c.1 q
      have m := m.1 q
      exact SD_same hs.2.2.1 (by rw [e1, c.1]) m.1 (e2.trans c.2) m.2
    · have c := c.2 (by omega)
      have m := m.2 (by omega)
      exact SD_1 (by rw [e1]; exact c.1) m.1 (by rw [e2]; exact c.2) m.2
end GP
