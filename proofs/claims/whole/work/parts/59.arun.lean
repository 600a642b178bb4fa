section RV
variable {k : Nat} {h h3 : Nat → Int → Int} {sem : Sem} {H np nc len : Nat}
theorem A_run (hs : SRx k h sem H np nc len) (hk : k ≤ 1000) : AG mX11_run mX12_run 6 9 [] k h := by
  obtain ⟨U, x, hU, hx, hx15, hU15, hU2⟩ := sRU hs
  have hc := hs.2.2.2.1.1
  have hX := hs.1.2.2.2.2.1
  have x6 := sR6 hs
  have x12 := sR12 hs
  have hn := hs.2.2.2.1.2.1
  have hn0 := hc.1.2.1
  have hst := xStep_1 (bh := 0) hX hc.1
  have hLb := ruL_b (X := cxM sem h np nc) (f := h 154) x6
  have hOb := newOut_b (np := np) (f := h 154) (f' := xStep (cxM sem h np nc) 0 (h 154)) x12
  have hwb : 0 ≤ (aRu (cxM sem h np nc) (h 154)).1 ∧ (aRu (cxM sem h np nc) (h 154)).1 ≤ 2 := by
    have := xCrs_b (X := cxM sem h np nc) (f := h 154) (bh := 0)
    unfold aRu
    show 0 ≤ (if _ then xCrs (cxM sem h np nc) (h 154) 0 else 2) ∧ (if _ then xCrs (cxM sem h np nc) (h 154) 0 else 2) ≤ 2
    split <;> omega
  refine A_act hs hU hx (C_run hs hk hU hx hx15 hU15) (TM := ruM (cxM sem h np nc) (h 154)) (fun h3 e => ?_) ?_ ?_ (fun h3 h4 c m e1 e2 => ?_)
  · obtain ⟨hB, eX⟩ := MBk_pby (U := U) hs hk e
    have hT := M_runs hB
    have p154 : pby h3 U 154 = h 154 := by rw [pby_a (by omega) (by omega)]; exact e 154 (by omega)
    have p149 : pby h3 U 149 = h 149 := by rw [pby_a (by omega) (by omega)]; exact e 149 (by omega)
    rw [eX, p154, p149] at hT
    show RR _ _ _ _ _ [pR 147, pU, pU, pU] _ _ _
    have e28 : h3 147 28 = U := by rw [e 147 (by omega)]; exact hU2
    have hnp : h3 147 5 = np := by rw [e 147 (by omega)]; exact hs.1.2.2.1
    have hr := isRw_154
    have e2' : (aRu (cxM sem h np nc) (h 154)).2 = xStep (cxM sem h np nc) 0 (h 154) := rfl
    have hst2 := hst
    generalize aRu (cxM sem h np nc) (h 154) = w at hT hwb e2' ⊢
    have K : ∀ (h6 : Nat → Int → Int), (∀ a, a ≠ 147 → a ≠ 154 → a ≠ 160 → a ≠ 161 → a ≠ 162 → h6 a = pby h3 U a) → h6 154 = w.2 → (∀ j : Int, j ≠ 30 → h6 147 j = pby h3 U 147 j) → (0 ≤ h6 147 30 ∧ h6 147 30 < 64) → h6 147 30 = ruL (cxM sem h np nc) (h 154) → RR mX12_run 9 0 0 33 [pR 147, pI (bset (fun p => decide (mS (h 154) p < 0)) np), pI (h 154 1), pU] [pI w.1] (shp0, rf0, h6) (mAct h3 U w (ruM (cxM sem h np nc) (h 154))) := by
      intro h6 m1 m2 m3 m4 m5
      have g28 : h6 147 28 = U := by rw [m3 28 (by omega), pby_j (by omega)]; exact e28
      have g5 : h6 147 5 = np := by rw [m3 5 (by omega), pby_j (by omega)]; exact hnp
      obtain ⟨V, hV⟩ : ∃ V : Int, V = iAnd (bset (fun p => decide (mS w.2 p < 0)) np : Int) (iXor (bset (fun p => decide (mS (h 154) p < 0)) np : Int) (-1)) := ⟨_, rfl⟩
      have hVr : r32 V := by rw [hV]; exact iAnd_r
      have hV2 : V = (newOut np (xStep (cxM sem h np nc) 0 (h 154)) (h 154) : Nat) := by rw [hV, outs_new x12, e2']; rfl
      obtain ⟨h7, h7e⟩ : ∃ h7, h7 = rup (rup h6 147 (fup (fup (fup (fup (h6 147) 1 0) 1 ((0 : Nat) + 1)) 1 ((1 : Nat) + 1)) 1 ((2 : Nat) + 1))) 148 (fup (fup (fup (h6 148) (0 : Nat) (h6 147 30)) (1 : Nat) V) (2 : Nat) (w.2 1 - h 154 1)) := ⟨_, rfl⟩
      have hq := mAct_adds (h3 := h3) (h7 := h7) (U := U) (w := w) (TM := ruM (cxM sem h np nc) (h 154)) (by omega) (fun b b1 b2 b3 b4 b5 b6 => by rw [h7e, rup_n b2, rup_n b1]; exact m1 b b1 b3 b4 b5 b6) (by rw [h7e, rup_n (by omega), rup_n (by omega)]; exact m2) (fun j j1 j2 => by rw [h7e, rup_n (by omega), rup_s, fup_n j1, fup_n j1, fup_n j1, fup_n j1]; exact m3 j j2) (by rw [h7e, rup_n (by omega), rup_s, fup_n (by omega), fup_n (by omega), fup_n (by omega), fup_n (by omega)]; exact m4) (fun h4 z1 z2 => ⟨by rw [z1, h7e, rup_n (by omega), rup_s, fup_s]; rfl, by rw [z2, h7e, rup_s, fup_n (by omega), fup_n (by omega), ← m5]; exact fup_s, by
        rw [z2, h7e, rup_s, fup_n (by omega)]
        show fup _ (1 : Nat) _ 1 = _
        rw [show ((1 : Nat) : Int) = 1 from rfl, fup_s]
        exact hV2, by
        rw [z2, h7e, rup_s]
        show fup _ (2 : Nat) _ 2 = _
        rw [show ((2 : Nat) : Int) = 2 from rfl, fup_s, e2']⟩)
      have hd : r32 (w.2 1 - h 154 1) := by rw [e2']; omega
      have hm30 : r32 (h6 147 30) := by omega
      refine R_istore_n dX12_run_33 (Nat.le_of_ble_eq_true rfl) (?_ : RR _ _ _ _ 34 [_, _, _, _] _ _ _)
      refine R_aload_n dX12_run_34 rfl (?_ : RR _ _ _ _ 35 _ _ _ _)
      refine R_iconst dX12_run_35 (?_ : RR _ _ _ _ 36 _ _ _ _)
      refine R_puti (zk := 1) dX12_run_36 flX12_113 cok_12 (by decide) (fun q hq => by cases hq; rfl) rfl (?_ : RR _ _ _ _ 39 _ _ _ _)
      refine R_aload_n dX12_run_39 rfl (?_ : RR _ _ _ _ 40 _ _ _ _)
      refine R_aload_n dX12_run_40 rfl (?_ : RR _ _ _ _ 41 _ _ _ _)
      refine R_geti (z := 30) dX12_run_41 flX12_335 cok_12 rfl (by decide) rfl (fun q41 => (?_ : RR _ _ _ _ 44 _ _ _ _))
      simp (disch := omega) only [rup_s, fup_n] at q41 ⊢
      refine R_i2l dX12_run_44 (by first | assumption | omega) (?_ : RR _ _ _ _ 45 _ _ _ _)
      refine R_cVv1 dX12_run_45 mvX12_enters mlX12_116 (by decide) (by decide) (Nat.le_of_ble_eq_true rfl) (Nat.le_of_ble_eq_true rfl) (T_X12_enters (n := 0) (by rw [rup_s, fup_s]; rfl) (by omega) (by omega)) (?_ : RR _ _ _ _ 48 _ _ _ _)
      simp (disch := omega) only [rup_rup, rup_s, rup_n]
      refine R_aload_n dX12_run_48 rfl (?_ : RR _ _ _ _ 49 _ _ _ _)
      refine R_aload_n dX12_run_49 rfl (?_ : RR _ _ _ _ 50 _ _ _ _)
      refine R_aload_n dX12_run_50 rfl (?_ : RR _ _ _ _ 51 _ _ _ _)
      refine R_getr dX12_run_51 flX12_33 cok_12 rfl (by decide) (?_ : RR _ _ _ _ 54 _ _ _ _)
      refine R_cVi1 dX12_run_54 mvX12_outs mlX12_370 (by decide) (by decide) (Nat.le_of_ble_eq_true rfl) (Nat.le_of_ble_eq_true rfl) (T_X12_outs (np := np) (by simp (disch := omega) only [rup_n, rup_s, fup_n]; exact g5)) (?_ : RR _ _ _ _ 57 _ _ _ _)
      simp (disch := omega) only [rup_n]
      rw [m2]
      refine R_iload_n dX12_run_57 rfl (?_ : RR _ _ _ _ 58 _ _ _ _)
      refine R_iconst dX12_run_58 (?_ : RR _ _ _ _ 59 _ _ _ _)
      refine R_ixor dX12_run_59 (?_ : RR _ _ _ _ 60 _ _ _ _)
      refine R_iand dX12_run_60 (?_ : RR _ _ _ _ 61 _ _ _ _)
      rw [← hV]
      refine R_i2l dX12_run_61 (by first | assumption | omega) (?_ : RR _ _ _ _ 62 _ _ _ _)
      refine R_cVv1 dX12_run_62 mvX12_enters mlX12_116 (by decide) (by decide) (Nat.le_of_ble_eq_true rfl) (Nat.le_of_ble_eq_true rfl) (T_X12_enters (n := 1) (by rw [rup_n (by omega), rup_s, fup_s]; rfl) (by omega) (by omega)) (?_ : RR _ _ _ _ 65 _ _ _ _)
      simp (disch := omega) only [rup_rup, rup_sort, rupS_def, rup_s, rup_n]
      refine R_aload_n dX12_run_65 rfl (?_ : RR _ _ _ _ 66 _ _ _ _)
      refine R_aload_n dX12_run_66 rfl (?_ : RR _ _ _ _ 67 _ _ _ _)
      refine R_getr dX12_run_67 flX12_33 cok_12 rfl (by decide) (?_ : RR _ _ _ _ 70 _ _ _ _)
      refine R_iconst dX12_run_70 (?_ : RR _ _ _ _ 71 _ _ _ _)
      refine R_iald dX12_run_71 (fun q71 => (?_ : RR _ _ _ _ 72 _ _ _ _))
      simp (disch := omega) only [rup_n] at q71 ⊢
      rw [m2] at q71 ⊢
      refine R_iload_n dX12_run_72 rfl (?_ : RR _ _ _ _ 73 _ _ _ _)
      refine R_isub dX12_run_73 (?_ : RR _ _ _ _ 74 _ _ _ _)
      refine R_i2l dX12_run_74 (by first | assumption | omega) (?_ : RR _ _ _ _ 75 _ _ _ _)
      refine R_cVv1 dX12_run_75 mvX12_enters mlX12_116 (by decide) (by decide) (Nat.le_of_ble_eq_true rfl) (Nat.le_of_ble_eq_true rfl) (T_X12_enters (n := 2) (by rw [rup_n (by omega), rup_s, fup_s]; rfl) (by omega) (by omega)) (?_ : RR _ _ _ _ 78 _ _ _ _)
      simp (disch := omega) only [rup_rup, rup_sort, rupS_def, rup_s, rup_n]
      rw [← h7e]
      refine R_aload_n dX12_run_78 rfl (?_ : RR _ _ _ _ 79 _ _ _ _)
      refine R_iload_n dX12_run_79 rfl (?_ : RR _ _ _ _ 80 _ _ _ _)
      refine R_cVi1 dX12_run_80 mvX12_adds mlX12_332 (by decide) (by decide) (Nat.le_of_ble_eq_true rfl) (Nat.le_of_ble_eq_true rfl) (T_X12_adds (U := U) (by rw [h7e, rup_n (by omega), rup_s, fup_n (by omega), fup_n (by omega), fup_n (by omega), fup_n (by omega)]; exact g28) hU15 (by omega)) (?_ : RR _ _ _ _ 83 _ _ _ _)
      exact R_ireturn dX12_run_83 trivial hq
    refine R_aload_n dX12_run_0 rfl (?_ : RR _ _ _ _ 1 _ _ _ _)
    refine R_iconst dX12_run_1 (?_ : RR _ _ _ _ 2 _ _ _ _)
    refine R_puti (zk := 0) dX12_run_2 flX12_106 cok_12 (by decide) (fun q hq => by cases hq; rfl) rfl (?_ : RR _ _ _ _ 5 _ _ _ _)
    refine R_aload_n dX12_run_5 rfl (?_ : RR _ _ _ _ 6 _ _ _ _)
    refine R_cVv0 dX12_run_6 mvX12_putsBy mlX12_367 (by decide) (by decide) (Nat.le_of_ble_eq_true rfl) (Nat.le_of_ble_eq_true rfl) (T_X12_putsBy (U := U) (by simp (disch := omega) only [rup_s, fup_n]; exact e28) hU15) (?_ : RR _ _ _ _ 9 _ _ _ _)
    simp (disch := omega) only [rup_n]
    refine R_aload_n dX12_run_9 rfl (?_ : RR _ _ _ _ 10 _ _ _ _)
    refine R_aload_n dX12_run_10 rfl (?_ : RR _ _ _ _ 11 _ _ _ _)
    refine R_getr dX12_run_11 flX12_33 cok_12 rfl (by decide) (?_ : RR _ _ _ _ 14 _ _ _ _)
    refine R_cVi1 dX12_run_14 mvX12_outs mlX12_370 (by decide) (by decide) (Nat.le_of_ble_eq_true rfl) (Nat.le_of_ble_eq_true rfl) (T_X12_outs (np := np) (by simp (disch := omega) only [rup_n, rup_s, fup_n]; exact hnp)) (?_ : RR _ _ _ _ 17 _ _ _ _)
    simp (disch := omega) only [rup_n]
    rw [e 154 (by omega)]
    refine R_istore_n dX12_run_17 (Nat.le_of_ble_eq_true rfl) (?_ : RR _ _ _ _ 18 [_, _, _, _] _ _ _)
    refine R_aload_n dX12_run_18 rfl (?_ : RR _ _ _ _ 19 _ _ _ _)
    refine R_getr dX12_run_19 flX12_33 cok_12 rfl (by decide) (?_ : RR _ _ _ _ 22 _ _ _ _)
    refine R_iconst dX12_run_22 (?_ : RR _ _ _ _ 23 _ _ _ _)
    refine R_iald dX12_run_23 (fun q23 => (?_ : RR _ _ _ _ 24 _ _ _ _))
    simp (disch := omega) only [rup_n] at q23 ⊢
    refine R_istore_n dX12_run_24 (Nat.le_of_ble_eq_true rfl) (?_ : RR _ _ _ _ 25 [_, _, _, _] _ _ _)
    refine R_aload_n dX12_run_25 rfl (?_ : RR _ _ _ _ 26 _ _ _ _)
    refine R_aload_n dX12_run_26 rfl (?_ : RR _ _ _ _ 27 _ _ _ _)
    refine R_getr dX12_run_27 flX12_33 cok_12 rfl (by decide) (?_ : RR _ _ _ _ 30 _ _ _ _)
    rw [← e 154 (by omega)]
    refine R_qV1 dX12_run_30 mvX12_runs mlX12_373 (by decide) (by decide) (Nat.le_of_ble_eq_true rfl) (Nat.le_of_ble_eq_true rfl) (hT) (fun r9 g9 hq9 => (?_ : RR _ _ _ _ 33 _ _ _ _))
    obtain ⟨⟨h6, rfl, m1, m2, rfl, m3, m4⟩, hb, hbe, m5⟩ := hq9
    obtain rfl : h6 = hb := by injection hbe with z1 z2; injection z2
    rw [e 154 (by omega)]
    show RR _ _ _ _ _ _ [pI w.1] _ _
    exact K h6 m1 m2 m3 m4 m5
  · show xStep (cxM sem h np nc) 0 (h 154) 1 ≤ _
    omega
  · exact xStep_oor x6 x12
  · exact SD_3 (by rw [e1]; exact c.1) m.1 (by rw [e2]; exact c.2.1) m.2.1 (by rw [e2]; exact c.2.2.1) m.2.2.1 (by rw [e2]; exact c.2.2.2) m.2.2.2
/-! undo -/
theorem T_X11_undo_no (hn : h 44 3 = 0) : MT mX11_undo 3 [pR 0] h (some (pI (-1))) h := by
  refine MT.of (fun Q hQ => (?_ : RR mX11_undo _ _ _ _ [pR 0] _ _ _))
  refine R_aload_n dX11_undo_0 rfl (?_ : RR _ _ _ _ 1 _ _ _ _)
  refine R_getr dX11_undo_1 flX11_66 cok_11 rfl (by decide) (?_ : RR _ _ _ _ 4 _ _ _ _)
  refine R_geti (z := 3) dX11_undo_4 flX11_285 cok_1 rfl (by decide) rfl (fun q4 => (?_ : RR _ _ _ _ 7 _ _ _ _))
  refine R_if_ne (t := 12) dX11_undo_7 rfl (fun c7 => ?_) (fun c7 => ?_)
  · exfalso; omega
  refine R_iconst dX11_undo_10 (?_ : RR _ _ _ _ 11 _ _ _ _)
  exact R_ireturn dX11_undo_11 trivial hQ
theorem T_X11_undo {x U : Nat} (hx : h 44 4 = x) (hU : h 44 3 = U) (hx15 : x < 15) (hU15 : 1 ≤ U ∧ U ≤ 15) : MT mX11_undo 3 [pR 0] h (some (pI (U - 1))) (trC (rup h 44 (fup (fup (h 44) 4 (((x + 14) % 15 : Nat) : Int)) 3 (U - 1))) 14 (48 + 5 * ((x + 14) % 15))) := by
  refine MT.of (fun Q hQ => (?_ : RR mX11_undo _ _ _ _ [pR 0] _ _ _))
  have t14 := isTr_14
  refine R_aload_n dX11_undo_0 rfl (?_ : RR _ _ _ _ 1 _ _ _ _)
  refine R_getr dX11_undo_1 flX11_66 cok_11 rfl (by decide) (?_ : RR _ _ _ _ 4 _ _ _ _)
  refine R_geti (z := 3) dX11_undo_4 flX11_285 cok_1 rfl (by decide) rfl (fun q4 => (?_ : RR _ _ _ _ 7 _ _ _ _))
  refine R_if_ne (t := 12) dX11_undo_7 rfl (fun c7 => ?_) (fun c7 => ?_)
  rotate_left
  · exfalso; omega
  refine R_aload_n dX11_undo_12 rfl (?_ : RR _ _ _ _ 13 _ _ _ _)
  refine R_getr dX11_undo_13 flX11_66 cok_11 rfl (by decide) (?_ : RR _ _ _ _ 16 _ _ _ _)
  refine R_aload_n dX11_undo_16 rfl (?_ : RR _ _ _ _ 17 _ _ _ _)
  refine R_getr dX11_undo_17 flX11_36 cok_11 rfl (by decide) (?_ : RR _ _ _ _ 20 _ _ _ _)
  refine R_cVv1 dX11_undo_20 mvX1_back mlX11_286 (by decide) (by decide) (Nat.le_of_ble_eq_true rfl) (Nat.le_of_ble_eq_true rfl) (T_X1_back hx hU hx15 hU15) (?_ : RR _ _ _ _ 23 _ _ _ _)
  refine R_aload_n dX11_undo_23 rfl (?_ : RR _ _ _ _ 24 _ _ _ _)
  refine R_getr dX11_undo_24 flX11_66 cok_11 rfl (by decide) (?_ : RR _ _ _ _ 27 _ _ _ _)
  refine R_geti (z := 3) dX11_undo_27 flX11_285 cok_1 rfl (by decide) rfl (fun q27 => (?_ : RR _ _ _ _ 30 _ _ _ _))
  rw [trC_n (by omega), rup_s, fup_s] at q27 ⊢
  exact R_ireturn dX11_undo_30 trivial hQ
theorem T_X12_undo_no (hn : h 147 28 = 0) : MT mX12_undo 0 [pR 147] h (some (pI (-1))) (rup h 147 (fup (h 147) 0 0)) := by
  refine MT.of (fun Q hQ => (?_ : RR mX12_undo _ _ _ _ [pR 147, pU] _ _ _))
  refine R_aload_n dX12_undo_0 rfl (?_ : RR _ _ _ _ 1 _ _ _ _)
  refine R_iconst dX12_undo_1 (?_ : RR _ _ _ _ 2 _ _ _ _)
  refine R_puti (zk := 0) dX12_undo_2 flX12_106 cok_12 (by decide) (fun q hq => by cases hq; rfl) rfl (?_ : RR _ _ _ _ 5 _ _ _ _)
  try simp (disch := omega) only [rup_rup, rup_sort, rupS_def, rup_s, rup_n, fup_fup, fup_s, fup_n]
  refine R_aload_n dX12_undo_5 rfl (?_ : RR _ _ _ _ 6 _ _ _ _)
  refine R_geti (z := 28) dX12_undo_6 flX12_208 cok_12 rfl (by decide) rfl (fun q6 => (?_ : RR _ _ _ _ 9 _ _ _ _))
  try simp (disch := omega) only [rup_rup, rup_sort, rupS_def, rup_s, rup_n, fup_fup, fup_s, fup_n] at q6 ⊢
  refine R_if_ne (t := 14) dX12_undo_9 rfl (fun c9 => ?_) (fun c9 => ?_)
  · exfalso; omega
  refine R_iconst dX12_undo_12 (?_ : RR _ _ _ _ 13 _ _ _ _)
  exact R_ireturn dX12_undo_13 trivial hQ
theorem T_X12_undo {U : Nat} (hU : h 147 28 = U) (hU15 : 1 ≤ U ∧ U ≤ 15) : MT mX12_undo 0 [pR 147] h (some (pI (U - 1))) (rup (rup h 147 (fup (fup (h 147) 0 0) 28 (U - 1))) 154 (sgm (26 * (U - 1)) (h 163) (h 154) 26)) := by
  refine MT.of (fun Q hQ => (?_ : RR mX12_undo _ _ _ _ [pR 147, pU] _ _ _))
  have L : ∀ k i : Nat, i + k = 26 → RR mX12_undo 0 0 0 26 [pR 147, pI i] [] (shp0, rf0, rup (rup h 147 (fup (fup (h 147) 0 0) 28 (U - 1))) 154 (sgm (26 * (U - 1)) (h 163) (h 154) i)) Q := by
    intro k
    induction k with
    | zero =>
      intro i hi 
      obtain rfl : i = 26 := by omega
      refine R_iload_n dX12_undo_26 rfl (?_ : RR _ _ _ _ 27 _ _ _ _)
      refine R_bipush dX12_undo_27 rfl (?_ : RR _ _ _ _ 29 _ _ _ _)
      refine R_icmp_ge (t := 58) dX12_undo_29 rfl (fun c29 => ?_) (fun c29 => ?_)
      rotate_left
      · exfalso; omega
      refine R_aload_n dX12_undo_58 rfl (?_ : RR _ _ _ _ 59 _ _ _ _)
      refine R_geti (z := 28) dX12_undo_59 flX12_208 cok_12 rfl (by decide) rfl (fun q59 => (?_ : RR _ _ _ _ 62 _ _ _ _))
      try simp (disch := omega) only [rup_rup, rup_sort, rupS_def, rup_s, rup_n, fup_fup, fup_s, fup_n] at q59 ⊢
      exact R_ireturn dX12_undo_62 trivial hQ
    | succ k ih =>
      intro i hi 
      refine R_iload_n dX12_undo_26 rfl (?_ : RR _ _ _ _ 27 _ _ _ _)
      refine R_bipush dX12_undo_27 rfl (?_ : RR _ _ _ _ 29 _ _ _ _)
      refine R_icmp_ge (t := 58) dX12_undo_29 rfl (fun c29 => ?_) (fun c29 => ?_)
      · exfalso; omega
      refine R_aload_n dX12_undo_32 rfl (?_ : RR _ _ _ _ 33 _ _ _ _)
      refine R_getr dX12_undo_33 flX12_33 cok_12 rfl (by decide) (?_ : RR _ _ _ _ 36 _ _ _ _)
      refine R_iload_n dX12_undo_36 rfl (?_ : RR _ _ _ _ 37 _ _ _ _)
      refine R_aload_n dX12_undo_37 rfl (?_ : RR _ _ _ _ 38 _ _ _ _)
      refine R_getr dX12_undo_38 flX12_60 cok_12 rfl (by decide) (?_ : RR _ _ _ _ 41 _ _ _ _)
      refine R_bipush dX12_undo_41 rfl (?_ : RR _ _ _ _ 43 _ _ _ _)
      refine R_aload_n dX12_undo_43 rfl (?_ : RR _ _ _ _ 44 _ _ _ _)
      refine R_geti (z := 28) dX12_undo_44 flX12_208 cok_12 rfl (by decide) rfl (fun q44 => (?_ : RR _ _ _ _ 47 _ _ _ _))
      try simp (disch := omega) only [rup_rup, rup_sort, rupS_def, rup_s, rup_n, fup_fup, fup_s, fup_n] at q44 ⊢
      refine R_imul dX12_undo_47 (?_ : RR _ _ _ _ 48 _ _ _ _)
      refine R_iload_n dX12_undo_48 rfl (?_ : RR _ _ _ _ 49 _ _ _ _)
      refine R_iadd dX12_undo_49 (?_ : RR _ _ _ _ 50 _ _ _ _)
      refine R_iald dX12_undo_50 (fun q50 => (?_ : RR _ _ _ _ 51 _ _ _ _))
      try simp (disch := omega) only [rup_rup, rup_sort, rupS_def, rup_s, rup_n, fup_fup, fup_s, fup_n] at q50 ⊢
      refine R_iast dX12_undo_51 (?_ : RR _ _ _ _ 52 _ _ _ _)
      try simp (disch := omega) only [rup_rup, rup_sort, rupS_def, rup_s, rup_n, fup_fup, fup_s, fup_n]
      rw [sgm_s]
      refine R_iinc dX12_undo_52 rfl (Nat.le_of_ble_eq_true rfl) (?_ : RR _ _ _ _ 55 [_, _] _ _ _)
      refine R_goto (t := 26) dX12_undo_55 rfl (?_ : RR _ _ _ _ 26 _ _ _ _)
      exact ih (i + 1) (by omega)
  refine R_aload_n dX12_undo_0 rfl (?_ : RR _ _ _ _ 1 _ _ _ _)
  refine R_iconst dX12_undo_1 (?_ : RR _ _ _ _ 2 _ _ _ _)
  refine R_puti (zk := 0) dX12_undo_2 flX12_106 cok_12 (by decide) (fun q hq => by cases hq; rfl) rfl (?_ : RR _ _ _ _ 5 _ _ _ _)
  try simp (disch := omega) only [rup_rup, rup_sort, rupS_def, rup_s, rup_n, fup_fup, fup_s, fup_n, hU]
  refine R_aload_n dX12_undo_5 rfl (?_ : RR _ _ _ _ 6 _ _ _ _)
  refine R_geti (z := 28) dX12_undo_6 flX12_208 cok_12 rfl (by decide) rfl (fun q6 => (?_ : RR _ _ _ _ 9 _ _ _ _))
  try simp (disch := omega) only [rup_rup, rup_sort, rupS_def, rup_s, rup_n, fup_fup, fup_s, fup_n, hU] at q6 ⊢
  refine R_if_ne (t := 14) dX12_undo_9 rfl (fun c9 => ?_) (fun c9 => ?_)
  rotate_left
  · exfalso; omega
  refine R_aload_n dX12_undo_14 rfl (?_ : RR _ _ _ _ 15 _ _ _ _)
  refine R_dup dX12_undo_15 (fun _ => rfl) (?_ : RR _ _ _ _ 16 _ _ _ _)
  refine R_geti (z := 28) dX12_undo_16 flX12_208 cok_12 rfl (by decide) rfl (fun q16 => (?_ : RR _ _ _ _ 19 _ _ _ _))
  try simp (disch := omega) only [rup_rup, rup_sort, rupS_def, rup_s, rup_n, fup_fup, fup_s, fup_n, hU] at q16 ⊢
  refine R_iconst dX12_undo_19 (?_ : RR _ _ _ _ 20 _ _ _ _)
  refine R_isub dX12_undo_20 (?_ : RR _ _ _ _ 21 _ _ _ _)
  refine R_puti (zk := 28) dX12_undo_21 flX12_208 cok_12 (by decide) (fun q hq => by cases hq; rfl) rfl (?_ : RR _ _ _ _ 24 _ _ _ _)
  try simp (disch := omega) only [rup_rup, rup_sort, rupS_def, rup_s, rup_n, fup_fup, fup_s, fup_n, hU]
  refine R_iconst dX12_undo_24 (?_ : RR _ _ _ _ 25 _ _ _ _)
  refine R_istore_n dX12_undo_25 (Nat.le_of_ble_eq_true rfl) (?_ : RR _ _ _ _ 26 [_, _] _ _ _)
  have L0 := L 26 0 (by omega)
  rw [sgm_0, rup_id (a := 154) (by rw [rup_n (by omega)])] at L0
  exact L0
theorem sgm_oor {b : Int} {r f : Int → Int} : oor (sgm b r f 26) f := fun j q => if_neg (by omega)
theorem A_undo (hs : SRx k h sem H np nc len) : AG mX11_undo mX12_undo 3 0 [] k h := by
  obtain ⟨U, x, u4, u5, u6, u7, u8, u9⟩ := SU_un hs.2.2.2.1
  have x6 := sR6 hs
  have x12 := sR12 hs
  by_cases q : U = 0
  · subst q
    exact AG_det (T_X11_undo_no u4) (T_X12_undo_no u5) (SR_thr hs)
  · obtain ⟨l, c1, c2⟩ := u9 (U - 1) (by omega)
    rw [show (x + 15 - U + (U - 1)) % 15 = (x + 14) % 15 by omega] at c1
    obtain ⟨h1, h1e⟩ : ∃ h1, h1 = trC (rup h 44 (fup (fup (h 44) 4 (((x + 14) % 15 : Nat) : Int)) 3 (U - 1))) 14 (48 + 5 * ((x + 14) % 15)) := ⟨_, rfl⟩
    have f1 : ∀ a, a ≠ 44 → ¬ (14 ≤ a ∧ a ≤ 18) → h1 a = h a := fun a a1 a2 => by rw [h1e, trC_n (by omega), rup_n a1]
    have hm := T_X12_undo (h := h1) (U := U) (by rw [f1 147 (by omega) (by omega)]; exact u5) (by omega)
    rw [f1 147 (by omega) (by omega), f1 163 (by omega) (by omega), f1 154 (by omega) (by omega)] at hm
    have hcl := T_X11_undo u7 u4 u8 (by omega)
    rw [← h1e] at hcl
    refine AG_det hcl hm ?_
    obtain ⟨h2, h2e⟩ : ∃ h2, h2 = rup (rup h1 147 (fup (fup (h 147) 0 0) 28 (U - 1))) 154 (sgm (26 * (U - 1)) (h 163) (h 154) 26) := ⟨_, rfl⟩
    rw [← h2e]
    have f2 : ∀ a, a ≠ 44 → ¬ (14 ≤ a ∧ a ≤ 18) → a ≠ 147 → a ≠ 154 → h2 a = h a := fun a a1 a2 a3 a4 => by rw [h2e, rup_n a4, rup_n a3]; exact f1 a a1 a2
    have fj : ∀ j : Int, j ≠ 0 → j ≠ 28 → h2 147 j = h 147 j := fun j j1 j2 => by rw [h2e, rup_n (by omega), rup_s, fup_n j2, fup_n j1]
    have g154 : h2 154 = sgm (26 * (U - 1)) (h 163) (h 154) 26 := by rw [h2e, rup_s]
    have eS : fE (h2 154) (fun z => h 163 (26 * ((U - 1 : Nat) : Int) + z)) := by
      rw [g154, show (26 * ((U : Int) - 1)) = 26 * ((U - 1 : Nat) : Int) by omega]
      exact sgm_E
    refine SR_a hs (len2 := l) ⟨fun a q1 q2 => f2 a (by omega) (by omega) (by omega) (by omega), fun j q1 q2 => fj j (by omega) (by omega), fun q => by rw [fj 30 (by omega) (by omega)]; exact q, fun j q => by rw [f2 155 (by omega) (by omega) (by omega) (by omega)]⟩ (SA_fr hs.2.1 (by rw [f2 1 (by omega) (by omega) (by omega) (by omega)]) (fj 15 (by omega) (by omega)) (f2 2 (by omega) (by omega) (by omega) (by omega)) (f2 156 (by omega) (by omega) (by omega) (by omega))) (SD_same hs.2.2.1 (by rw [f2 145 (by omega) (by omega) (by omega) (by omega)]) (fj 1 (by omega) (by omega)) (f2 146 (by omega) (by omega) (by omega) (by omega)) (f2 148 (by omega) (by omega) (by omega) (by omega))) ?_ ?_ ?_ ?_
    · have k1 := Cpl_cp (t := 14) x6 x12 (Cpl_fr (h' := rup h 44 (fup (fup (h 44) 4 (((x + 14) % 15 : Nat) : Int)) 3 (U - 1))) c1 (fun a a1 a2 => by rw [rup_n (by omega)]))
      rw [← h1e] at k1
      exact Cpl_fr (Cpl_E x6 x12 k1 eS rfl rfl (fun _ _ => rfl)) (fun a a1 a2 => by rw [h2e, rup_n (by omega), rup_n (by omega)])
    · rw [eS 1 (by omega) (by omega)]
      show h 163 (26 * ((U - 1 : Nat) : Int) + 1) ≤ _
      omega
    · rw [g154, f2 155 (by omega) (by omega) (by omega) (by omega)]
      exact fun j q => (hs.2.2.2.1.2.2.1 j q).trans (sgm_oor j q).symm
    · have e44 : h2 44 = fup (fup (h 44) 4 (((x + 14) % 15 : Nat) : Int)) 3 (U - 1) := by rw [h2e, rup_n (by omega), rup_n (by omega), h1e, trC_n (by omega), rup_s]
      refine ⟨U - 1, (x + 14) % 15, ?_, ?_, by omega, ?_, by omega, fun j hj => ?_⟩
      · rw [e44, fup_s]; omega
      · rw [h2e, rup_n (by omega), rup_s, fup_s]; omega
      · rw [e44, fup_n (by omega), fup_s]
      · obtain ⟨l', d1, d2⟩ := u9 j (by omega)
        rw [f2 163 (by omega) (by omega) (by omega) (by omega), show ((x + 14) % 15 + 15 - (U - 1) + j) % 15 = (x + 15 - U + j) % 15 by omega]
        exact ⟨l', Cpl_fr d1 (fun a a1 a2 => f2 a (by omega) (by omega) (by omega) (by omega)), by omega⟩
end RV
