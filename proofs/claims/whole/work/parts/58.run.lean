section RU
variable {k : Nat} {h h3 : Nat → Int → Int} {sem : Sem} {H np nc len : Nat}
def ruL (X : Cx) (f : Int → Int) : Int := if xCrs X f 0 ≠ 2 ∧ 0 ≤ xE X (2 * f 0 + xCrs X f 0) then (bset (lefP f (xAl X f (xLn X f) (xCrs X f 0))) (xC X) : Int) else 0
def ruC (X : Cx) (f : Int → Int) (h3 : Nat → Int → Int) : Prop := h3 145 1 = 3 ∧ h3 146 0 = ruL X f ∧ h3 146 1 = (newOut (xP X) (xStep X 0 f) f : Nat) ∧ h3 146 2 = xStep X 0 f 1 - f 1
def ruM (X : Cx) (f : Int → Int) (h4 : Nat → Int → Int) : Prop := h4 147 1 = 3 ∧ h4 148 0 = ruL X f ∧ h4 148 1 = (newOut (xP X) (xStep X 0 f) f : Nat) ∧ h4 148 2 = xStep X 0 f 1 - f 1
theorem ruL_b {X : Cx} {f : Int → Int} (h6 : xC X ≤ 6) : 0 ≤ ruL X f ∧ ruL X f < 64 := by
  unfold ruL
  have := or_64 (P := lefP f (xAl X f (xLn X f) (xCrs X f 0))) (L := 0) (n := xC X) (by omega) h6
  rw [Nat.zero_or] at this
  split <;> omega
theorem newOut_b {f f' : Int → Int} (h12 : np ≤ 12) : newOut np f' f < 4096 := bset_4096 h12
theorem newOut_eq {X : Cx} {f f' : Int → Int} (hf : okF X H f) (hf' : okF X H f') : bset (fun p => decide (mS f p ≠ -1 ∧ mS f' p = -1)) (xP X) = newOut (xP X) f' f := bset_congr (fun p hp => by
  obtain ⟨o, l, hf⟩ := hf
  obtain ⟨o', l', hf'⟩ := hf'
  have h1 := hf.2.2.2.2.2 p hp
  have h2 := hf'.2.2.2.2.2 p hp
  by_cases q1 : mS f p = -1 <;> by_cases q2 : mS f' p = -1
  · simp [q1, q2]
  · simp [q1]
  · have : ¬ mS f p < 0 := by omega
    simp [q1, q2, this]
  · have : ¬ mS f' p < 0 := by omega
    simp [q2, this])
theorem C_run (hs : SRx k h sem H np nc len) (hk : k ≤ 1000) {U x : Nat} (hU : h 44 3 = U) (hx : h 44 4 = x) (hx15 : x < 15) (hU15 : U ≤ 15) : RR mX11_run 6 0 0 0 (pm_ent [pR 0] 2) [] (shp0, rf0, h) (cAct (cxM sem h np nc) H h x U len (aRu (cxM sem h np nc) (h 154)) (ruC (cxM sem h np nc) (h 154))) := by
  have t14 := isTr_14
  have t19 := isTr_19
  have hc := hs.2.2.2.1.1
  have hX := hs.1.2.2.2.2.1
  have hCO := hs.1.2.2.2.2.2.2.1
  have hnw := hs.2.2.2.1.2.1
  have x6 := sR6 hs
  have x12 := sR12 hs
  have hc1 : Cpl (cxM sem h np nc) H (trC h 19 14) 14 (h 154) len := Cpl_fr hc (fun a a1 a2 => trC_n (by omega))
  have hb1 : Cpl (cxM sem h np nc) H (trC h 19 14) 19 (h 154) len := Cpl_cp x6 x12 hc
  have hCO1 : CO (cxM sem h np nc) H (trC h 19 14) 3 14 29 := CO_f hCO (fun a q => trC_n (by omega))
  show RR _ _ _ _ _ [pR 0, pU] _ _ _
  have hpo := C_makeRun hX hCO1 hc1 (by omega)
  have hwb : 0 ≤ (aRu (cxM sem h np nc) (h 154)).1 ∧ (aRu (cxM sem h np nc) (h 154)).1 ≤ 2 := by
    have := xCrs_b (X := cxM sem h np nc) (f := h 154) (bh := 0)
    unfold aRu
    show 0 ≤ (if _ then xCrs (cxM sem h np nc) (h 154) 0 else 2) ∧ (if _ then xCrs (cxM sem h np nc) (h 154) 0 else 2) ≤ 2
    split <;> omega
  have hok := okF_c hc
  have e2' : (aRu (cxM sem h np nc) (h 154)).2 = xStep (cxM sem h np nc) 0 (h 154) := rfl
  have hst := xStep_1 (bh := 0) hX hc.1
  have hLb := ruL_b (X := cxM sem h np nc) (f := h 154) x6
  have hOb := newOut_b (np := np) (f := h 154) (f' := xStep (cxM sem h np nc) 0 (h 154)) x12
  generalize hw : aRu (cxM sem h np nc) (h 154) = w at hpo hwb e2' ⊢
  have K : ∀ (h2 : Nat → Int → Int) (len2 : Nat), aFr (trC h 19 14) h2 → Cpl (cxM sem h np nc) H h2 14 w.2 len2 → h2 35 1 = ruL (cxM sem h np nc) (h 154) → h2 35 2 = (newOut np (xStep (cxM sem h np nc) 0 (h 154)) (h 154) : Nat) → h2 35 3 = xStep (cxM sem h np nc) 0 (h 154) 1 - h 154 1 → RR mX11_run 6 0 0 15 [pR 0, pU] [pI w.1] (shp0, rf0, h2) (cAct (cxM sem h np nc) H h x U len w (ruC (cxM sem h np nc) (h 154))) := by
    intro h2 len2 hf2 hc2 o1 o2 o3
    have f2 : ∀ a, ¬ ((14 ≤ a ∧ a ≤ 18) ∨ (19 ≤ a ∧ a ≤ 23) ∨ a = 31 ∨ a = 35 ∨ (37 ≤ a ∧ a ≤ 43)) → h2 a = h a := fun a q => (hf2 a (by omega)).trans (trC_n (by omega))
    have hb2 : Cpl (cxM sem h np nc) H h2 19 (h 154) len := Cpl_fr hb1 (fun a a1 a2 => hf2 a (by omega))
    have e44 : h2 44 = h 44 := f2 44 (by omega)
    obtain ⟨h4, h4e⟩ : ∃ h4, h4 = rup (trC h2 (48 + 5 * x) 19) 44 (fup (fup (h2 44) 4 (((x + 1) % 15 : Nat) : Int)) 3 (min 15 (U + 1))) := ⟨_, rfl⟩
    have f4 : ∀ a, a ≠ 44 → ¬ (48 + 5 * x ≤ a ∧ a ≤ 48 + 5 * x + 4) → h4 a = h2 a := fun a a1 a2 => by rw [h4e, rup_n a1, trC_n (by omega)]
    have e35 : h4 35 = h2 35 := f4 35 (by omega) (by omega)
    obtain ⟨h5, h5e⟩ : ∃ h5, h5 = rup (rup h4 145 (fup (fup (fup (fup (h4 145) 1 0) 1 ((0 : Nat) + 1)) 1 ((1 : Nat) + 1)) 1 ((2 : Nat) + 1))) 146 (fup (fup (fup (h4 146) (0 : Nat) (h2 35 1)) (1 : Nat) (h2 35 2)) (2 : Nat) (h2 35 3)) := ⟨_, rfl⟩
    have f5 : ∀ a, a ≠ 145 → a ≠ 146 → h5 a = h4 a := fun a a1 a2 => by rw [h5e, rup_n a2, rup_n a1]
    have hq : cAct (cxM sem h np nc) H h x U len w (ruC (cxM sem h np nc) (h 154)) (some (pI w.1)) (shp0, rf0, h5) := by
      refine ⟨h5, len2, rfl, rfl, Cpl_fr hc2 (fun a a1 a2 => ?_), ⟨?_, ?_, ?_, ?_⟩, fun a q1 q2 => ?_, fun _ => ⟨?_, ?_, ?_⟩⟩
      · rw [f5 a (by omega) (by omega), f4 a (by omega) (by omega)]
      · rw [h5e, rup_n (by omega), rup_s, fup_s]; rfl
      · rw [h5e, rup_s, fup_n (by omega), fup_n (by omega), ← o1]; exact fup_s
      · rw [h5e, rup_s, fup_n (by omega)]
        show fup _ (1 : Nat) _ 1 = _
        rw [show ((1 : Nat) : Int) = 1 from rfl, fup_s]
        exact o2
      · rw [h5e, rup_s]
        show fup _ (2 : Nat) _ 2 = _
        rw [show ((2 : Nat) : Int) = 2 from rfl, fup_s]
        exact o3
      · rw [f5 a (by omega) (by omega), f4 a (by omega) (by omega)]; exact f2 a (by omega)
      · exact Cpl_fr (Cpl_cp (t := 48 + 5 * x) x6 x12 hb2) (fun a a1 a2 => by rw [f5 a (by omega) (by omega), h4e, rup_n (by omega)])
      · rw [f5 44 (by omega) (by omega), h4e, rup_s, fup_s]; omega
      · rw [f5 44 (by omega) (by omega), h4e, rup_s, fup_n (by omega), fup_s]
    have r1 : r32 (h2 35 1) := by rw [o1]; omega
    have r2 : r32 (h2 35 2) := by rw [o2]; omega
    have r3 : r32 (h2 35 3) := by rw [o3]; omega
    refine R_istore_n dX11_run_15 (Nat.le_of_ble_eq_true rfl) (?_ : RR _ _ _ _ 16 [_, _] _ _ _)
    refine R_aload_n dX11_run_16 rfl (?_ : RR _ _ _ _ 17 _ _ _ _)
    refine R_getr dX11_run_17 flX11_66 cok_11 rfl (by decide) (?_ : RR _ _ _ _ 20 _ _ _ _)
    refine R_aload_n dX11_run_20 rfl (?_ : RR _ _ _ _ 21 _ _ _ _)
    refine R_getr dX11_run_21 flX11_40 cok_11 rfl (by decide) (?_ : RR _ _ _ _ 24 _ _ _ _)
    refine R_cVv1 dX11_run_24 mvX1_add mlX11_237 (by decide) (by decide) (Nat.le_of_ble_eq_true rfl) (Nat.le_of_ble_eq_true rfl) (T_X1_add (x := x) (U := U) (by rw [e44]; exact hx) (by rw [e44]; exact hU) hx15 hU15) (?_ : RR _ _ _ _ 27 _ _ _ _)
    rw [← h4e]
    refine R_aload_n dX11_run_27 rfl (?_ : RR _ _ _ _ 28 _ _ _ _)
    refine R_getr dX11_run_28 flX11_87 cok_11 rfl (by decide) (?_ : RR _ _ _ _ 31 _ _ _ _)
    refine R_cVv0 dX11_run_31 mvX3_clear mlX11_239 (by decide) (by decide) (Nat.le_of_ble_eq_true rfl) (Nat.le_of_ble_eq_true rfl) (T_X3_clear) (?_ : RR _ _ _ _ 34 _ _ _ _)
    refine R_aload_n dX11_run_34 rfl (?_ : RR _ _ _ _ 35 _ _ _ _)
    refine R_getr dX11_run_35 flX11_87 cok_11 rfl (by decide) (?_ : RR _ _ _ _ 38 _ _ _ _)
    refine R_aload_n dX11_run_38 rfl (?_ : RR _ _ _ _ 39 _ _ _ _)
    refine R_getr dX11_run_39 flX11_59 cok_11 rfl (by decide) (?_ : RR _ _ _ _ 42 _ _ _ _)
    refine R_geti (z := 1) dX11_run_42 flX11_240 cok_5 rfl (by decide) rfl (fun q42 => (?_ : RR _ _ _ _ 45 _ _ _ _))
    simp (disch := omega) only [rup_n, e35] at q42 ⊢
    refine R_i2l dX11_run_45 (by first | assumption | omega) (?_ : RR _ _ _ _ 46 _ _ _ _)
    refine R_cVv1 dX11_run_46 mvX3_add mlX11_243 (by decide) (by decide) (Nat.le_of_ble_eq_true rfl) (Nat.le_of_ble_eq_true rfl) (T_X3_add (n := 0) (by rw [rup_s, fup_s]; rfl) (by omega)) (?_ : RR _ _ _ _ 49 _ _ _ _)
    simp (disch := omega) only [rup_rup, rup_s, rup_n]
    refine R_aload_n dX11_run_49 rfl (?_ : RR _ _ _ _ 50 _ _ _ _)
    refine R_getr dX11_run_50 flX11_87 cok_11 rfl (by decide) (?_ : RR _ _ _ _ 53 _ _ _ _)
    refine R_aload_n dX11_run_53 rfl (?_ : RR _ _ _ _ 54 _ _ _ _)
    refine R_getr dX11_run_54 flX11_59 cok_11 rfl (by decide) (?_ : RR _ _ _ _ 57 _ _ _ _)
    refine R_geti (z := 2) dX11_run_57 flX11_246 cok_5 rfl (by decide) rfl (fun q57 => (?_ : RR _ _ _ _ 60 _ _ _ _))
    simp (disch := omega) only [rup_n, e35] at q57 ⊢
    refine R_i2l dX11_run_60 (by first | assumption | omega) (?_ : RR _ _ _ _ 61 _ _ _ _)
    refine R_cVv1 dX11_run_61 mvX3_add mlX11_243 (by decide) (by decide) (Nat.le_of_ble_eq_true rfl) (Nat.le_of_ble_eq_true rfl) (T_X3_add (n := 1) (by rw [rup_n (by omega), rup_s, fup_s]; rfl) (by omega)) (?_ : RR _ _ _ _ 64 _ _ _ _)
    simp (disch := omega) only [rup_rup, rup_sort, rupS_def, rup_s, rup_n]
    refine R_aload_n dX11_run_64 rfl (?_ : RR _ _ _ _ 65 _ _ _ _)
    refine R_getr dX11_run_65 flX11_87 cok_11 rfl (by decide) (?_ : RR _ _ _ _ 68 _ _ _ _)
    refine R_aload_n dX11_run_68 rfl (?_ : RR _ _ _ _ 69 _ _ _ _)
    refine R_getr dX11_run_69 flX11_59 cok_11 rfl (by decide) (?_ : RR _ _ _ _ 72 _ _ _ _)
    refine R_geti (z := 3) dX11_run_72 flX11_249 cok_5 rfl (by decide) rfl (fun q72 => (?_ : RR _ _ _ _ 75 _ _ _ _))
    simp (disch := omega) only [rup_n, e35] at q72 ⊢
    refine R_i2l dX11_run_75 (by first | assumption | omega) (?_ : RR _ _ _ _ 76 _ _ _ _)
    refine R_cVv1 dX11_run_76 mvX3_add mlX11_243 (by decide) (by decide) (Nat.le_of_ble_eq_true rfl) (Nat.le_of_ble_eq_true rfl) (T_X3_add (n := 2) (by rw [rup_n (by omega), rup_s, fup_s]; rfl) (by omega)) (?_ : RR _ _ _ _ 79 _ _ _ _)
    simp (disch := omega) only [rup_rup, rup_sort, rupS_def, rup_s, rup_n]
    rw [← h5e]
    refine R_iload_n dX11_run_79 rfl (?_ : RR _ _ _ _ 80 _ _ _ _)
    exact R_ireturn dX11_run_80 trivial hq
  refine R_aload_n dX11_run_0 rfl (?_ : RR _ _ _ _ 1 _ _ _ _)
  refine R_getr dX11_run_1 flX11_40 cok_11 rfl (by decide) (?_ : RR _ _ _ _ 4 _ _ _ _)
  refine R_aload_n dX11_run_4 rfl (?_ : RR _ _ _ _ 5 _ _ _ _)
  refine R_getr dX11_run_5 flX11_36 cok_11 rfl (by decide) (?_ : RR _ _ _ _ 8 _ _ _ _)
  refine R_cVv1 dX11_run_8 mvX9_copyFrom mlX11_231 (by decide) (by decide) (Nat.le_of_ble_eq_true rfl) (Nat.le_of_ble_eq_true rfl) (T_X9_copyFrom) (?_ : RR _ _ _ _ 11 _ _ _ _)
  refine R_aload_n dX11_run_11 rfl (?_ : RR _ _ _ _ 12 _ _ _ _)
  refine R_qV0 dX11_run_12 mvX11_makeRun mlX11_234 (by decide) (by decide) (Nat.le_of_ble_eq_true rfl) (Nat.le_of_ble_eq_true rfl) (hpo) (fun r9 g9 hq9 => (?_ : RR _ _ _ _ 15 _ _ _ _))
  obtain ⟨⟨h2, len2, rfl, hf2, rfl, hc2⟩, hb, hbe, hT⟩ := hq9
  obtain rfl : h2 = hb := by injection hbe with z1 z2; injection z2
  show RR _ _ _ _ _ _ [pI w.1] _ _
  exact K h2 len2 hf2 hc2 hT.2.2.2.2 (by rw [hT.2.2.2.1, newOut_eq hok (ok_run hX hok)]; rfl) hT.2.2.1
end RU
