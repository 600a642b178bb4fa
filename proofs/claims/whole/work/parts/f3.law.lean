section LAW
variable {k : Nat} {h h1 h2 h3 h4 g : Nat → Int → Int} {sem sem2 : Sem} {H np nc len N d p b l m n : Nat} {σ : Int → Int} {v : (Int → Int) → Int} {u : Bool}
def lawV (X : Cx) (f : Int → Int) : Int := (oMn X (xIt X 0 10 f) : Int) - oMn X f
theorem lawV_b {X : Cx} {f : Int → Int} (h12 : xP X ≤ 12) : -12 ≤ lawV X f ∧ lawV X f ≤ 12 := by
  have b1 := oMn_b (X := X) (f := f) h12
  have b2 := oMn_b (X := X) (f := xIt X 0 10 f) h12
  unfold lawV
  omega
/-- what the class's law() leaves -/
def cLw (σ : Int → Int) (n : Nat) (h : Nat → Int → Int) (z2 z1 : Int) (r' : Option PV) (g' : PH) : Prop := ∃ h3, g' = (shp0, rf0, h3) ∧ h3 1 1 = 0 ∧ (h3 32 4 = 0 ∨ h3 32 4 = 1) ∧ ((¬ rqG σ n ∧ r' = some (pI (-1 - ((rqX σ).1 : Int) + 1 - 10000)) ∧ ∀ a, a ≠ 1 → a ≠ 32 → a ≠ 33 → h3 a = h a) ∨ (rqG σ n ∧ r' = some (pI (z2 - z1)) ∧ (∀ a, ¬ (a = 1 ∨ (24 ≤ a ∧ a ≤ 28) ∨ (31 ≤ a ∧ a ≤ 35) ∨ (37 ≤ a ∧ a ≤ 43) ∨ a = 145 ∨ a = 146) → h3 a = h a) ∧ h3 145 1 = 2 ∧ h3 146 0 = z2 ∧ h3 146 1 = z1))
theorem C_law (hs : SRx k h sem H np nc len) (hk : k ≤ 1000) (h1n : h 1 1 = n) (hn80 : n ≤ 80) (hb40 : b = min n 40) (hσ : ∀ p : Int, 0 ≤ p → signAt (rup h 1 (fup (h 1) 2 (min (n : Int) 40))) p = σ p) (hσn : ∀ p : Nat, b ≤ p → σ p = -1) (hσb : ∀ p : Int, -1 ≤ σ p ∧ σ p ≤ 255) : RR mX11_law 761 0 0 0 (pm_ent [pR 0] 4) [] (shp0, rf0, h) (cLw σ n h (lawV (cxM (smV (rqV σ n)) h np nc) (h 154)) (lawV (cxM sem h np nc) (h 154))) := by
  show RR _ _ _ _ _ [pR 0, pU, pU, pU] _ _ _
  have r29 := isRule_29
  have r32 := isRule_32
  have t14 := isTr_14
  have t24 := isTr_24
  have x6 := sR6 hs
  have x12 := sR12 hs
  have hX := hs.1.2.2.2.2.1
  have hn := hs.2.2.2.1.2.1
  have hc := hs.2.2.2.1.1
  have hCO := hs.1.2.2.2.2.2.2.1
  have hnoN := hs.1.2.2.2.2.2.2.2.2.2.1
  have hT := C_rread h1n hn80 hb40 hσ hσn hσb
  have hx := rqX_b hσn (show b ≤ 40 by omega)
  obtain ⟨V2, hV2⟩ : ∃ V2, V2 = lawV (cxM (smV (rqV σ n)) h np nc) (h 154) := ⟨_, rfl⟩
  obtain ⟨V1, hV1⟩ : ∃ V1, V1 = lawV (cxM sem h np nc) (h 154) := ⟨_, rfl⟩
  have vb2 : -12 ≤ V2 ∧ V2 ≤ 12 := by rw [hV2]; exact lawV_b x12
  have vb1 : -12 ≤ V1 ∧ V1 ≤ 12 := by rw [hV1]; exact lawV_b x12
  rw [← hV2, ← hV1]
  have K11 : ∀ r' g', rqP σ n h r' g' → ∃ z : Int, r' = some (pI z) ∧ RR mX11_law 761 0 0 11 [pR 0, pU, pU, pU] [pI z] g' (cLw σ n h V2 V1) := by
    intro r' g' hcc
    obtain ⟨h2, rfl, f2, hz⟩ := hcc
    obtain ⟨h4, h4e⟩ : ∃ h4, h4 = rup h2 1 (fup (h2 1) 1 0) := ⟨_, rfl⟩
    have f4 : ∀ a, a ≠ 1 → h4 a = h2 a := fun a a1 => by rw [h4e, rup_n a1]
    have e4 : h4 1 1 = 0 := by rw [h4e, rup_s, fup_s]
    rcases hz with ⟨w1, rfl, w2⟩ | ⟨w1, rfl, k', k40, w2, w3, w4⟩
    · refine ⟨_, rfl, ?_⟩
      have hq : cLw σ n h V2 V1 (some (pI (-1 - ((rqX σ).1 : Int) + 1 - 10000))) (shp0, rf0, h4) := ⟨h4, rfl, e4, by rw [f4 32 (by omega)]; exact w2, Or.inl ⟨w1, rfl, fun a a1 a2 a3 => by rw [f4 a a1]; exact f2.1 a a1 a2 a3⟩⟩
      generalize cLw σ n h V2 V1 = QQ at *
      generalize rqX σ = x at *
      clear hT
      refine R_istore_n dX11_law_11 (Nat.le_of_ble_eq_true rfl) (?_ : RR _ _ _ _ 12 [_, _, _, _] _ _ _)
      refine R_aload_n dX11_law_12 rfl (?_ : RR _ _ _ _ 13 _ _ _ _)
      refine R_getr dX11_law_13 flX11_10 cok_11 rfl (by decide) (?_ : RR _ _ _ _ 16 _ _ _ _)
      refine R_iconst dX11_law_16 (?_ : RR _ _ _ _ 17 _ _ _ _)
      refine R_puti (zk := 1) dX11_law_17 flX11_91 cok_7 (by decide) (fun q hq => by cases hq; rfl) rfl (?_ : RR _ _ _ _ 20 _ _ _ _)
      rw [← h4e]
      refine R_iload_n dX11_law_20 rfl (?_ : RR _ _ _ _ 21 _ _ _ _)
      refine R_if_ge (t := 32) dX11_law_21 rfl (fun c21 => ?_) (fun c21 => ?_)
      · exfalso; omega
      refine R_iload_n dX11_law_24 rfl (?_ : RR _ _ _ _ 25 _ _ _ _)
      refine R_iconst dX11_law_25 (?_ : RR _ _ _ _ 26 _ _ _ _)
      refine R_iadd dX11_law_26 (?_ : RR _ _ _ _ 27 _ _ _ _)
      refine R_sipush dX11_law_27 rfl (?_ : RR _ _ _ _ 30 _ _ _ _)
      refine R_isub dX11_law_30 (?_ : RR _ _ _ _ 31 _ _ _ _)
      exact R_ireturn dX11_law_31 trivial hq
    · refine ⟨0, rfl, ?_⟩
      have fr4 : ∀ a, a ≠ 1 → a ≠ 32 → a ≠ 33 → h4 a = h a := fun a a1 a2 a3 => by rw [f4 a a1]; exact f2.1 a a1 a2 a3
      have u4 : h4 32 4 = (if rqU σ n then 1 else 0) := by rw [f4 32 (by omega)]; exact w3
      have o4 : ruOK h4 32 (smV (rqV σ n)) := SgC_ok (r := 32) (u := rqU σ n) k40 (by rw [f4 32 (by omega)]; exact w2) (by rw [f4 (32 + 1) (by omega)]; exact w4) gd_r
      have c14 : Cpl (cxM sem h np nc) H h4 14 (h 154) len := Cpl_fr hc (fun a a1 a2 => fr4 a (by omega) (by omega) (by omega))
      have c14' : Cpl (cxM (smV (rqV σ n)) h np nc) H h4 14 (h 154) len := c14
      /- by it -/
      obtain ⟨h5, h5e⟩ : ∃ h5, h5 = trC h4 24 14 := ⟨_, rfl⟩
      have f5 : ∀ a, ¬ (24 ≤ a ∧ a ≤ 28) → h5 a = h4 a := fun a q => by rw [h5e, trC_n (by omega)]
      have k1 : Cpl (cxM (smV (rqV σ n)) h np nc) H h5 24 (h 154) len := by rw [h5e]; exact Cpl_cp x6 x12 c14'
      have k2 : Cpl (cxM (smV (rqV σ n)) h np nc) H h5 14 (h 154) len := Cpl_fr c14' (fun a a1 a2 => f5 a (by omega))
      have k3 : CO (cxM (smV (rqV σ n)) h np nc) H h5 3 24 32 := by
        obtain ⟨d1, d2, d3, d4, d5, d6, ⟨y1, y2, y3⟩, d8, d9, d10, d11⟩ := hCO
        have g5 : ∀ a, a ≠ 1 → a ≠ 32 → a ≠ 33 → ¬ (24 ≤ a ∧ a ≤ 28) → h5 a = h a := fun a a1 a2 a3 a4 => by rw [f5 a a4]; exact fr4 a a1 a2 a3
        refine ⟨?_, ?_, ?_, ?_, ?_, ?_, ⟨isTr_24, y2, isRule_32⟩, by omega, d9, by omega, by omega⟩
        · have d1 : NetC (cxM (smV (rqV σ n)) h np nc) H h 3 := d1
          unfold NetC at d1 ⊢
          rw [g5 (3 + 1) (by omega) (by omega) (by omega) (by omega), g5 (3 + 2) (by omega) (by omega) (by omega) (by omega), g5 (3 + 3) (by omega) (by omega) (by omega) (by omega)]
          exact d1
        · have d2 : RidC (cxM (smV (rqV σ n)) h np nc) h := d2
          unfold RidC at d2 ⊢
          rw [g5 11 (by omega) (by omega) (by omega) (by omega), g5 12 (by omega) (by omega) (by omega) (by omega), g5 13 (by omega) (by omega) (by omega) (by omega)]
          exact d2
        · unfold ruOK at o4 ⊢
          rw [f5 32 (by omega), f5 (32 + 1) (by omega)]
          exact o4
        · rw [g5 (3 + 1) (by omega) (by omega) (by omega) (by omega)]; exact d4
        · rw [g5 (3 + 2) (by omega) (by omega) (by omega) (by omega)]; exact d5
        · rw [g5 (3 + 3) (by omega) (by omega) (by omega) (by omega)]; exact d6
      have hp2 := C_outMoreIn (m := 10) (bh := 0) (r := 32) (n := 3) (X := cxM (smV (rqV σ n)) h np nc) hX k3 k1 k2 (by omega) (by omega) (by omega) (fun w => by
        rw [f5 32 (by omega), u4] at w
        refine smV_n (u := rqU σ n) gd_r ?_
        by_cases y : rqU σ n = true
        · rw [if_pos y] at w; omega
        · exact Bool.eq_false_iff.mpr y)
      rw [show (oMn (cxM (smV (rqV σ n)) h np nc) (xIt (cxM (smV (rqV σ n)) h np nc) 0 10 (h 154)) : Int) - oMn (cxM (smV (rqV σ n)) h np nc) (h 154) = V2 from hV2.symm] at hp2
      have bit4 : h4 32 4 = 0 ∨ h4 32 4 = 1 := by rw [u4]; split; (· exact Or.inr rfl); (· exact Or.inl rfl)
      have K58 : ∀ h6 : Nat → Int → Int, onF 24 32 h5 h6 → RR mX11_law 761 0 0 58 [pR 0, pI 0, pU, pU] [pI V2] (shp0, rf0, h6) (cLw σ n h V2 V1) := by
        intro h6 f6
        have fr6 : ∀ a, ¬ (a = 1 ∨ (24 ≤ a ∧ a ≤ 28) ∨ (31 ≤ a ∧ a ≤ 35) ∨ (37 ≤ a ∧ a ≤ 43)) → h6 a = h a := fun a q => by rw [f6 a (by omega) (by omega) (by omega) (by omega) (by omega) (by omega) (by omega), f5 a (by omega)]; exact fr4 a (by omega) (by omega) (by omega)
        have d14 : Cpl (cxM sem h np nc) H h6 14 (h 154) len := Cpl_fr hc (fun a a1 a2 => fr6 a (by omega))
        obtain ⟨h7, h7e⟩ : ∃ h7, h7 = trC h6 24 14 := ⟨_, rfl⟩
        have f7 : ∀ a, ¬ (24 ≤ a ∧ a ≤ 28) → h7 a = h6 a := fun a q => by rw [h7e, trC_n (by omega)]
        have k4 : Cpl (cxM sem h np nc) H h7 24 (h 154) len := by rw [h7e]; exact Cpl_cp x6 x12 d14
        have k5 : Cpl (cxM sem h np nc) H h7 14 (h 154) len := Cpl_fr d14 (fun a a1 a2 => f7 a (by omega))
        have k6 : CO (cxM sem h np nc) H h7 3 24 29 := CO_24 (CO_f hCO (fun a q => by rw [f7 a (by omega)]; exact fr6 a (by omega)))
        have hp1 := C_outMoreIn (m := 10) (bh := 0) (r := 29) (n := 3) hX k6 k4 k5 (by omega) (by omega) (by omega) (by rw [f7 29 (by omega), fr6 29 (by omega)]; exact hnoN)
        rw [show (oMn (cxM sem h np nc) (xIt (cxM sem h np nc) 0 10 (h 154)) : Int) - oMn (cxM sem h np nc) (h 154) = V1 from hV1.symm] at hp1
        have K85 : ∀ h8 : Nat → Int → Int, onF 24 29 h7 h8 → RR mX11_law 761 0 0 85 [pR 0, pI 0, pI V2, pU] [pI V1] (shp0, rf0, h8) (cLw σ n h V2 V1) := by
          intro h8 f8
          have fr8 : ∀ a, ¬ (a = 1 ∨ (24 ≤ a ∧ a ≤ 28) ∨ (31 ≤ a ∧ a ≤ 35) ∨ (37 ≤ a ∧ a ≤ 43)) → h8 a = h a := fun a q => by rw [f8 a (by omega) (by omega) (by omega) (by omega) (by omega) (by omega) (by omega), f7 a (by omega)]; exact fr6 a q
          have lo : ∀ a, a = 1 ∨ a = 32 → h8 a = h4 a := fun a q => by rw [f8 a (by omega) (by omega) (by omega) (by omega) (by omega) (by omega) (by omega), f7 a (by omega), f6 a (by omega) (by omega) (by omega) (by omega) (by omega) (by omega) (by omega), f5 a (by omega)]
          obtain ⟨h9, h9e⟩ : ∃ h9, h9 = rup (rup h8 145 (fup (fup (h8 145) 1 0) 1 ((0 : Nat) + 1))) 146 (fup (h8 146) (0 : Nat) V2) := ⟨_, rfl⟩
          have f9 : ∀ a, a ≠ 145 → a ≠ 146 → h9 a = h8 a := fun a a1 a2 => by rw [h9e, rup_n a2, rup_n a1]
          have n9 : h9 145 1 = ((1 : Nat) : Int) := by rw [h9e, rup_n (by omega), rup_s, fup_s]; rfl
          have hA2 := T_X3_add (h := h9) (n := 1) (z := V1) n9 (by omega)
          have hq : cLw σ n h V2 V1 (some (pI (V2 - V1))) (shp0, rf0, rup (rup h9 145 (fup (h9 145) 1 (((1 : Nat) : Int) + 1))) 146 (fup (h9 146) ((1 : Nat) : Int) V1)) := ⟨_, rfl, by rw [rup_n (by omega), rup_n (by omega), f9 1 (by omega) (by omega), lo 1 (by omega)]; exact e4, by rw [rup_n (by omega), rup_n (by omega), f9 32 (by omega) (by omega), lo 32 (by omega)]; exact bit4, Or.inr ⟨w1, rfl, fun a q => by rw [rup_n (by omega), rup_n (by omega), f9 a (by omega) (by omega)]; exact fr8 a (by omega), by rw [rup_n (by omega), rup_s, fup_s]; rfl, by rw [rup_s, fup_n (by omega), h9e, rup_s]; exact fup_s, by rw [rup_s]; exact fup_s⟩⟩
          generalize cLw σ n h V2 V1 = QQ at *
          have K102 : RR mX11_law 761 0 0 102 [pR 0, pI 0, pI V2, pI V1] [] (shp0, rf0, h9) QQ := by
            clear h9e hV1 hV2 hT hp1 hp2
            refine R_aload_n dX11_law_102 rfl (?_ : RR _ _ _ _ 103 _ _ _ _)
            refine R_getr dX11_law_103 flX11_87 cok_11 rfl (by decide) (?_ : RR _ _ _ _ 106 _ _ _ _)
            refine R_iload_n dX11_law_106 rfl (?_ : RR _ _ _ _ 107 _ _ _ _)
            refine R_i2l dX11_law_107 (by first | assumption | omega) (?_ : RR _ _ _ _ 108 _ _ _ _)
            refine R_cVv1 dX11_law_108 mvX3_add mlX11_243 (by decide) (by omega) (Nat.le_of_ble_eq_true rfl) (Nat.le_of_ble_eq_true rfl) (hA2) (?_ : RR _ _ _ _ 111 _ _ _ _)
            refine R_iload_n dX11_law_111 rfl (?_ : RR _ _ _ _ 112 _ _ _ _)
            refine R_iload_n dX11_law_112 rfl (?_ : RR _ _ _ _ 113 _ _ _ _)
            refine R_isub dX11_law_113 (?_ : RR _ _ _ _ 114 _ _ _ _)
            exact R_ireturn dX11_law_114 trivial hq
          clear hV1 hV2 hT hp1 hp2
          refine R_istore_n dX11_law_85 (Nat.le_of_ble_eq_true rfl) (?_ : RR _ _ _ _ 86 [_, _, _, _] _ _ _)
          refine R_aload_n dX11_law_86 rfl (?_ : RR _ _ _ _ 87 _ _ _ _)
          refine R_getr dX11_law_87 flX11_87 cok_11 rfl (by decide) (?_ : RR _ _ _ _ 90 _ _ _ _)
          refine R_cVv0 dX11_law_90 mvX3_clear mlX11_239 (by decide) (by omega) (Nat.le_of_ble_eq_true rfl) (Nat.le_of_ble_eq_true rfl) (T_X3_clear) (?_ : RR _ _ _ _ 93 _ _ _ _)
          refine R_aload_n dX11_law_93 rfl (?_ : RR _ _ _ _ 94 _ _ _ _)
          refine R_getr dX11_law_94 flX11_87 cok_11 rfl (by decide) (?_ : RR _ _ _ _ 97 _ _ _ _)
          refine R_iload_n dX11_law_97 rfl (?_ : RR _ _ _ _ 98 _ _ _ _)
          refine R_i2l dX11_law_98 (by first | assumption | omega) (?_ : RR _ _ _ _ 99 _ _ _ _)
          refine R_cVv1 dX11_law_99 mvX3_add mlX11_243 (by decide) (by omega) (Nat.le_of_ble_eq_true rfl) (Nat.le_of_ble_eq_true rfl) (T_X3_add (n := 0) (by rw [rup_s, fup_s]; rfl) (by omega)) (?_ : RR _ _ _ _ 102 _ _ _ _)
          simp (disch := omega) only [rup_rup, rup_s, rup_n]
          rw [← h9e]
          exact K102
        generalize cLw σ n h V2 V1 = QQ at *
        rw [h7e] at hp1 K85
        clear hV1 hV2 hT hp2
        refine R_istore_n dX11_law_58 (Nat.le_of_ble_eq_true rfl) (?_ : RR _ _ _ _ 59 [_, _, _, _] _ _ _)
        refine R_aload_n dX11_law_59 rfl (?_ : RR _ _ _ _ 60 _ _ _ _)
        refine R_getr dX11_law_60 flX11_43 cok_11 rfl (by decide) (?_ : RR _ _ _ _ 63 _ _ _ _)
        refine R_aload_n dX11_law_63 rfl (?_ : RR _ _ _ _ 64 _ _ _ _)
        refine R_getr dX11_law_64 flX11_36 cok_11 rfl (by decide) (?_ : RR _ _ _ _ 67 _ _ _ _)
        refine R_cVv1 dX11_law_67 mvX9_copyFrom mlX11_231 (by decide) (by omega) (Nat.le_of_ble_eq_true rfl) (Nat.le_of_ble_eq_true rfl) (T_X9_copyFrom) (?_ : RR _ _ _ _ 70 _ _ _ _)
        refine R_aload_n dX11_law_70 rfl (?_ : RR _ _ _ _ 71 _ _ _ _)
        refine R_bipush dX11_law_71 rfl (?_ : RR _ _ _ _ 73 _ _ _ _)
        refine R_aload_n dX11_law_73 rfl (?_ : RR _ _ _ _ 74 _ _ _ _)
        refine R_getr dX11_law_74 flX11_19 cok_11 rfl (by decide) (?_ : RR _ _ _ _ 77 _ _ _ _)
        refine R_aload_n dX11_law_77 rfl (?_ : RR _ _ _ _ 78 _ _ _ _)
        refine R_getr dX11_law_78 flX11_49 cok_11 rfl (by decide) (?_ : RR _ _ _ _ 81 _ _ _ _)
        refine R_iconst dX11_law_81 (?_ : RR _ _ _ _ 82 _ _ _ _)
        refine R_qV4 dX11_law_82 mvX11_outMoreIn mlX11_308 (by decide) (by omega) (Nat.le_of_ble_eq_true rfl) (Nat.le_of_ble_eq_true rfl) (hp1) (fun r9 g9 hq9 => (?_ : RR _ _ _ _ 85 _ _ _ _))
        obtain ⟨rfl, h8, len8, rfl, f8, c8⟩ := hq9
        show RR _ _ _ _ _ _ [pI V1] _ _
        exact K85 h8 f8
      generalize cLw σ n h V2 V1 = QQ at *
      rw [h5e] at hp2 K58
      clear hV1 hV2 hT
      refine R_istore_n dX11_law_11 (Nat.le_of_ble_eq_true rfl) (?_ : RR _ _ _ _ 12 [_, _, _, _] _ _ _)
      refine R_aload_n dX11_law_12 rfl (?_ : RR _ _ _ _ 13 _ _ _ _)
      refine R_getr dX11_law_13 flX11_10 cok_11 rfl (by decide) (?_ : RR _ _ _ _ 16 _ _ _ _)
      refine R_iconst dX11_law_16 (?_ : RR _ _ _ _ 17 _ _ _ _)
      refine R_puti (zk := 1) dX11_law_17 flX11_91 cok_7 (by decide) (fun q hq => by cases hq; rfl) rfl (?_ : RR _ _ _ _ 20 _ _ _ _)
      rw [← h4e]
      refine R_iload_n dX11_law_20 rfl (?_ : RR _ _ _ _ 21 _ _ _ _)
      refine R_if_ge (t := 32) dX11_law_21 rfl (fun c21 => ?_) (fun c21 => ?_)
      rotate_left
      · exfalso; omega
      refine R_aload_n dX11_law_32 rfl (?_ : RR _ _ _ _ 33 _ _ _ _)
      refine R_getr dX11_law_33 flX11_43 cok_11 rfl (by decide) (?_ : RR _ _ _ _ 36 _ _ _ _)
      refine R_aload_n dX11_law_36 rfl (?_ : RR _ _ _ _ 37 _ _ _ _)
      refine R_getr dX11_law_37 flX11_36 cok_11 rfl (by decide) (?_ : RR _ _ _ _ 40 _ _ _ _)
      refine R_cVv1 dX11_law_40 mvX9_copyFrom mlX11_231 (by decide) (by omega) (Nat.le_of_ble_eq_true rfl) (Nat.le_of_ble_eq_true rfl) (T_X9_copyFrom) (?_ : RR _ _ _ _ 43 _ _ _ _)
      refine R_aload_n dX11_law_43 rfl (?_ : RR _ _ _ _ 44 _ _ _ _)
      refine R_bipush dX11_law_44 rfl (?_ : RR _ _ _ _ 46 _ _ _ _)
      refine R_aload_n dX11_law_46 rfl (?_ : RR _ _ _ _ 47 _ _ _ _)
      refine R_getr dX11_law_47 flX11_19 cok_11 rfl (by decide) (?_ : RR _ _ _ _ 50 _ _ _ _)
      refine R_aload_n dX11_law_50 rfl (?_ : RR _ _ _ _ 51 _ _ _ _)
      refine R_getr dX11_law_51 flX11_53 cok_11 rfl (by decide) (?_ : RR _ _ _ _ 54 _ _ _ _)
      refine R_iconst dX11_law_54 (?_ : RR _ _ _ _ 55 _ _ _ _)
      refine R_qV4 dX11_law_55 mvX11_outMoreIn mlX11_308 (by decide) (by omega) (Nat.le_of_ble_eq_true rfl) (Nat.le_of_ble_eq_true rfl) (hp2) (fun r9 g9 hq9 => (?_ : RR _ _ _ _ 58 _ _ _ _))
      obtain ⟨rfl, h6, len6, rfl, f6, c6⟩ := hq9
      show RR _ _ _ _ _ _ [pI V2] _ _
      exact K58 h6 f6
  generalize cLw σ n h V2 V1 = QQ at *
  refine R_aload_n dX11_law_0 rfl (?_ : RR _ _ _ _ 1 _ _ _ _)
  refine R_getr dX11_law_1 flX11_53 cok_11 rfl (by decide) (?_ : RR _ _ _ _ 4 _ _ _ _)
  refine R_aload_n dX11_law_4 rfl (?_ : RR _ _ _ _ 5 _ _ _ _)
  refine R_getr dX11_law_5 flX11_10 cok_11 rfl (by decide) (?_ : RR _ _ _ _ 8 _ _ _ _)
  refine R_qV1 dX11_law_8 mvX4_read mlX11_149 (by decide) (by omega) (Nat.le_of_ble_eq_true rfl) (Nat.le_of_ble_eq_true rfl) (hT) (fun r9 g9 hq9 => (?_ : RR _ _ _ _ 11 _ _ _ _))
  obtain ⟨z, rfl, KK⟩ := K11 _ _ hq9
  show RR _ _ _ _ _ _ [pI z] _ _
  exact KK
end LAW
