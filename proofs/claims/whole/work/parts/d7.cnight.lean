section NI4
variable {k : Nat} {h h1 h2 h3 h4 : Nat → Int → Int} {sem : Sem} {H np nc len n b i : Nat} {σ : Int → Int} {X : Cx} {f : Int → Int}
theorem look_e {a : Int} (h1 : a ≠ 99) (h2 : a ≠ 103) (h3 : a ≠ 114) (h4 : a ≠ 115) (h6 : a ≠ 120) : Op.lookupswitch.offset (#[(99, 57), (103, 92), (114, 52), (115, 77), (120, 62)] : Array (Int × Int)).toList 117 a = 117 := by
  simp [Op.lookupswitch.offset, Ne.symm h1, Ne.symm h2, Ne.symm h3, Ne.symm h4, Ne.symm h6, h1, h2, h3, h4, h6]
theorem naA_r {p : Nat} (hX : xOK X H) (hf : okF X H f) (hnow : f 1 ≤ 2000000000) : r32 (naA X σ f p).1 := by
  obtain ⟨x1, x2, x3, x4, x5, x6, x7, x8, x9⟩ := id hX
  obtain ⟨ord, len, hf'⟩ := id hf
  have hl := (ok_len hf).2
  unfold naA
  split
  · show r32 (if _ then xCrs X f 0 else 2)
    have := xCrs_b (X := X) (f := f) (bh := 0)
    split <;> omega
  · split
    · have hb := pop_bset (P := stB f) (n := xC X) (by omega)
      have hb2 := sm_b (g := fun p : Nat => if stB f p then 1 else 0) (B := 1) (by omega) (fun p => by split <;> omega) (xC X)
      rw [← hb] at hb2
      show r32 (if bset (stB f) (xC X) = 0 then -2 else (pop 12 (bset (stB f) (xC X)) : Int))
      split <;> omega
    · split
      · unfold aCu
        split
        · show r32 (-1); omega
        · show r32 ((xLn X f : Int) - _); omega
      · split
        · unfold aSt
          split
          · show r32 (-1); omega
          · have := hf'.2.1
            show r32 (f 1 + _); omega
        · split
          · unfold aGo
            split
            · show r32 (-1); omega
            · rename_i q
              have q := Decidable.not_not.mp q
              split
              · show r32 (-2); omega
              · have := x6 (2 * f 0 + (σ (p + 1) - 48)) (by have := hf'.1; omega) (by have := hf'.1; omega)
                show r32 (xM X (2 * f 0 + (σ (p + 1) - 48)))
                omega
          · unfold aWa
            split
            · show r32 (-1); omega
            · rename_i q
              have q := Decidable.not_not.mp q
              split
              · show r32 (-2); omega
              · split
                · show r32 (-3); omega
                · have := hf'.2.2.2.2.2 (σ (p + 1) - 97).toNat (by omega)
                  rw [show (((σ (p + 1) - 97).toNat : Nat) : Int) = σ (p + 1) - 97 by omega] at this
                  show r32 (mS f (σ (p + 1) - 97))
                  omega
theorem C_doAct {p : Nat} (hX : xOK X H) (hC : CO X H h 3 14 29) (hc : Cpl X H h 14 f len) (hnow : f 1 ≤ 2000000000) (hσ : ∀ p : Int, 0 ≤ p → signAt h p = σ p) (hσb : ∀ p : Int, -1 ≤ σ p ∧ σ p ≤ 255) (hp : p ≤ 80) (hok : (naE σ p).2 = true) : RR mX11_doAct 6 0 0 0 (pm_ent [pR 0, pI p] 2) [] (shp0, rf0, h) (aPo X H h (naA X σ f p)) := by
  show RR _ _ _ _ _ [pR 0, pI p] _ _ _
  have hwr := naA_r (σ := σ) (p := p) hX (okF_c hc) hnow
  suffices hS : ∀ Q : Option PV → PH → Prop, (∀ h' len', aFr h h' → Cpl X H h' 14 (naA X σ f p).2 len' → Q (some (pI (naA X σ f p).1)) (shp0, rf0, h')) → RR mX11_doAct 6 0 0 0 [pR 0, pI p] [] (shp0, rf0, h) Q from hS _ (fun h' len' a1 a2 => ⟨h', len', rfl, a1, rfl, a2⟩)
  intro Q hQ
  have A1 := T_X7_at (h := h) (p := (p : Int))
  rw [hσ _ (by omega)] at A1
  have D1 := T_X7_digitAt (h := h) (p := (p : Int) + 1) (by rw [hσ _ (by omega)]; exact hσb _)
  have D2 := T_X7_digitAt (h := h) (p := (p : Int) + 2) (by rw [hσ _ (by omega)]; exact hσb _)
  have N2 := T_X7_numberAt (h := h) (p := (p : Int) + 1) (f := 97) (m := 12) (by rw [hσ _ (by omega)]; exact hσb _)
  unfold numAt at D1 D2 N2
  rw [hσ _ (by omega)] at D1 D2 N2
  have b0 := hσb p
  have b1 := hσb (p + 1)
  have b2 := hσb (p + 2)
  unfold naA at hQ hwr
  unfold naE at hok
  by_cases q1 : σ p = 114
  · rw [if_pos q1] at hQ hwr
    rw [q1] at A1
    have hT := C_makeRun hX hC hc hnow
    generalize aRu X f = w at *
    refine R_aload_n dX11_doAct_0 rfl (?_ : RR _ _ _ _ 1 _ _ _ _)
    refine R_getr dX11_doAct_1 flX11_10 cok_11 rfl (by decide) (?_ : RR _ _ _ _ 4 _ _ _ _)
    refine R_iload_n dX11_doAct_4 rfl (?_ : RR _ _ _ _ 5 _ _ _ _)
    refine R_cVi1 dX11_doAct_5 mvX7_at mlX11_436 (by decide) (by decide) (Nat.le_of_ble_eq_true rfl) (Nat.le_of_ble_eq_true rfl) (A1) (?_ : RR _ _ _ _ 8 _ _ _ _)
    refine R_look (t := 60) (off := 52) dX11_doAct_8 (by decide) rfl rfl (?_ : RR _ _ _ _ 60 _ _ _ _)
    refine R_aload_n dX11_doAct_60 rfl (?_ : RR _ _ _ _ 61 _ _ _ _)
    refine R_qV0 dX11_doAct_61 mvX11_makeRun mlX11_234 (by decide) (by decide) (Nat.le_of_ble_eq_true rfl) (Nat.le_of_ble_eq_true rfl) (hT) (fun r9 g9 hq9 => (?_ : RR _ _ _ _ 64 _ _ _ _))
    obtain ⟨⟨h5, len5, rfl, f5, rfl, c5⟩, -⟩ := hq9
    have hq := hQ h5 len5 f5 c5
    show RR _ _ _ _ _ _ [pI w.1] _ _
    exact R_ireturn dX11_doAct_64 trivial hq
  · rw [if_neg q1] at hQ hwr
    by_cases q2 : σ p = 99
    · rw [if_pos q2] at hQ hwr
      rw [q2] at A1
      have hT := C_takeStanding hX hc
      generalize aCo X f = w at *
      refine R_aload_n dX11_doAct_0 rfl (?_ : RR _ _ _ _ 1 _ _ _ _)
      refine R_getr dX11_doAct_1 flX11_10 cok_11 rfl (by decide) (?_ : RR _ _ _ _ 4 _ _ _ _)
      refine R_iload_n dX11_doAct_4 rfl (?_ : RR _ _ _ _ 5 _ _ _ _)
      refine R_cVi1 dX11_doAct_5 mvX7_at mlX11_436 (by decide) (by decide) (Nat.le_of_ble_eq_true rfl) (Nat.le_of_ble_eq_true rfl) (A1) (?_ : RR _ _ _ _ 8 _ _ _ _)
      refine R_look (t := 65) (off := 57) dX11_doAct_8 (by decide) rfl rfl (?_ : RR _ _ _ _ 65 _ _ _ _)
      refine R_aload_n dX11_doAct_65 rfl (?_ : RR _ _ _ _ 66 _ _ _ _)
      refine R_qV0 dX11_doAct_66 mvX11_takeStanding mlX11_260 (by decide) (by decide) (Nat.le_of_ble_eq_true rfl) (Nat.le_of_ble_eq_true rfl) (hT) (fun r9 g9 hq9 => (?_ : RR _ _ _ _ 69 _ _ _ _))
      obtain ⟨h5, len5, rfl, f5, rfl, c5⟩ := hq9
      have hq := hQ h5 len5 f5 c5
      show RR _ _ _ _ _ _ [pI w.1] _ _
      exact R_ireturn dX11_doAct_69 trivial hq
    · rw [if_neg q2] at hQ hwr
      rw [if_neg (by omega)] at hok
      by_cases q3 : σ p = 120
      · rw [if_pos q3] at hQ hwr
        rw [if_pos (by omega)] at hok
        have hd : 48 ≤ σ (p + 1) ∧ σ (p + 1) ≤ 57 := by
          by_cases y : 48 ≤ σ (p + 1) ∧ σ (p + 1) ≤ 57
          · exact y
          · rw [if_neg y] at hok; cases hok
        rw [if_pos (by omega)] at D1
        rw [q3] at A1
        have hT := C_uncouple (n := σ (p + 1) - 48) hX hc (by omega)
        generalize aCu X f (σ (p + 1) - 48) = w at *
        generalize σ (p + 1) = s1 at *
        refine R_aload_n dX11_doAct_0 rfl (?_ : RR _ _ _ _ 1 _ _ _ _)
        refine R_getr dX11_doAct_1 flX11_10 cok_11 rfl (by decide) (?_ : RR _ _ _ _ 4 _ _ _ _)
        refine R_iload_n dX11_doAct_4 rfl (?_ : RR _ _ _ _ 5 _ _ _ _)
        refine R_cVi1 dX11_doAct_5 mvX7_at mlX11_436 (by decide) (by decide) (Nat.le_of_ble_eq_true rfl) (Nat.le_of_ble_eq_true rfl) (A1) (?_ : RR _ _ _ _ 8 _ _ _ _)
        refine R_look (t := 70) (off := 62) dX11_doAct_8 (by decide) rfl rfl (?_ : RR _ _ _ _ 70 _ _ _ _)
        refine R_aload_n dX11_doAct_70 rfl (?_ : RR _ _ _ _ 71 _ _ _ _)
        refine R_aload_n dX11_doAct_71 rfl (?_ : RR _ _ _ _ 72 _ _ _ _)
        refine R_getr dX11_doAct_72 flX11_10 cok_11 rfl (by decide) (?_ : RR _ _ _ _ 75 _ _ _ _)
        refine R_iload_n dX11_doAct_75 rfl (?_ : RR _ _ _ _ 76 _ _ _ _)
        refine R_iconst dX11_doAct_76 (?_ : RR _ _ _ _ 77 _ _ _ _)
        refine R_iadd dX11_doAct_77 (?_ : RR _ _ _ _ 78 _ _ _ _)
        refine R_cVi1 dX11_doAct_78 mvX7_digitAt mlX11_445 (by decide) (by decide) (Nat.le_of_ble_eq_true rfl) (Nat.le_of_ble_eq_true rfl) (D1) (?_ : RR _ _ _ _ 81 _ _ _ _)
        refine R_qV1 dX11_doAct_81 mvX11_uncouple mlX11_263 (by decide) (by decide) (Nat.le_of_ble_eq_true rfl) (Nat.le_of_ble_eq_true rfl) (hT) (fun r9 g9 hq9 => (?_ : RR _ _ _ _ 84 _ _ _ _))
        obtain ⟨h5, len5, rfl, f5, rfl, c5⟩ := hq9
        have hq := hQ h5 len5 f5 c5
        show RR _ _ _ _ _ _ [pI w.1] _ _
        exact R_ireturn dX11_doAct_84 trivial hq
      · rw [if_neg q3] at hQ hwr
        by_cases q4 : σ p = 115
        · rw [if_pos q4] at hQ hwr
          rw [if_pos (by omega)] at hok
          have hd : 48 ≤ σ (p + 1) ∧ σ (p + 1) ≤ 57 := by
            by_cases y : 48 ≤ σ (p + 1) ∧ σ (p + 1) ≤ 57
            · exact y
            · rw [if_neg y] at hok; cases hok
          rw [if_pos (by omega)] at D1
          rw [q4] at A1
          have hT := C_letPass (n := σ (p + 1) - 48) hc hnow (by omega)
          generalize aSt f (σ (p + 1) - 48) = w at *
          generalize σ (p + 1) = s1 at *
          refine R_aload_n dX11_doAct_0 rfl (?_ : RR _ _ _ _ 1 _ _ _ _)
          refine R_getr dX11_doAct_1 flX11_10 cok_11 rfl (by decide) (?_ : RR _ _ _ _ 4 _ _ _ _)
          refine R_iload_n dX11_doAct_4 rfl (?_ : RR _ _ _ _ 5 _ _ _ _)
          refine R_cVi1 dX11_doAct_5 mvX7_at mlX11_436 (by decide) (by decide) (Nat.le_of_ble_eq_true rfl) (Nat.le_of_ble_eq_true rfl) (A1) (?_ : RR _ _ _ _ 8 _ _ _ _)
          refine R_look (t := 85) (off := 77) dX11_doAct_8 (by decide) rfl rfl (?_ : RR _ _ _ _ 85 _ _ _ _)
          refine R_aload_n dX11_doAct_85 rfl (?_ : RR _ _ _ _ 86 _ _ _ _)
          refine R_aload_n dX11_doAct_86 rfl (?_ : RR _ _ _ _ 87 _ _ _ _)
          refine R_getr dX11_doAct_87 flX11_10 cok_11 rfl (by decide) (?_ : RR _ _ _ _ 90 _ _ _ _)
          refine R_iload_n dX11_doAct_90 rfl (?_ : RR _ _ _ _ 91 _ _ _ _)
          refine R_iconst dX11_doAct_91 (?_ : RR _ _ _ _ 92 _ _ _ _)
          refine R_iadd dX11_doAct_92 (?_ : RR _ _ _ _ 93 _ _ _ _)
          refine R_cVi1 dX11_doAct_93 mvX7_digitAt mlX11_445 (by decide) (by decide) (Nat.le_of_ble_eq_true rfl) (Nat.le_of_ble_eq_true rfl) (D1) (?_ : RR _ _ _ _ 96 _ _ _ _)
          refine R_qV1 dX11_doAct_96 mvX11_letPass mlX11_269 (by decide) (by decide) (Nat.le_of_ble_eq_true rfl) (Nat.le_of_ble_eq_true rfl) (hT) (fun r9 g9 hq9 => (?_ : RR _ _ _ _ 99 _ _ _ _))
          obtain ⟨h5, len5, rfl, f5, rfl, c5⟩ := hq9
          have hq := hQ h5 len5 f5 c5
          show RR _ _ _ _ _ _ [pI w.1] _ _
          exact R_ireturn dX11_doAct_99 trivial hq
        · rw [if_neg q4] at hQ hwr
          rw [if_neg (by omega)] at hok
          have hg : σ p = 103 ∨ σ p = 119 := by
            by_cases y : σ p = 103 ∨ σ p = 119
            · exact y
            · rw [if_neg y] at hok; cases hok
          rw [if_pos hg] at hok
          have hF : naF σ p := by
            by_cases y : naF σ p
            · exact y
            · rw [if_neg y] at hok; cases hok
          rw [if_pos hF] at hok
          have hd2 : 48 ≤ σ (p + 2) ∧ σ (p + 2) ≤ 57 := by
            by_cases y : 48 ≤ σ (p + 2) ∧ σ (p + 2) ≤ 57
            · exact y
            · rw [if_neg y] at hok; cases hok
          rw [if_pos (by omega)] at D2
          by_cases q5 : σ p = 103
          · rw [if_pos q5] at hQ hwr
            have hd : 48 ≤ σ (p + 1) ∧ σ (p + 1) ≤ 49 := by unfold naF at hF; omega
            rw [if_pos (by omega)] at D1
            rw [q5] at A1
            have hT := C_drive (x := σ (p + 1) - 48) (n := σ (p + 2) - 48) hX hC hc hnow (by omega) (by omega)
            generalize aGo X f (σ (p + 1) - 48) (σ (p + 2) - 48) = w at *
            clear hF hok
            generalize σ (p + 1) = s1 at *
            generalize σ (p + 2) = s2 at *
            refine R_aload_n dX11_doAct_0 rfl (?_ : RR _ _ _ _ 1 _ _ _ _)
            refine R_getr dX11_doAct_1 flX11_10 cok_11 rfl (by decide) (?_ : RR _ _ _ _ 4 _ _ _ _)
            refine R_iload_n dX11_doAct_4 rfl (?_ : RR _ _ _ _ 5 _ _ _ _)
            refine R_cVi1 dX11_doAct_5 mvX7_at mlX11_436 (by decide) (by decide) (Nat.le_of_ble_eq_true rfl) (Nat.le_of_ble_eq_true rfl) (A1) (?_ : RR _ _ _ _ 8 _ _ _ _)
            refine R_look (t := 100) (off := 92) dX11_doAct_8 (by decide) rfl rfl (?_ : RR _ _ _ _ 100 _ _ _ _)
            refine R_aload_n dX11_doAct_100 rfl (?_ : RR _ _ _ _ 101 _ _ _ _)
            refine R_aload_n dX11_doAct_101 rfl (?_ : RR _ _ _ _ 102 _ _ _ _)
            refine R_getr dX11_doAct_102 flX11_10 cok_11 rfl (by decide) (?_ : RR _ _ _ _ 105 _ _ _ _)
            refine R_iload_n dX11_doAct_105 rfl (?_ : RR _ _ _ _ 106 _ _ _ _)
            refine R_iconst dX11_doAct_106 (?_ : RR _ _ _ _ 107 _ _ _ _)
            refine R_iadd dX11_doAct_107 (?_ : RR _ _ _ _ 108 _ _ _ _)
            refine R_cVi1 dX11_doAct_108 mvX7_digitAt mlX11_445 (by decide) (by decide) (Nat.le_of_ble_eq_true rfl) (Nat.le_of_ble_eq_true rfl) (D1) (?_ : RR _ _ _ _ 111 _ _ _ _)
            refine R_aload_n dX11_doAct_111 rfl (?_ : RR _ _ _ _ 112 _ _ _ _)
            refine R_getr dX11_doAct_112 flX11_10 cok_11 rfl (by decide) (?_ : RR _ _ _ _ 115 _ _ _ _)
            refine R_iload_n dX11_doAct_115 rfl (?_ : RR _ _ _ _ 116 _ _ _ _)
            refine R_iconst dX11_doAct_116 (?_ : RR _ _ _ _ 117 _ _ _ _)
            refine R_iadd dX11_doAct_117 (?_ : RR _ _ _ _ 118 _ _ _ _)
            refine R_cVi1 dX11_doAct_118 mvX7_digitAt mlX11_445 (by decide) (by decide) (Nat.le_of_ble_eq_true rfl) (Nat.le_of_ble_eq_true rfl) (D2) (?_ : RR _ _ _ _ 121 _ _ _ _)
            refine R_qV2 dX11_doAct_121 mvX11_drive mlX11_251 (by decide) (by decide) (Nat.le_of_ble_eq_true rfl) (Nat.le_of_ble_eq_true rfl) (hT) (fun r9 g9 hq9 => (?_ : RR _ _ _ _ 124 _ _ _ _))
            obtain ⟨h5, len5, rfl, f5, rfl, c5⟩ := hq9
            have hq := hQ h5 len5 f5 c5
            show RR _ _ _ _ _ _ [pI w.1] _ _
            exact R_ireturn dX11_doAct_124 trivial hq
          · rw [if_neg q5] at hQ hwr
            have hd : 97 ≤ σ (p + 1) ∧ σ (p + 1) ≤ 108 := by unfold naF at hF; omega
            rw [if_pos (by omega)] at N2
            have hT := C_changeCoach (p := σ (p + 1) - 97) (c := σ (p + 2) - 48) hX hC.2.1 hc hnow (by omega) (by omega)
            generalize aWa X f (σ (p + 1) - 97) (σ (p + 2) - 48) = w at *
            clear hF hok
            generalize σ (p + 1) = s1 at *
            generalize σ (p + 2) = s2 at *
            refine R_aload_n dX11_doAct_0 rfl (?_ : RR _ _ _ _ 1 _ _ _ _)
            refine R_getr dX11_doAct_1 flX11_10 cok_11 rfl (by decide) (?_ : RR _ _ _ _ 4 _ _ _ _)
            refine R_iload_n dX11_doAct_4 rfl (?_ : RR _ _ _ _ 5 _ _ _ _)
            refine R_cVi1 dX11_doAct_5 mvX7_at mlX11_436 (by decide) (by decide) (Nat.le_of_ble_eq_true rfl) (Nat.le_of_ble_eq_true rfl) (A1) (?_ : RR _ _ _ _ 8 _ _ _ _)
            refine R_look (t := 125) (off := 117) dX11_doAct_8 (by decide) (look_e (by omega) (by omega) (by omega) (by omega) (by omega)) rfl (?_ : RR _ _ _ _ 125 _ _ _ _)
            refine R_aload_n dX11_doAct_125 rfl (?_ : RR _ _ _ _ 126 _ _ _ _)
            refine R_aload_n dX11_doAct_126 rfl (?_ : RR _ _ _ _ 127 _ _ _ _)
            refine R_getr dX11_doAct_127 flX11_10 cok_11 rfl (by decide) (?_ : RR _ _ _ _ 130 _ _ _ _)
            refine R_iload_n dX11_doAct_130 rfl (?_ : RR _ _ _ _ 131 _ _ _ _)
            refine R_iconst dX11_doAct_131 (?_ : RR _ _ _ _ 132 _ _ _ _)
            refine R_iadd dX11_doAct_132 (?_ : RR _ _ _ _ 133 _ _ _ _)
            refine R_bipush dX11_doAct_133 rfl (?_ : RR _ _ _ _ 135 _ _ _ _)
            refine R_bipush dX11_doAct_135 rfl (?_ : RR _ _ _ _ 137 _ _ _ _)
            refine R_cVi3 dX11_doAct_137 mvX7_numberAt mlX11_132 (by decide) (by decide) (Nat.le_of_ble_eq_true rfl) (Nat.le_of_ble_eq_true rfl) (N2) (?_ : RR _ _ _ _ 140 _ _ _ _)
            refine R_aload_n dX11_doAct_140 rfl (?_ : RR _ _ _ _ 141 _ _ _ _)
            refine R_getr dX11_doAct_141 flX11_10 cok_11 rfl (by decide) (?_ : RR _ _ _ _ 144 _ _ _ _)
            refine R_iload_n dX11_doAct_144 rfl (?_ : RR _ _ _ _ 145 _ _ _ _)
            refine R_iconst dX11_doAct_145 (?_ : RR _ _ _ _ 146 _ _ _ _)
            refine R_iadd dX11_doAct_146 (?_ : RR _ _ _ _ 147 _ _ _ _)
            refine R_cVi1 dX11_doAct_147 mvX7_digitAt mlX11_445 (by decide) (by decide) (Nat.le_of_ble_eq_true rfl) (Nat.le_of_ble_eq_true rfl) (D2) (?_ : RR _ _ _ _ 150 _ _ _ _)
            refine R_qV2 dX11_doAct_150 mvX11_changeCoach mlX11_266 (by decide) (by decide) (Nat.le_of_ble_eq_true rfl) (Nat.le_of_ble_eq_true rfl) (hT) (fun r9 g9 hq9 => (?_ : RR _ _ _ _ 153 _ _ _ _))
            obtain ⟨h5, len5, rfl, f5, rfl, c5⟩ := hq9
            have hq := hQ h5 len5 f5 c5
            show RR _ _ _ _ _ _ [pI w.1] _ _
            exact R_ireturn dX11_doAct_153 trivial hq
/-- the acts, one after another -/
def niS (X : Cx) (σ f : Int → Int) : Nat → (Int → Int)
  | 0 => f
  | k + 1 => (naA X σ (niS X σ f k) (naR σ k).1).2
theorem niS_p (hX : xOK X H) (hf : okF X H f) {K : Nat} (g1 : ∀ j, j < K → (naR σ (j + 1)).2 = true) : ∀ k, k ≤ K → okF X H (niS X σ f k) ∧ niS X σ f k 1 ≤ f 1 + 9 * k ∧ oor (niS X σ f k) f ∧ ∀ q : Nat, q < xP X → mS f q < 0 → mS (niS X σ f k) q < 0
  | 0, _ => ⟨hf, by show f 1 ≤ _; omega, fun _ _ => rfl, fun q _ z => z⟩
  | k + 1, hk => by
    obtain ⟨a1, a2, a3, a4⟩ := niS_p hX hf g1 k (by omega)
    obtain ⟨c1, c2, c3, c4⟩ := naA_p (σ := σ) (p := (naR σ k).1) hX a1 (g1 k (by omega))
    exact ⟨c1, by show (naA X σ (niS X σ f k) (naR σ k).1).2 1 ≤ _; omega, oor_tr c3 a3, fun q hq z => c4 q hq (a4 q hq z)⟩
/-- how many acts are done -/
theorem ni_ex (X : Cx) (σ f : Int → Int) (K : Nat) : ∃ D : Nat, D ≤ K ∧ (∀ j, j < D → 0 ≤ (naA X σ (niS X σ f j) (naR σ j).1).1) ∧ (D = K ∨ (D < K ∧ (naA X σ (niS X σ f D) (naR σ D).1).1 < 0)) := by
  rcases fst_bad (fun j => 0 ≤ (naA X σ (niS X σ f j) (naR σ j).1).1) K with q | ⟨i, i1, i2, i3⟩
  · exact ⟨K, Nat.le_refl _, q, Or.inl rfl⟩
  · exact ⟨i, by omega, i3, Or.inr ⟨i1, by omega⟩⟩
end NI4
