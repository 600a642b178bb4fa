section AP
variable {k : Nat} {h h1 h2 h3 h4 hb : Nat → Int → Int} {sem : Sem} {H np nc len n b m : Nat} {σ f : Int → Int}
def paH (f : Int → Int) (c : Int) : Int := if 0 ≤ mP f c then f 0 else mA f c
def paV (σ f : Int → Int) (i : Nat) : Int := if paH f (paCo σ i) = paWa σ i then -1 else paCo σ i
def mpP (hb : Nat → Int → Int) (σ f : Int → Int) (np i : Nat) (h1 : Nat → Int → Int) : Prop := (∀ a, a ≠ 147 → a ≠ 152 → a ≠ 153 → a ≠ 154 → h1 a = hb a) ∧ (∀ j : Int, j ≠ 5 → h1 147 j = hb 147 j) ∧ h1 147 5 = ((np + i : Nat) : Int) ∧ h1 152 = itF np (paWa σ) (hb 152) i ∧ h1 153 = itF np (paRa σ) (hb 153) i ∧ h1 154 = itF (14 + np) (paV σ f) f i
theorem MPA_81 {Q : Option PV → PH → Prop} (hm12 : np + m ≤ 12) (h20 : hb 147 20 = m) (hrd : rdP σ m hb) (hok : ∀ i, i < m → paOK σ H nc np i) (h6 : nc ≤ 6) (hH9 : H ≤ 9) (hfb : ∀ c : Int, 0 ≤ c → c < nc → r32 (paH f c)) (hk : 0 ≤ hb 147 6 ∧ hb 147 6 ≤ 100000) (hQ : ∀ h2, mpP hb σ f np m h2 → Q (some (pI m)) (shp0, rf0, if 0 < m then rup h2 147 (fup (fup (h2 147) 28 0) 6 (h2 147 6 + 1)) else h2)) : ∀ (j i : Nat) (h1 : Nat → Int → Int), i + j = m → mpP hb σ f np i h1 → RR mX12_passengers 3 0 0 81 [pR 147, pI n, pI 1, pI 0, pI 0, pI i] [] (shp0, rf0, h1) Q := by
  have r154 := isRw_154
  intro j
  induction j with
  | zero =>
    intro i h1 hi hp
    obtain rfl : i = m := by omega
    have g20 : h1 147 20 = i := by rw [hp.2.1 20 (by omega)]; exact h20
    have hq := hQ h1 hp
    have hT := T_X12_came (k := 0) g20 (by omega) (by rw [hp.2.1 6 (by omega)]; exact hk)
    generalize (if 0 < i then rup h1 147 (fup (fup (h1 147) 28 0) 6 (h1 147 6 + 1)) else h1) = h9 at hq hT
    refine R_iload dX12_passengers_81 rfl (?_ : RR _ _ _ _ 83 _ _ _ _)
    refine R_aload_n dX12_passengers_83 rfl (?_ : RR _ _ _ _ 84 _ _ _ _)
    refine R_geti (z := 20) dX12_passengers_84 flX12_214 cok_12 rfl (by decide) rfl (fun q84 => (?_ : RR _ _ _ _ 87 _ _ _ _))
    rw [g20] at q84 ⊢
    refine R_icmp_ge (t := 199) dX12_passengers_87 rfl (fun c87 => ?_) (fun c87 => ?_)
    rotate_left
    · exfalso; omega
    refine R_aload_n dX12_passengers_199 rfl (?_ : RR _ _ _ _ 200 _ _ _ _)
    refine R_cVi0 dX12_passengers_200 mvX12_came mlX12_221 (by decide) (by decide) (Nat.le_of_ble_eq_true rfl) (Nat.le_of_ble_eq_true rfl) (hT) (?_ : RR _ _ _ _ 203 _ _ _ _)
    exact R_ireturn dX12_passengers_203 trivial hq
  | succ j ih =>
    intro i h1 hi hp
    have g20 : h1 147 20 = m := by rw [hp.2.1 20 (by omega)]; exact h20
    obtain ⟨p1, p2, p3, p4, p5, p6⟩ := id hp
    obtain ⟨d1, d2, d3⟩ := hrd i (by omega)
    rw [← p1 157 (by omega) (by omega) (by omega) (by omega)] at d1 d2 d3
    obtain ⟨⟨y, y1, y2⟩, ⟨u1, u2⟩, ⟨v1, v2⟩⟩ := hok i (by omega)
    have hcb : 0 ≤ paCo σ i ∧ paCo σ i < nc := by unfold paCo; omega
    have hwb : 0 ≤ paWa σ i ∧ paWa σ i < 9 := by unfold paWa; omega
    have hrb : 0 ≤ paRa σ i ∧ paRa σ i < 100 := by unfold paRa; omega
    have IH := ih (i + 1)
    have hhb := hfb (paCo σ i) hcb.1 hcb.2
    have hTh : ∀ h5 : Nat → Int → Int, h5 154 = h1 154 → MT mX12_haltOf 1 [pR 154, pI (paCo σ i)] h5 (some (pI (paH f (paCo σ i)))) h5 := fun h5 e5 => by
      have hT := T_X12_haltOf (r := 154) (c := paCo σ i) (h := h5)
      have e1 : mP (h5 154) (paCo σ i) = mP f (paCo σ i) := by
        rw [e5, p6]
        exact itF_out i (by omega)
      have e2 : mA (h5 154) (paCo σ i) = mA f (paCo σ i) := by
        rw [e5, p6]
        exact itF_out i (by omega)
      have e3 : h5 154 0 = f 0 := by
        rw [e5, p6]
        exact itF_out i (by omega)
      rw [e1, e2, e3] at hT
      exact hT
    obtain ⟨h5, h5e⟩ : ∃ h5, h5 = rup (rup h1 152 (fup (h1 152) ((np + i : Nat) : Int) (paWa σ i))) 153 (fup (rup h1 152 (fup (h1 152) ((np + i : Nat) : Int) (paWa σ i)) 153) ((np + i : Nat) : Int) (paRa σ i)) := ⟨_, rfl⟩
    have q1 : ∀ a, a ≠ 152 → a ≠ 153 → h5 a = h1 a := fun a a1 a2 => by rw [h5e, rup_n a2, rup_n a1]
    have q2 : h5 152 ((np + i : Nat) : Int) = paWa σ i := by rw [h5e, rup_n (by omega), rup_s, fup_s]
    have q3 : h5 147 5 = ((np + i : Nat) : Int) := by rw [q1 147 (by omega) (by omega)]; exact p3
    have q4 : h5 157 (3 * i) = paCo σ i := by rw [q1 157 (by omega) (by omega)]; exact d1
    have hT5 := hTh h5 (q1 154 (by omega) (by omega))
    have K130 : ∀ z : Int, z = paV σ f i → RR mX12_passengers 3 0 0 182 [pR 147, pI n, pI 1, pI 0, pI 0, pI i] [pI z, pI (14 + ((np + i : Nat) : Int)), pR 154] (shp0, rf0, h5) Q := fun z hz => by
      have hzb : -1 ≤ z ∧ z < 6 := by rw [hz]; unfold paV; split <;> omega
      have q6 : rup h5 154 (fup (h5 154) (14 + ((np + i : Nat) : Int)) z) 147 5 = ((np + i : Nat) : Int) := by rw [rup_n (by omega)]; exact q3
      have K := IH (rup (rup h5 154 (fup (h5 154) (14 + ((np + i : Nat) : Int)) z)) 147 (fup (rup h5 154 (fup (h5 154) (14 + ((np + i : Nat) : Int)) z) 147) 5 (((np + i : Nat) : Int) + 1))) (by omega) ⟨fun a a1 a2 a3 a4 => by rw [rup_n a1, rup_n a4, q1 a a2 a3]; exact p1 a a1 a2 a3 a4, fun j j1 => by rw [rup_s, fup_n j1, rup_n (by omega), q1 147 (by omega) (by omega)]; exact p2 j j1, by rw [rup_s, fup_s]; omega, by rw [rup_n (by omega), rup_n (by omega), h5e, rup_n (by omega), rup_s, p4]; rfl, by rw [rup_n (by omega), rup_n (by omega), h5e, rup_s, rup_n (by omega), p5]; rfl, by rw [rup_n (by omega), rup_s, q1 154 (by omega) (by omega), p6, hz, show (14 : Int) + ((np + i : Nat) : Int) = 14 + (np : Int) + i by omega]; rfl⟩
      refine R_iast dX12_passengers_182 (?_ : RR _ _ _ _ 183 _ _ _ _)
      refine R_aload_n dX12_passengers_183 rfl (?_ : RR _ _ _ _ 184 _ _ _ _)
      refine R_dup dX12_passengers_184 (fun _ => rfl) (?_ : RR _ _ _ _ 185 _ _ _ _)
      refine R_geti (z := 5) dX12_passengers_185 flX12_127 cok_12 rfl (by decide) rfl (fun q185 => (?_ : RR _ _ _ _ 188 _ _ _ _))
      rw [q6] at q185 ⊢
      refine R_iconst dX12_passengers_188 (?_ : RR _ _ _ _ 189 _ _ _ _)
      refine R_iadd dX12_passengers_189 (?_ : RR _ _ _ _ 190 _ _ _ _)
      refine R_puti (zk := 5) dX12_passengers_190 flX12_127 cok_12 (by decide) (fun q hq => by cases hq; rfl) rfl (?_ : RR _ _ _ _ 193 _ _ _ _)
      refine R_iinc dX12_passengers_193 rfl (Nat.le_of_ble_eq_true rfl) (?_ : RR _ _ _ _ 196 [_, _, _, _, _, _] _ _ _)
      refine R_goto (t := 81) dX12_passengers_196 rfl (?_ : RR _ _ _ _ 81 _ _ _ _)
      exact K
    by_cases z : paH f (paCo σ i) = paWa σ i
    · have K := K130 (-1) (by unfold paV; rw [if_pos z])
      refine R_iload dX12_passengers_81 rfl (?_ : RR _ _ _ _ 83 _ _ _ _)
      refine R_aload_n dX12_passengers_83 rfl (?_ : RR _ _ _ _ 84 _ _ _ _)
      refine R_geti (z := 20) dX12_passengers_84 flX12_214 cok_12 rfl (by decide) rfl (fun q84 => (?_ : RR _ _ _ _ 87 _ _ _ _))
      rw [g20] at q84 ⊢
      refine R_icmp_ge (t := 199) dX12_passengers_87 rfl (fun c87 => ?_) (fun c87 => ?_)
      · exfalso; omega
      refine R_aload_n dX12_passengers_90 rfl (?_ : RR _ _ _ _ 91 _ _ _ _)
      refine R_getr dX12_passengers_91 flX12_27 cok_12 rfl (by decide) (?_ : RR _ _ _ _ 94 _ _ _ _)
      refine R_aload_n dX12_passengers_94 rfl (?_ : RR _ _ _ _ 95 _ _ _ _)
      refine R_geti (z := 5) dX12_passengers_95 flX12_127 cok_12 rfl (by decide) rfl (fun q95 => (?_ : RR _ _ _ _ 98 _ _ _ _))
      rw [p3] at q95 ⊢
      refine R_aload_n dX12_passengers_98 rfl (?_ : RR _ _ _ _ 99 _ _ _ _)
      refine R_getr dX12_passengers_99 flX12_42 cok_12 rfl (by decide) (?_ : RR _ _ _ _ 102 _ _ _ _)
      refine R_iconst dX12_passengers_102 (?_ : RR _ _ _ _ 103 _ _ _ _)
      refine R_iload dX12_passengers_103 rfl (?_ : RR _ _ _ _ 105 _ _ _ _)
      refine R_imul dX12_passengers_105 (?_ : RR _ _ _ _ 106 _ _ _ _)
      refine R_iconst dX12_passengers_106 (?_ : RR _ _ _ _ 107 _ _ _ _)
      refine R_iadd dX12_passengers_107 (?_ : RR _ _ _ _ 108 _ _ _ _)
      refine R_iald dX12_passengers_108 (fun q108 => (?_ : RR _ _ _ _ 109 _ _ _ _))
      rw [d2] at q108 ⊢
      refine R_iast dX12_passengers_109 (?_ : RR _ _ _ _ 110 _ _ _ _)
      refine R_aload_n dX12_passengers_110 rfl (?_ : RR _ _ _ _ 111 _ _ _ _)
      refine R_getr dX12_passengers_111 flX12_30 cok_12 rfl (by decide) (?_ : RR _ _ _ _ 114 _ _ _ _)
      refine R_aload_n dX12_passengers_114 rfl (?_ : RR _ _ _ _ 115 _ _ _ _)
      refine R_geti (z := 5) dX12_passengers_115 flX12_127 cok_12 rfl (by decide) rfl (fun q115 => (?_ : RR _ _ _ _ 118 _ _ _ _))
      simp (disch := omega) only [rup_n, p3] at q115 ⊢
      refine R_aload_n dX12_passengers_118 rfl (?_ : RR _ _ _ _ 119 _ _ _ _)
      refine R_getr dX12_passengers_119 flX12_42 cok_12 rfl (by decide) (?_ : RR _ _ _ _ 122 _ _ _ _)
      refine R_iconst dX12_passengers_122 (?_ : RR _ _ _ _ 123 _ _ _ _)
      refine R_iload dX12_passengers_123 rfl (?_ : RR _ _ _ _ 125 _ _ _ _)
      refine R_imul dX12_passengers_125 (?_ : RR _ _ _ _ 126 _ _ _ _)
      refine R_iconst dX12_passengers_126 (?_ : RR _ _ _ _ 127 _ _ _ _)
      refine R_iadd dX12_passengers_127 (?_ : RR _ _ _ _ 128 _ _ _ _)
      refine R_iald dX12_passengers_128 (fun q128 => (?_ : RR _ _ _ _ 129 _ _ _ _))
      simp (disch := omega) only [rup_n, d3] at q128 ⊢
      refine R_iast dX12_passengers_129 (?_ : RR _ _ _ _ 130 _ _ _ _)
      rw [← h5e]
      refine R_aload_n dX12_passengers_130 rfl (?_ : RR _ _ _ _ 131 _ _ _ _)
      refine R_getr dX12_passengers_131 flX12_33 cok_12 rfl (by decide) (?_ : RR _ _ _ _ 134 _ _ _ _)
      refine R_bipush dX12_passengers_134 rfl (?_ : RR _ _ _ _ 136 _ _ _ _)
      refine R_aload_n dX12_passengers_136 rfl (?_ : RR _ _ _ _ 137 _ _ _ _)
      refine R_geti (z := 5) dX12_passengers_137 flX12_127 cok_12 rfl (by decide) rfl (fun q137 => (?_ : RR _ _ _ _ 140 _ _ _ _))
      rw [q3] at q137 ⊢
      refine R_iadd dX12_passengers_140 (?_ : RR _ _ _ _ 141 _ _ _ _)
      refine R_aload_n dX12_passengers_141 rfl (?_ : RR _ _ _ _ 142 _ _ _ _)
      refine R_getr dX12_passengers_142 flX12_33 cok_12 rfl (by decide) (?_ : RR _ _ _ _ 145 _ _ _ _)
      refine R_aload_n dX12_passengers_145 rfl (?_ : RR _ _ _ _ 146 _ _ _ _)
      refine R_getr dX12_passengers_146 flX12_42 cok_12 rfl (by decide) (?_ : RR _ _ _ _ 149 _ _ _ _)
      refine R_iconst dX12_passengers_149 (?_ : RR _ _ _ _ 150 _ _ _ _)
      refine R_iload dX12_passengers_150 rfl (?_ : RR _ _ _ _ 152 _ _ _ _)
      refine R_imul dX12_passengers_152 (?_ : RR _ _ _ _ 153 _ _ _ _)
      refine R_iald dX12_passengers_153 (fun q153 => (?_ : RR _ _ _ _ 154 _ _ _ _))
      rw [q4] at q153 ⊢
      refine R_cSi2 dX12_passengers_154 msX12_haltOf mlX12_227 (by decide) (Nat.le_of_ble_eq_true rfl) (Nat.le_of_ble_eq_true rfl) (hT5) (?_ : RR _ _ _ _ 157 _ _ _ _)
      refine R_aload_n dX12_passengers_157 rfl (?_ : RR _ _ _ _ 158 _ _ _ _)
      refine R_getr dX12_passengers_158 flX12_27 cok_12 rfl (by decide) (?_ : RR _ _ _ _ 161 _ _ _ _)
      refine R_aload_n dX12_passengers_161 rfl (?_ : RR _ _ _ _ 162 _ _ _ _)
      refine R_geti (z := 5) dX12_passengers_162 flX12_127 cok_12 rfl (by decide) rfl (fun q162 => (?_ : RR _ _ _ _ 165 _ _ _ _))
      rw [q3] at q162 ⊢
      refine R_iald dX12_passengers_165 (fun q165 => (?_ : RR _ _ _ _ 166 _ _ _ _))
      rw [q2] at q165 ⊢
      refine R_icmp_ne (t := 173) dX12_passengers_166 rfl (fun c166 => ?_) (fun c166 => ?_)
      · exfalso; omega
      refine R_iconst dX12_passengers_169 (?_ : RR _ _ _ _ 170 _ _ _ _)
      refine R_goto (t := 182) dX12_passengers_170 rfl (?_ : RR _ _ _ _ 182 _ _ _ _)
      exact K
    · have K := K130 (paCo σ i) (by unfold paV; rw [if_neg z])
      refine R_iload dX12_passengers_81 rfl (?_ : RR _ _ _ _ 83 _ _ _ _)
      refine R_aload_n dX12_passengers_83 rfl (?_ : RR _ _ _ _ 84 _ _ _ _)
      refine R_geti (z := 20) dX12_passengers_84 flX12_214 cok_12 rfl (by decide) rfl (fun q84 => (?_ : RR _ _ _ _ 87 _ _ _ _))
      rw [g20] at q84 ⊢
      refine R_icmp_ge (t := 199) dX12_passengers_87 rfl (fun c87 => ?_) (fun c87 => ?_)
      · exfalso; omega
      refine R_aload_n dX12_passengers_90 rfl (?_ : RR _ _ _ _ 91 _ _ _ _)
      refine R_getr dX12_passengers_91 flX12_27 cok_12 rfl (by decide) (?_ : RR _ _ _ _ 94 _ _ _ _)
      refine R_aload_n dX12_passengers_94 rfl (?_ : RR _ _ _ _ 95 _ _ _ _)
      refine R_geti (z := 5) dX12_passengers_95 flX12_127 cok_12 rfl (by decide) rfl (fun q95 => (?_ : RR _ _ _ _ 98 _ _ _ _))
      rw [p3] at q95 ⊢
      refine R_aload_n dX12_passengers_98 rfl (?_ : RR _ _ _ _ 99 _ _ _ _)
      refine R_getr dX12_passengers_99 flX12_42 cok_12 rfl (by decide) (?_ : RR _ _ _ _ 102 _ _ _ _)
      refine R_iconst dX12_passengers_102 (?_ : RR _ _ _ _ 103 _ _ _ _)
      refine R_iload dX12_passengers_103 rfl (?_ : RR _ _ _ _ 105 _ _ _ _)
      refine R_imul dX12_passengers_105 (?_ : RR _ _ _ _ 106 _ _ _ _)
      refine R_iconst dX12_passengers_106 (?_ : RR _ _ _ _ 107 _ _ _ _)
      refine R_iadd dX12_passengers_107 (?_ : RR _ _ _ _ 108 _ _ _ _)
      refine R_iald dX12_passengers_108 (fun q108 => (?_ : RR _ _ _ _ 109 _ _ _ _))
      rw [d2] at q108 ⊢
      refine R_iast dX12_passengers_109 (?_ : RR _ _ _ _ 110 _ _ _ _)
      refine R_aload_n dX12_passengers_110 rfl (?_ : RR _ _ _ _ 111 _ _ _ _)
      refine R_getr dX12_passengers_111 flX12_30 cok_12 rfl (by decide) (?_ : RR _ _ _ _ 114 _ _ _ _)
      refine R_aload_n dX12_passengers_114 rfl (?_ : RR _ _ _ _ 115 _ _ _ _)
      refine R_geti (z := 5) dX12_passengers_115 flX12_127 cok_12 rfl (by decide) rfl (fun q115 => (?_ : RR _ _ _ _ 118 _ _ _ _))
      simp (disch := omega) only [rup_n, p3] at q115 ⊢
      refine R_aload_n dX12_passengers_118 rfl (?_ : RR _ _ _ _ 119 _ _ _ _)
      refine R_getr dX12_passengers_119 flX12_42 cok_12 rfl (by decide) (?_ : RR _ _ _ _ 122 _ _ _ _)
      refine R_iconst dX12_passengers_122 (?_ : RR _ _ _ _ 123 _ _ _ _)
      refine R_iload dX12_passengers_123 rfl (?_ : RR _ _ _ _ 125 _ _ _ _)
      refine R_imul dX12_passengers_125 (?_ : RR _ _ _ _ 126 _ _ _ _)
      refine R_iconst dX12_passengers_126 (?_ : RR _ _ _ _ 127 _ _ _ _)
      refine R_iadd dX12_passengers_127 (?_ : RR _ _ _ _ 128 _ _ _ _)
      refine R_iald dX12_passengers_128 (fun q128 => (?_ : RR _ _ _ _ 129 _ _ _ _))
      simp (disch := omega) only [rup_n, d3] at q128 ⊢
      refine R_iast dX12_passengers_129 (?_ : RR _ _ _ _ 130 _ _ _ _)
      rw [← h5e]
      refine R_aload_n dX12_passengers_130 rfl (?_ : RR _ _ _ _ 131 _ _ _ _)
      refine R_getr dX12_passengers_131 flX12_33 cok_12 rfl (by decide) (?_ : RR _ _ _ _ 134 _ _ _ _)
      refine R_bipush dX12_passengers_134 rfl (?_ : RR _ _ _ _ 136 _ _ _ _)
      refine R_aload_n dX12_passengers_136 rfl (?_ : RR _ _ _ _ 137 _ _ _ _)
      refine R_geti (z := 5) dX12_passengers_137 flX12_127 cok_12 rfl (by decide) rfl (fun q137 => (?_ : RR _ _ _ _ 140 _ _ _ _))
      rw [q3] at q137 ⊢
      refine R_iadd dX12_passengers_140 (?_ : RR _ _ _ _ 141 _ _ _ _)
      refine R_aload_n dX12_passengers_141 rfl (?_ : RR _ _ _ _ 142 _ _ _ _)
      refine R_getr dX12_passengers_142 flX12_33 cok_12 rfl (by decide) (?_ : RR _ _ _ _ 145 _ _ _ _)
      refine R_aload_n dX12_passengers_145 rfl (?_ : RR _ _ _ _ 146 _ _ _ _)
      refine R_getr dX12_passengers_146 flX12_42 cok_12 rfl (by decide) (?_ : RR _ _ _ _ 149 _ _ _ _)
      refine R_iconst dX12_passengers_149 (?_ : RR _ _ _ _ 150 _ _ _ _)
      refine R_iload dX12_passengers_150 rfl (?_ : RR _ _ _ _ 152 _ _ _ _)
      refine R_imul dX12_passengers_152 (?_ : RR _ _ _ _ 153 _ _ _ _)
      refine R_iald dX12_passengers_153 (fun q153 => (?_ : RR _ _ _ _ 154 _ _ _ _))
      rw [q4] at q153 ⊢
      refine R_cSi2 dX12_passengers_154 msX12_haltOf mlX12_227 (by decide) (Nat.le_of_ble_eq_true rfl) (Nat.le_of_ble_eq_true rfl) (hT5) (?_ : RR _ _ _ _ 157 _ _ _ _)
      refine R_aload_n dX12_passengers_157 rfl (?_ : RR _ _ _ _ 158 _ _ _ _)
      refine R_getr dX12_passengers_158 flX12_27 cok_12 rfl (by decide) (?_ : RR _ _ _ _ 161 _ _ _ _)
      refine R_aload_n dX12_passengers_161 rfl (?_ : RR _ _ _ _ 162 _ _ _ _)
      refine R_geti (z := 5) dX12_passengers_162 flX12_127 cok_12 rfl (by decide) rfl (fun q162 => (?_ : RR _ _ _ _ 165 _ _ _ _))
      rw [q3] at q162 ⊢
      refine R_iald dX12_passengers_165 (fun q165 => (?_ : RR _ _ _ _ 166 _ _ _ _))
      rw [q2] at q165 ⊢
      refine R_icmp_ne (t := 173) dX12_passengers_166 rfl (fun c166 => ?_) (fun c166 => ?_)
      rotate_left
      · exfalso; omega
      refine R_aload_n dX12_passengers_173 rfl (?_ : RR _ _ _ _ 174 _ _ _ _)
      refine R_getr dX12_passengers_174 flX12_42 cok_12 rfl (by decide) (?_ : RR _ _ _ _ 177 _ _ _ _)
      refine R_iconst dX12_passengers_177 (?_ : RR _ _ _ _ 178 _ _ _ _)
      refine R_iload dX12_passengers_178 rfl (?_ : RR _ _ _ _ 180 _ _ _ _)
      refine R_imul dX12_passengers_180 (?_ : RR _ _ _ _ 181 _ _ _ _)
      refine R_iald dX12_passengers_181 (fun q181 => (?_ : RR _ _ _ _ 182 _ _ _ _))
      rw [q4] at q181 ⊢
      exact K
end AP
