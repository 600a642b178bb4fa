section NI5
variable {k : Nat} {h h1 h2 h3 h4 : Nat → Int → Int} {sem : Sem} {H np nc len n b i : Nat} {σ : Int → Int} {X : Cx} {f : Int → Int}
theorem CNI_136 {Q : Option PV → PH → Prop} {h5 : Nat → Int → Int} {D len5 : Nat} {z : Int} {w4 w5 : PV} {F : Int → Int} (hz : z = 0 ∨ z = 1) (hD : D ≤ 60) (h12 : xP X ≤ 12) (h11 : h5 11 0 = xP X) (hc : Cpl X H h5 14 F len5) (hb : Cpl X H h5 19 f len) (hQ : ∀ h6, (∀ a, a ≠ 145 → a ≠ 146 → h6 a = h5 a) → h6 145 1 = 2 → h6 146 0 = z → h6 146 1 = (oMn X F : Int) - oMn X f → Q (some (pI D)) (shp0, rf0, h6)) : RR mX11_night 7 0 0 136 [pR 0, pI 0, pI D, pI z, w4, w5] [] (shp0, rf0, h5) Q := by
  have t14 := isTr_14
  have t19 := isTr_19
  have b1 := oMn_b (X := X) (f := F) h12
  have b2 := oMn_b (X := X) (f := f) h12
  obtain ⟨h7, h7e⟩ : ∃ h7, h7 = rup (rup h5 145 (fup (fup (h5 145) 1 0) 1 ((0 : Nat) + 1))) 146 (fup (h5 146) (0 : Nat) z) := ⟨_, rfl⟩
  have f7 : ∀ a, a ≠ 145 → a ≠ 146 → h7 a = h5 a := fun a a1 a2 => by rw [h7e, rup_n a2, rup_n a1]
  have hO := T_X11_outMoreThan (h := h7) (t := 19) (o := 14) h12 (by rw [f7 11 (by omega) (by omega)]; exact h11) (Cpl_fr hb (fun a a1 a2 => f7 a (by omega) (by omega))) (Cpl_fr hc (fun a a1 a2 => f7 a (by omega) (by omega)))
  have n7 : h7 145 1 = ((1 : Nat) : Int) := by rw [h7e, rup_n (by omega), rup_s, fup_s]; rfl
  have hq := hQ (rup (rup h7 145 (fup (h7 145) 1 (((1 : Nat) : Int) + 1))) 146 (fup (h7 146) ((1 : Nat) : Int) ((oMn X F : Int) - oMn X f))) (fun a a1 a2 => by rw [rup_n a2, rup_n a1]; exact f7 a a1 a2) (by rw [rup_n (by omega), rup_s, fup_s]; rfl) (by rw [rup_s, fup_n (by omega), h7e, rup_s]; exact fup_s) (by rw [rup_s]; exact fup_s)
  have hA2 := T_X3_add (h := h7) (n := 1) (z := (oMn X F : Int) - oMn X f) n7 (by omega)
  clear hQ hc hb f7
  generalize oMn X F = y1 at *
  generalize oMn X f = y2 at *
  have K159 : RR mX11_night 7 0 0 159 [pR 0, pI 0, pI D, pI z, w4, w5] [] (shp0, rf0, h7) Q := by
    clear h7e
    refine R_aload_n dX11_night_159 rfl (?_ : RR _ _ _ _ 160 _ _ _ _)
    refine R_getr dX11_night_160 flX11_87 cok_11 rfl (by decide) (?_ : RR _ _ _ _ 163 _ _ _ _)
    refine R_aload_n dX11_night_163 rfl (?_ : RR _ _ _ _ 164 _ _ _ _)
    refine R_aload_n dX11_night_164 rfl (?_ : RR _ _ _ _ 165 _ _ _ _)
    refine R_getr dX11_night_165 flX11_40 cok_11 rfl (by decide) (?_ : RR _ _ _ _ 168 _ _ _ _)
    refine R_aload_n dX11_night_168 rfl (?_ : RR _ _ _ _ 169 _ _ _ _)
    refine R_getr dX11_night_169 flX11_36 cok_11 rfl (by decide) (?_ : RR _ _ _ _ 172 _ _ _ _)
    refine R_cVi2 dX11_night_172 mvX11_outMoreThan mlX11_281 (by decide) (by decide) (Nat.le_of_ble_eq_true rfl) (Nat.le_of_ble_eq_true rfl) (hO) (?_ : RR _ _ _ _ 175 _ _ _ _)
    refine R_i2l dX11_night_175 (by first | assumption | omega) (?_ : RR _ _ _ _ 176 _ _ _ _)
    refine R_cVv1 dX11_night_176 mvX3_add mlX11_243 (by decide) (by decide) (Nat.le_of_ble_eq_true rfl) (Nat.le_of_ble_eq_true rfl) (hA2) (?_ : RR _ _ _ _ 179 _ _ _ _)
    refine R_iload_n dX11_night_179 rfl (?_ : RR _ _ _ _ 180 _ _ _ _)
    exact R_ireturn dX11_night_180 trivial hq
  rcases hz with rfl | rfl
  · refine R_aload_n dX11_night_136 rfl (?_ : RR _ _ _ _ 137 _ _ _ _)
    refine R_getr dX11_night_137 flX11_87 cok_11 rfl (by decide) (?_ : RR _ _ _ _ 140 _ _ _ _)
    refine R_cVv0 dX11_night_140 mvX3_clear mlX11_239 (by decide) (by decide) (Nat.le_of_ble_eq_true rfl) (Nat.le_of_ble_eq_true rfl) (T_X3_clear) (?_ : RR _ _ _ _ 143 _ _ _ _)
    refine R_aload_n dX11_night_143 rfl (?_ : RR _ _ _ _ 144 _ _ _ _)
    refine R_getr dX11_night_144 flX11_87 cok_11 rfl (by decide) (?_ : RR _ _ _ _ 147 _ _ _ _)
    refine R_iload_n dX11_night_147 rfl (?_ : RR _ _ _ _ 148 _ _ _ _)
    refine R_if_eq (t := 155) dX11_night_148 rfl (fun c148 => ?_) (fun c148 => ?_)
    rotate_left
    · exfalso; omega
    refine R_lconst (z := 0) dX11_night_155 rfl (?_ : RR _ _ _ _ 156 _ _ _ _)
    refine R_cVv1 dX11_night_156 mvX3_add mlX11_243 (by decide) (by decide) (Nat.le_of_ble_eq_true rfl) (Nat.le_of_ble_eq_true rfl) (T_X3_add (n := 0) (by rw [rup_s, fup_s]; rfl) (by omega)) (?_ : RR _ _ _ _ 159 _ _ _ _)
    simp (disch := omega) only [rup_rup, rup_s, rup_n]
    rw [← h7e]
    exact K159
  · refine R_aload_n dX11_night_136 rfl (?_ : RR _ _ _ _ 137 _ _ _ _)
    refine R_getr dX11_night_137 flX11_87 cok_11 rfl (by decide) (?_ : RR _ _ _ _ 140 _ _ _ _)
    refine R_cVv0 dX11_night_140 mvX3_clear mlX11_239 (by decide) (by decide) (Nat.le_of_ble_eq_true rfl) (Nat.le_of_ble_eq_true rfl) (T_X3_clear) (?_ : RR _ _ _ _ 143 _ _ _ _)
    refine R_aload_n dX11_night_143 rfl (?_ : RR _ _ _ _ 144 _ _ _ _)
    refine R_getr dX11_night_144 flX11_87 cok_11 rfl (by decide) (?_ : RR _ _ _ _ 147 _ _ _ _)
    refine R_iload_n dX11_night_147 rfl (?_ : RR _ _ _ _ 148 _ _ _ _)
    refine R_if_eq (t := 155) dX11_night_148 rfl (fun c148 => ?_) (fun c148 => ?_)
    · exfalso; omega
    refine R_lconst (z := 1) dX11_night_151 rfl (?_ : RR _ _ _ _ 152 _ _ _ _)
    refine R_goto (t := 156) dX11_night_152 rfl (?_ : RR _ _ _ _ 156 _ _ _ _)
    refine R_cVv1 dX11_night_156 mvX3_add mlX11_243 (by decide) (by decide) (Nat.le_of_ble_eq_true rfl) (Nat.le_of_ble_eq_true rfl) (T_X3_add (n := 0) (by rw [rup_s, fup_s]; rfl) (by omega)) (?_ : RR _ _ _ _ 159 _ _ _ _)
    simp (disch := omega) only [rup_rup, rup_s, rup_n]
    rw [← h7e]
    exact K159
/-- what the class's night leaves -/
def cNi (X : Cx) (H : Nat) (h : Nat → Int → Int) (x U len D : Nat) (z : Int) (F : Int → Int) (r' : Option PV) (g' : PH) : Prop := ∃ h3 len', g' = (shp0, rf0, h3) ∧ r' = some (pI D) ∧ Cpl X H h3 14 F len' ∧ h3 1 1 = 0 ∧ (h3 145 1 = 2 ∧ h3 146 0 = z ∧ h3 146 1 = (oMn X F : Int) - oMn X (h 154)) ∧
  (∀ a, ¬ (a = 1 ∨ (14 ≤ a ∧ a ≤ 18) ∨ (19 ≤ a ∧ a ≤ 23) ∨ a = 31 ∨ a = 35 ∨ (37 ≤ a ∧ a ≤ 43) ∨ a = 145 ∨ a = 146) → (D = 0 ∨ ¬ (a = 44 ∨ (48 + 5 * x ≤ a ∧ a ≤ 48 + 5 * x + 4))) → h3 a = h a) ∧
  (0 < D → Cpl X H h3 (48 + 5 * x) (h 154) len ∧ h3 44 3 = min 15 (U + 1) ∧ h3 44 4 = ((x + 1) % 15 : Nat))
theorem CNI_113 {x U D len2 : Nat} {z : Int} {w4 w5 : PV} {F : Int → Int} (hz : z = 0 ∨ z = 1) (hD : D ≤ 60) (h6 : xC X ≤ 6) (h12 : xP X ≤ 12) (h11 : h 11 0 = xP X) (hU : h 44 3 = U) (hx : h 44 4 = x) (hx15 : x < 15) (hU15 : U ≤ 15) (f2 : ∀ a, ¬ (a = 1 ∨ (14 ≤ a ∧ a ≤ 18) ∨ (19 ≤ a ∧ a ≤ 23) ∨ a = 31 ∨ a = 35 ∨ (37 ≤ a ∧ a ≤ 43)) → h2 a = h a) (hb : Cpl X H h2 19 (h 154) len) (hc2 : Cpl X H h2 14 F len2) : RR mX11_night 7 0 0 113 [pR 0, pI 0, pI D, pI z, w4, w5] [] (shp0, rf0, h2) (cNi X H h x U len D z F) := by
  have t19 := isTr_19
  obtain ⟨h4, h4e⟩ : ∃ h4, h4 = rup h2 1 (fup (h2 1) 1 0) := ⟨_, rfl⟩
  have f4 : ∀ a, a ≠ 1 → h4 a = h2 a := fun a a1 => by rw [h4e, rup_n a1]
  have e1 : h4 1 1 = 0 := by rw [h4e, rup_s, fup_s]
  have e44 : h4 44 = h 44 := by rw [f4 44 (by omega)]; exact f2 44 (by omega)
  have hb4 : Cpl X H h4 19 (h 154) len := Cpl_fr hb (fun a a1 a2 => f4 a (by omega))
  have hc4 : Cpl X H h4 14 F len2 := Cpl_fr hc2 (fun a a1 a2 => f4 a (by omega))
  by_cases q : D = 0
  · subst q
    have K := CNI_136 (Q := cNi X H h x U len 0 z F) (w4 := w4) (w5 := w5) (D := 0) hz hD h12 (by rw [f4 11 (by omega), f2 11 (by omega)]; exact h11) hc4 hb4 (fun h6 f6 a1 a2 a3 => ⟨h6, len2, rfl, rfl, Cpl_fr hc4 (fun a _ _ => f6 a (by omega) (by omega)), by rw [f6 1 (by omega) (by omega)]; exact e1, ⟨a1, a2, a3⟩, fun a q1 _ => by rw [f6 a (by omega) (by omega), f4 a (by omega)]; exact f2 a (by omega), fun q => by omega⟩)
    have K : RR mX11_night 7 0 0 136 [pR 0, pI 0, pI 0, pI z, w4, w5] [] (shp0, rf0, h4) (cNi X H h x U len 0 z F) := K
    show RR mX11_night 7 0 0 113 [pR 0, pI 0, pI 0, pI z, w4, w5] [] _ _
    clear hb hc2 f2
    refine R_aload_n dX11_night_113 rfl (?_ : RR _ _ _ _ 114 _ _ _ _)
    refine R_getr dX11_night_114 flX11_10 cok_11 rfl (by decide) (?_ : RR _ _ _ _ 117 _ _ _ _)
    refine R_iconst dX11_night_117 (?_ : RR _ _ _ _ 118 _ _ _ _)
    refine R_puti (zk := 1) dX11_night_118 flX11_91 cok_7 (by decide) (fun q hq => by cases hq; rfl) rfl (?_ : RR _ _ _ _ 121 _ _ _ _)
    rw [← h4e]
    refine R_iload_n dX11_night_121 rfl (?_ : RR _ _ _ _ 122 _ _ _ _)
    refine R_if_le (t := 136) dX11_night_122 rfl (fun c122 => ?_) (fun c122 => ?_)
    rotate_left
    · exfalso; omega
    exact K
  · obtain ⟨h5, h5e⟩ : ∃ h5, h5 = rup (trC h4 (48 + 5 * x) 19) 44 (fup (fup (h4 44) 4 (((x + 1) % 15 : Nat) : Int)) 3 (min 15 (U + 1))) := ⟨_, rfl⟩
    have f5 : ∀ a, ¬ (a = 44 ∨ (48 + 5 * x ≤ a ∧ a ≤ 48 + 5 * x + 4)) → h5 a = h4 a := fun a a1 => by rw [h5e, rup_n (by omega), trC_n (by omega)]
    have hb5 : Cpl X H h5 19 (h 154) len := Cpl_fr hb4 (fun a a1 a2 => f5 a (by omega))
    have hc5 : Cpl X H h5 14 F len2 := Cpl_fr hc4 (fun a a1 a2 => f5 a (by omega))
    have hp5 : Cpl X H h5 (48 + 5 * x) (h 154) len := Cpl_fr (Cpl_cp (t := 48 + 5 * x) h6 h12 hb4) (fun a a1 a2 => by rw [h5e, rup_n (by omega)])
    have K := CNI_136 (Q := cNi X H h x U len D z F) (w4 := w4) (w5 := w5) (D := D) hz hD h12 (by rw [f5 11 (by omega), f4 11 (by omega), f2 11 (by omega)]; exact h11) hc5 hb5 (fun h6 f6 a1 a2 a3 => ⟨h6, len2, rfl, rfl, Cpl_fr hc5 (fun a _ _ => f6 a (by omega) (by omega)), by rw [f6 1 (by omega) (by omega), f5 1 (by omega)]; exact e1, ⟨a1, a2, a3⟩, fun a q1 q2 => by rw [f6 a (by omega) (by omega), f5 a (by omega), f4 a (by omega)]; exact f2 a (by omega), fun _ => ⟨Cpl_fr hp5 (fun a _ _ => f6 a (by omega) (by omega)), by rw [f6 44 (by omega) (by omega), h5e, rup_s, fup_s]; omega, by rw [f6 44 (by omega) (by omega), h5e, rup_s, fup_n (by omega), fup_s]⟩⟩)
    have hAd := T_X1_add (h := h4) (t := 19) (x := x) (U := U) (by rw [e44]; exact hx) (by rw [e44]; exact hU) hx15 hU15
    rw [← h5e] at hAd
    clear hb hc2 f2 f5 hb4 hc4 hb5 hc5 hp5 f4
    refine R_aload_n dX11_night_113 rfl (?_ : RR _ _ _ _ 114 _ _ _ _)
    refine R_getr dX11_night_114 flX11_10 cok_11 rfl (by decide) (?_ : RR _ _ _ _ 117 _ _ _ _)
    refine R_iconst dX11_night_117 (?_ : RR _ _ _ _ 118 _ _ _ _)
    refine R_puti (zk := 1) dX11_night_118 flX11_91 cok_7 (by decide) (fun q hq => by cases hq; rfl) rfl (?_ : RR _ _ _ _ 121 _ _ _ _)
    rw [← h4e]
    refine R_iload_n dX11_night_121 rfl (?_ : RR _ _ _ _ 122 _ _ _ _)
    refine R_if_le (t := 136) dX11_night_122 rfl (fun c122 => ?_) (fun c122 => ?_)
    · exfalso; omega
    refine R_aload_n dX11_night_125 rfl (?_ : RR _ _ _ _ 126 _ _ _ _)
    refine R_getr dX11_night_126 flX11_66 cok_11 rfl (by decide) (?_ : RR _ _ _ _ 129 _ _ _ _)
    refine R_aload_n dX11_night_129 rfl (?_ : RR _ _ _ _ 130 _ _ _ _)
    refine R_getr dX11_night_130 flX11_40 cok_11 rfl (by decide) (?_ : RR _ _ _ _ 133 _ _ _ _)
    refine R_cVv1 dX11_night_133 mvX1_add mlX11_237 (by decide) (by decide) (Nat.le_of_ble_eq_true rfl) (Nat.le_of_ble_eq_true rfl) (hAd) (?_ : RR _ _ _ _ 136 _ _ _ _)
    exact K
theorem CNI_49 {Q : Option PV → PH → Prop} {K D : Nat} (hX : xOK X H) (hC : CO X H h 3 14 29) (hf : okF X H f) (hnow : f 1 ≤ 1000000000) (hσ : ∀ p : Int, 0 ≤ p → signAt h p = σ p) (hσb : ∀ p : Int, -1 ≤ σ p ∧ σ p ≤ 255) (h1n : h 1 1 = n) (hn60 : n ≤ 60) (hK : K ≤ n) (g1 : ∀ j, j < K → (naR σ j).2 = true ∧ (naR σ j).1 < n) (g2 : (naR σ K).2 = true ∧ (naR σ K).1 = n) (hD : D ≤ K) (d1 : ∀ j, j < D → 0 ≤ (naA X σ (niS X σ f j) (naR σ j).1).1) (d2 : D = K ∨ (D < K ∧ (naA X σ (niS X σ f D) (naR σ D).1).1 < 0))
    (K113 : ∀ (h2 : Nat → Int → Int) (len2 : Nat) (w4 w5 : PV), aFr h h2 → Cpl X H h2 14 (niS X σ f (if D = K then D else D + 1)) len2 → RR mX11_night 7 0 0 113 [pR 0, pI 0, pI D, pI (if D = K then 0 else 1), w4, w5] [] (shp0, rf0, h2) Q) : ∀ (m k : Nat) (h1 : Nat → Int → Int) (len1 : Nat), k + m = D → aFr h h1 → Cpl X H h1 14 (niS X σ f k) len1 → RR mX11_night 7 0 0 49 [pR 0, pI 0, pI k, pI 0, pI (naR σ k).1, pI k] [] (shp0, rf0, h1) Q := by
  have gk : ∀ j, j < K → (naR σ (j + 1)).2 = true := fun j hj => by
    by_cases z : j + 1 < K
    · exact (g1 (j + 1) z).1
    · rw [show j + 1 = K by omega]; exact g2.1
  have gn : ∀ j, j ≤ K → (naR σ j).1 ≤ n := fun j hj => by
    by_cases z : j < K
    · have := (g1 j z).2; omega
    · rw [show j = K by omega, g2.2]; omega
  have st : ∀ (k : Nat) (h1 : Nat → Int → Int) (len1 : Nat), k < K → aFr h h1 → Cpl X H h1 14 (niS X σ f k) len1 → RR mX11_doAct 6 0 0 0 (pm_ent [pR 0, pI (naR σ k).1] 2) [] (shp0, rf0, h1) (aPo X H h1 (naA X σ (niS X σ f k) (naR σ k).1)) := fun k h1 len1 hk hf1 hc1 => by
    have hp := niS_p (σ := σ) hX hf (K := K) gk k (by omega)
    refine C_doAct hX (CO_f hC (fun a q => hf1 a (by omega))) hc1 (by omega) (fun p p0 => ?_) hσb (by have := gn k (by omega); omega) (gk k hk)
    rw [← hσ p p0]
    unfold signAt
    rw [hf1 1 (by omega), hf1 2 (by omega)]
  have wr : ∀ k, k < K → r32 (naA X σ (niS X σ f k) (naR σ k).1).1 := fun k hk => by
    have hp := niS_p (σ := σ) hX hf (K := K) gk k (by omega)
    exact naA_r hX hp.1 (by omega)
  have ae : ∀ (k : Nat) (h2 : Nat → Int → Int), k < K → aFr h h2 → MT mX11_actEnd 4 [pR 0, pI (naR σ k).1] h2 (some (pI ((naR σ (k + 1)).1 : Nat))) h2 := fun k h2 hk hf2 => by
    have hT := T_X11_actEnd (h := h2) (σ := σ) (p := (naR σ k).1) (fun p p0 => by
      rw [← hσ p p0]
      unfold signAt
      rw [hf2 1 (by omega), hf2 2 (by omega)]) hσb (by have := gn k (by omega); omega)
    rw [show naE σ (naR σ k).1 = naR σ (k + 1) from rfl, show naZ (naR σ (k + 1)) = ((naR σ (k + 1)).1 : Int) from if_pos (gk k hk)] at hT
    exact hT
  have tr : ∀ (h1 h2 : Nat → Int → Int), aFr h h1 → aFr h1 h2 → aFr h h2 := fun h1 h2 a b x q => (b x q).trans (a x q)
  intro m
  induction m with
  | zero =>
    intro k h1 len1 hk hf1 hc1
    obtain rfl : k = D := by omega
    have g1n : h1 1 1 = n := by rw [hf1 1 (by omega)]; exact h1n
    rcases d2 with d2 | ⟨d2, d3⟩
    · subst d2
      rw [if_pos rfl, if_pos rfl] at K113
      have KK := K113 h1 len1 (pI n) (pI k) hf1 hc1
      rw [g2.2]
      clear K113 st wr ae d1
      by_cases q : k < 60
      · refine R_iload dX11_night_49 rfl (?_ : RR _ _ _ _ 51 _ _ _ _)
        refine R_bipush dX11_night_51 rfl (?_ : RR _ _ _ _ 53 _ _ _ _)
        refine R_icmp_ge (t := 113) dX11_night_53 rfl (fun c53 => ?_) (fun c53 => ?_)
        · exfalso; omega
        refine R_iload dX11_night_56 rfl (?_ : RR _ _ _ _ 58 _ _ _ _)
        refine R_aload_n dX11_night_58 rfl (?_ : RR _ _ _ _ 59 _ _ _ _)
        refine R_getr dX11_night_59 flX11_10 cok_11 rfl (by decide) (?_ : RR _ _ _ _ 62 _ _ _ _)
        refine R_geti (z := 1) dX11_night_62 flX11_91 cok_7 rfl (by decide) rfl (fun q62 => (?_ : RR _ _ _ _ 65 _ _ _ _))
        rw [g1n] at q62 ⊢
        refine R_icmp_ge (t := 113) dX11_night_65 rfl (fun c65 => ?_) (fun c65 => ?_)
        rotate_left
        · exfalso; omega
        exact KK
      · refine R_iload dX11_night_49 rfl (?_ : RR _ _ _ _ 51 _ _ _ _)
        refine R_bipush dX11_night_51 rfl (?_ : RR _ _ _ _ 53 _ _ _ _)
        refine R_icmp_ge (t := 113) dX11_night_53 rfl (fun c53 => ?_) (fun c53 => ?_)
        rotate_left
        · exfalso; omega
        exact KK
    · rw [if_neg (by omega), if_neg (by omega)] at K113
      have hT := st k h1 len1 d2 hf1 hc1
      have hw := wr k d2
      have hl := (g1 k d2).2
      have KK : ∀ (h2 : Nat → Int → Int) (len2 : Nat), aFr h h2 → Cpl X H h2 14 (niS X σ f (k + 1)) len2 → MT mX11_actEnd 4 [pR 0, pI (naR σ k).1] h2 (some (pI ((naR σ (k + 1)).1 : Nat))) h2 ∧ RR mX11_night 7 0 0 113 [pR 0, pI 0, pI k, pI 1, pI ((naR σ (k + 1)).1 : Nat), pI ((k : Int) + 1)] [] (shp0, rf0, h2) Q ∧ h2 1 1 = n := fun h2 len2 a b => ⟨ae k h2 d2 a, K113 h2 len2 _ _ a b, by rw [a 1 (by omega)]; exact h1n⟩
      have hb1 := gn (k + 1) (by omega)
      have e2 : (naA X σ (niS X σ f k) (naR σ k).1).2 = niS X σ f (k + 1) := rfl
      clear K113 st wr ae d1 g1 gk gn
      generalize naA X σ (niS X σ f k) (naR σ k).1 = w at *
      generalize naR σ (k + 1) = x1 at *
      generalize naR σ k = x0 at *
      have K78 : ∀ (h2 : Nat → Int → Int) (len2 : Nat), aFr h h2 → Cpl X H h2 14 (niS X σ f (k + 1)) len2 → RR mX11_night 7 0 0 78 [pR 0, pI 0, pI k, pI 0, pI x0.1, pI k] [pI w.1] (shp0, rf0, h2) Q := by
        intro h2 len2 a1 a2
        obtain ⟨hE, hF, g2n⟩ := KK h2 len2 a1 a2
        clear KK a2 a1
        by_cases q6 : k + 1 < 60
        · by_cases q7 : x1.1 < n
          · refine R_if_ge (t := 85) dX11_night_78 rfl (fun c78 => ?_) (fun c78 => ?_)
            · exfalso; omega
            refine R_iconst dX11_night_81 (?_ : RR _ _ _ _ 82 _ _ _ _)
            refine R_goto (t := 86) dX11_night_82 rfl (?_ : RR _ _ _ _ 86 _ _ _ _)
            refine R_istore_n dX11_night_86 (Nat.le_of_ble_eq_true rfl) (?_ : RR _ _ _ _ 87 [_, _, _, _, _, _] _ _ _)
            refine R_iload_n dX11_night_87 rfl (?_ : RR _ _ _ _ 88 _ _ _ _)
            refine R_iload_n dX11_night_88 rfl (?_ : RR _ _ _ _ 89 _ _ _ _)
            refine R_if_eq (t := 96) dX11_night_89 rfl (fun c89 => ?_) (fun c89 => ?_)
            · exfalso; omega
            refine R_iconst dX11_night_92 (?_ : RR _ _ _ _ 93 _ _ _ _)
            refine R_goto (t := 97) dX11_night_93 rfl (?_ : RR _ _ _ _ 97 _ _ _ _)
            refine R_iadd dX11_night_97 (?_ : RR _ _ _ _ 98 _ _ _ _)
            rw [Int.add_zero]
            refine R_istore_n dX11_night_98 (Nat.le_of_ble_eq_true rfl) (?_ : RR _ _ _ _ 99 [_, _, _, _, _, _] _ _ _)
            refine R_aload_n dX11_night_99 rfl (?_ : RR _ _ _ _ 100 _ _ _ _)
            refine R_iload dX11_night_100 rfl (?_ : RR _ _ _ _ 102 _ _ _ _)
            refine R_cVi1 dX11_night_102 mvX11_actEnd mlX11_278 (by decide) (by decide) (Nat.le_of_ble_eq_true rfl) (Nat.le_of_ble_eq_true rfl) (hE) (?_ : RR _ _ _ _ 105 _ _ _ _)
            refine R_istore dX11_night_105 (Nat.le_of_ble_eq_true rfl) (?_ : RR _ _ _ _ 107 [_, _, _, _, _, _] _ _ _)
            refine R_iinc dX11_night_107 rfl (Nat.le_of_ble_eq_true rfl) (?_ : RR _ _ _ _ 110 [_, _, _, _, _, _] _ _ _)
            refine R_goto (t := 49) dX11_night_110 rfl (?_ : RR _ _ _ _ 49 _ _ _ _)
            refine R_iload dX11_night_49 rfl (?_ : RR _ _ _ _ 51 _ _ _ _)
            refine R_bipush dX11_night_51 rfl (?_ : RR _ _ _ _ 53 _ _ _ _)
            refine R_icmp_ge (t := 113) dX11_night_53 rfl (fun c53 => ?_) (fun c53 => ?_)
            · exfalso; omega
            refine R_iload dX11_night_56 rfl (?_ : RR _ _ _ _ 58 _ _ _ _)
            refine R_aload_n dX11_night_58 rfl (?_ : RR _ _ _ _ 59 _ _ _ _)
            refine R_getr dX11_night_59 flX11_10 cok_11 rfl (by decide) (?_ : RR _ _ _ _ 62 _ _ _ _)
            refine R_geti (z := 1) dX11_night_62 flX11_91 cok_7 rfl (by decide) rfl (fun q62 => (?_ : RR _ _ _ _ 65 _ _ _ _))
            rw [g2n] at q62 ⊢
            refine R_icmp_ge (t := 113) dX11_night_65 rfl (fun c65 => ?_) (fun c65 => ?_)
            · exfalso; omega
            refine R_iload_n dX11_night_68 rfl (?_ : RR _ _ _ _ 69 _ _ _ _)
            refine R_if_ne (t := 113) dX11_night_69 rfl (fun c69 => ?_) (fun c69 => ?_)
            rotate_left
            · exfalso; omega
            exact hF
          · refine R_if_ge (t := 85) dX11_night_78 rfl (fun c78 => ?_) (fun c78 => ?_)
            · exfalso; omega
            refine R_iconst dX11_night_81 (?_ : RR _ _ _ _ 82 _ _ _ _)
            refine R_goto (t := 86) dX11_night_82 rfl (?_ : RR _ _ _ _ 86 _ _ _ _)
            refine R_istore_n dX11_night_86 (Nat.le_of_ble_eq_true rfl) (?_ : RR _ _ _ _ 87 [_, _, _, _, _, _] _ _ _)
            refine R_iload_n dX11_night_87 rfl (?_ : RR _ _ _ _ 88 _ _ _ _)
            refine R_iload_n dX11_night_88 rfl (?_ : RR _ _ _ _ 89 _ _ _ _)
            refine R_if_eq (t := 96) dX11_night_89 rfl (fun c89 => ?_) (fun c89 => ?_)
            · exfalso; omega
            refine R_iconst dX11_night_92 (?_ : RR _ _ _ _ 93 _ _ _ _)
            refine R_goto (t := 97) dX11_night_93 rfl (?_ : RR _ _ _ _ 97 _ _ _ _)
            refine R_iadd dX11_night_97 (?_ : RR _ _ _ _ 98 _ _ _ _)
            rw [Int.add_zero]
            refine R_istore_n dX11_night_98 (Nat.le_of_ble_eq_true rfl) (?_ : RR _ _ _ _ 99 [_, _, _, _, _, _] _ _ _)
            refine R_aload_n dX11_night_99 rfl (?_ : RR _ _ _ _ 100 _ _ _ _)
            refine R_iload dX11_night_100 rfl (?_ : RR _ _ _ _ 102 _ _ _ _)
            refine R_cVi1 dX11_night_102 mvX11_actEnd mlX11_278 (by decide) (by decide) (Nat.le_of_ble_eq_true rfl) (Nat.le_of_ble_eq_true rfl) (hE) (?_ : RR _ _ _ _ 105 _ _ _ _)
            refine R_istore dX11_night_105 (Nat.le_of_ble_eq_true rfl) (?_ : RR _ _ _ _ 107 [_, _, _, _, _, _] _ _ _)
            refine R_iinc dX11_night_107 rfl (Nat.le_of_ble_eq_true rfl) (?_ : RR _ _ _ _ 110 [_, _, _, _, _, _] _ _ _)
            refine R_goto (t := 49) dX11_night_110 rfl (?_ : RR _ _ _ _ 49 _ _ _ _)
            refine R_iload dX11_night_49 rfl (?_ : RR _ _ _ _ 51 _ _ _ _)
            refine R_bipush dX11_night_51 rfl (?_ : RR _ _ _ _ 53 _ _ _ _)
            refine R_icmp_ge (t := 113) dX11_night_53 rfl (fun c53 => ?_) (fun c53 => ?_)
            · exfalso; omega
            refine R_iload dX11_night_56 rfl (?_ : RR _ _ _ _ 58 _ _ _ _)
            refine R_aload_n dX11_night_58 rfl (?_ : RR _ _ _ _ 59 _ _ _ _)
            refine R_getr dX11_night_59 flX11_10 cok_11 rfl (by decide) (?_ : RR _ _ _ _ 62 _ _ _ _)
            refine R_geti (z := 1) dX11_night_62 flX11_91 cok_7 rfl (by decide) rfl (fun q62 => (?_ : RR _ _ _ _ 65 _ _ _ _))
            rw [g2n] at q62 ⊢
            refine R_icmp_ge (t := 113) dX11_night_65 rfl (fun c65 => ?_) (fun c65 => ?_)
            rotate_left
            · exfalso; omega
            exact hF
        · refine R_if_ge (t := 85) dX11_night_78 rfl (fun c78 => ?_) (fun c78 => ?_)
          · exfalso; omega
          refine R_iconst dX11_night_81 (?_ : RR _ _ _ _ 82 _ _ _ _)
          refine R_goto (t := 86) dX11_night_82 rfl (?_ : RR _ _ _ _ 86 _ _ _ _)
          refine R_istore_n dX11_night_86 (Nat.le_of_ble_eq_true rfl) (?_ : RR _ _ _ _ 87 [_, _, _, _, _, _] _ _ _)
          refine R_iload_n dX11_night_87 rfl (?_ : RR _ _ _ _ 88 _ _ _ _)
          refine R_iload_n dX11_night_88 rfl (?_ : RR _ _ _ _ 89 _ _ _ _)
          refine R_if_eq (t := 96) dX11_night_89 rfl (fun c89 => ?_) (fun c89 => ?_)
          · exfalso; omega
          refine R_iconst dX11_night_92 (?_ : RR _ _ _ _ 93 _ _ _ _)
          refine R_goto (t := 97) dX11_night_93 rfl (?_ : RR _ _ _ _ 97 _ _ _ _)
          refine R_iadd dX11_night_97 (?_ : RR _ _ _ _ 98 _ _ _ _)
          rw [Int.add_zero]
          refine R_istore_n dX11_night_98 (Nat.le_of_ble_eq_true rfl) (?_ : RR _ _ _ _ 99 [_, _, _, _, _, _] _ _ _)
          refine R_aload_n dX11_night_99 rfl (?_ : RR _ _ _ _ 100 _ _ _ _)
          refine R_iload dX11_night_100 rfl (?_ : RR _ _ _ _ 102 _ _ _ _)
          refine R_cVi1 dX11_night_102 mvX11_actEnd mlX11_278 (by decide) (by decide) (Nat.le_of_ble_eq_true rfl) (Nat.le_of_ble_eq_true rfl) (hE) (?_ : RR _ _ _ _ 105 _ _ _ _)
          refine R_istore dX11_night_105 (Nat.le_of_ble_eq_true rfl) (?_ : RR _ _ _ _ 107 [_, _, _, _, _, _] _ _ _)
          refine R_iinc dX11_night_107 rfl (Nat.le_of_ble_eq_true rfl) (?_ : RR _ _ _ _ 110 [_, _, _, _, _, _] _ _ _)
          refine R_goto (t := 49) dX11_night_110 rfl (?_ : RR _ _ _ _ 49 _ _ _ _)
          refine R_iload dX11_night_49 rfl (?_ : RR _ _ _ _ 51 _ _ _ _)
          refine R_bipush dX11_night_51 rfl (?_ : RR _ _ _ _ 53 _ _ _ _)
          refine R_icmp_ge (t := 113) dX11_night_53 rfl (fun c53 => ?_) (fun c53 => ?_)
          rotate_left
          · exfalso; omega
          exact hF
      clear KK
      refine R_iload dX11_night_49 rfl (?_ : RR _ _ _ _ 51 _ _ _ _)
      refine R_bipush dX11_night_51 rfl (?_ : RR _ _ _ _ 53 _ _ _ _)
      refine R_icmp_ge (t := 113) dX11_night_53 rfl (fun c53 => ?_) (fun c53 => ?_)
      · exfalso; omega
      refine R_iload dX11_night_56 rfl (?_ : RR _ _ _ _ 58 _ _ _ _)
      refine R_aload_n dX11_night_58 rfl (?_ : RR _ _ _ _ 59 _ _ _ _)
      refine R_getr dX11_night_59 flX11_10 cok_11 rfl (by decide) (?_ : RR _ _ _ _ 62 _ _ _ _)
      refine R_geti (z := 1) dX11_night_62 flX11_91 cok_7 rfl (by decide) rfl (fun q62 => (?_ : RR _ _ _ _ 65 _ _ _ _))
      rw [g1n] at q62 ⊢
      refine R_icmp_ge (t := 113) dX11_night_65 rfl (fun c65 => ?_) (fun c65 => ?_)
      · exfalso; omega
      refine R_iload_n dX11_night_68 rfl (?_ : RR _ _ _ _ 69 _ _ _ _)
      refine R_if_ne (t := 113) dX11_night_69 rfl (fun c69 => ?_) (fun c69 => ?_)
      · exfalso; omega
      refine R_aload_n dX11_night_72 rfl (?_ : RR _ _ _ _ 73 _ _ _ _)
      refine R_iload dX11_night_73 rfl (?_ : RR _ _ _ _ 75 _ _ _ _)
      refine R_qV1 dX11_night_75 mvX11_doAct mlX11_275 (by decide) (by decide) (Nat.le_of_ble_eq_true rfl) (Nat.le_of_ble_eq_true rfl) (hT) (fun r9 g9 hq9 => (?_ : RR _ _ _ _ 78 _ _ _ _))
      obtain ⟨h2, len2, rfl, a1, rfl, a2⟩ := hq9
      rw [e2] at a2
      have a3 := tr _ _ hf1 a1
      show RR _ _ _ _ _ _ [pI w.1] _ _
      exact K78 h2 len2 a3 a2
  | succ m ih =>
    intro k h1 len1 hk hf1 hc1
    have hkK : k < K := by omega
    have g1n : h1 1 1 = n := by rw [hf1 1 (by omega)]; exact h1n
    have hT := st k h1 len1 hkK hf1 hc1
    have hw := wr k hkK
    have hl := (g1 k hkK).2
    have hb1 := gn (k + 1) (by omega)
    have hpos := d1 k (by omega)
    have IH := ih (k + 1)
    have KK : ∀ (h2 : Nat → Int → Int) (len2 : Nat), aFr h h2 → Cpl X H h2 14 (niS X σ f (k + 1)) len2 → MT mX11_actEnd 4 [pR 0, pI (naR σ k).1] h2 (some (pI ((naR σ (k + 1)).1 : Nat))) h2 ∧ RR mX11_night 7 0 0 49 [pR 0, pI 0, pI ((k : Int) + 1), pI 0, pI ((naR σ (k + 1)).1 : Nat), pI ((k : Int) + 1)] [] (shp0, rf0, h2) Q := fun h2 len2 a b => ⟨ae k h2 hkK a, IH h2 len2 (by omega) a b⟩
    have e2 : (naA X σ (niS X σ f k) (naR σ k).1).2 = niS X σ f (k + 1) := rfl
    clear K113 st wr ae d1 g1 gk gn ih IH
    generalize naA X σ (niS X σ f k) (naR σ k).1 = w at *
    generalize naR σ (k + 1) = x1 at *
    generalize naR σ k = x0 at *
    have K78 : ∀ (h2 : Nat → Int → Int) (len2 : Nat), aFr h h2 → Cpl X H h2 14 (niS X σ f (k + 1)) len2 → RR mX11_night 7 0 0 78 [pR 0, pI 0, pI k, pI 0, pI x0.1, pI k] [pI w.1] (shp0, rf0, h2) Q := by
      intro h2 len2 a1 a2
      obtain ⟨hE, hF⟩ := KK h2 len2 a1 a2
      clear KK a2 a1
      refine R_if_ge (t := 85) dX11_night_78 rfl (fun c78 => ?_) (fun c78 => ?_)
      rotate_left
      · exfalso; omega
      refine R_iconst dX11_night_85 (?_ : RR _ _ _ _ 86 _ _ _ _)
      refine R_istore_n dX11_night_86 (Nat.le_of_ble_eq_true rfl) (?_ : RR _ _ _ _ 87 [_, _, _, _, _, _] _ _ _)
      refine R_iload_n dX11_night_87 rfl (?_ : RR _ _ _ _ 88 _ _ _ _)
      refine R_iload_n dX11_night_88 rfl (?_ : RR _ _ _ _ 89 _ _ _ _)
      refine R_if_eq (t := 96) dX11_night_89 rfl (fun c89 => ?_) (fun c89 => ?_)
      rotate_left
      · exfalso; omega
      refine R_iconst dX11_night_96 (?_ : RR _ _ _ _ 97 _ _ _ _)
      refine R_iadd dX11_night_97 (?_ : RR _ _ _ _ 98 _ _ _ _)
      refine R_istore_n dX11_night_98 (Nat.le_of_ble_eq_true rfl) (?_ : RR _ _ _ _ 99 [_, _, _, _, _, _] _ _ _)
      refine R_aload_n dX11_night_99 rfl (?_ : RR _ _ _ _ 100 _ _ _ _)
      refine R_iload dX11_night_100 rfl (?_ : RR _ _ _ _ 102 _ _ _ _)
      refine R_cVi1 dX11_night_102 mvX11_actEnd mlX11_278 (by decide) (by decide) (Nat.le_of_ble_eq_true rfl) (Nat.le_of_ble_eq_true rfl) (hE) (?_ : RR _ _ _ _ 105 _ _ _ _)
      refine R_istore dX11_night_105 (Nat.le_of_ble_eq_true rfl) (?_ : RR _ _ _ _ 107 [_, _, _, _, _, _] _ _ _)
      refine R_iinc dX11_night_107 rfl (Nat.le_of_ble_eq_true rfl) (?_ : RR _ _ _ _ 110 [_, _, _, _, _, _] _ _ _)
      refine R_goto (t := 49) dX11_night_110 rfl (?_ : RR _ _ _ _ 49 _ _ _ _)
      exact hF
    clear KK
    refine R_iload dX11_night_49 rfl (?_ : RR _ _ _ _ 51 _ _ _ _)
    refine R_bipush dX11_night_51 rfl (?_ : RR _ _ _ _ 53 _ _ _ _)
    refine R_icmp_ge (t := 113) dX11_night_53 rfl (fun c53 => ?_) (fun c53 => ?_)
    · exfalso; omega
    refine R_iload dX11_night_56 rfl (?_ : RR _ _ _ _ 58 _ _ _ _)
    refine R_aload_n dX11_night_58 rfl (?_ : RR _ _ _ _ 59 _ _ _ _)
    refine R_getr dX11_night_59 flX11_10 cok_11 rfl (by decide) (?_ : RR _ _ _ _ 62 _ _ _ _)
    refine R_geti (z := 1) dX11_night_62 flX11_91 cok_7 rfl (by decide) rfl (fun q62 => (?_ : RR _ _ _ _ 65 _ _ _ _))
    rw [g1n] at q62 ⊢
    refine R_icmp_ge (t := 113) dX11_night_65 rfl (fun c65 => ?_) (fun c65 => ?_)
    · exfalso; omega
    refine R_iload_n dX11_night_68 rfl (?_ : RR _ _ _ _ 69 _ _ _ _)
    refine R_if_ne (t := 113) dX11_night_69 rfl (fun c69 => ?_) (fun c69 => ?_)
    · exfalso; omega
    refine R_aload_n dX11_night_72 rfl (?_ : RR _ _ _ _ 73 _ _ _ _)
    refine R_iload dX11_night_73 rfl (?_ : RR _ _ _ _ 75 _ _ _ _)
    refine R_qV1 dX11_night_75 mvX11_doAct mlX11_275 (by decide) (by decide) (Nat.le_of_ble_eq_true rfl) (Nat.le_of_ble_eq_true rfl) (hT) (fun r9 g9 hq9 => (?_ : RR _ _ _ _ 78 _ _ _ _))
    obtain ⟨h2, len2, rfl, a1, rfl, a2⟩ := hq9
    rw [e2] at a2
    have a3 := tr _ _ hf1 a1
    show RR _ _ _ _ _ _ [pI w.1] _ _
    exact K78 h2 len2 a3 a2
end NI5
