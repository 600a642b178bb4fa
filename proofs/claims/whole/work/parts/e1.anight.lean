section NI8
variable {k : Nat} {h h1 h2 h3 h4 hb : Nat → Int → Int} {sem : Sem} {H np nc len n b i U D K x : Nat} {σ : Int → Int} {X : Cx} {f : Int → Int}
theorem SR_night {z : Int} {F : Int → Int} {r1 r2 : Option PV} (hs : SRx k h sem H np nc len) (hU : h 44 3 = U) (hx : h 44 4 = x) (hx15 : x < 15) (hc : cNi (cxM sem h np nc) H h x U len D z F r1 (shp0, rf0, h3)) (hm : mNi h3 U D z ((oMn (cxM sem h np nc) F : Int) - oMn (cxM sem h np nc) (h 154)) F r2 (shp0, rf0, h4)) (hN : F 1 ≤ 600 * (k + 1 : Nat)) (hO : oor F (h 154)) : SR (k + 1) h4 := by
  obtain ⟨h3', len', e3, -, c1, c2, ⟨c3, c4, c5⟩, c6, c7⟩ := hc
  obtain rfl : h3 = h3' := (Prod.mk.inj (Prod.mk.inj e3).2).2
  obtain ⟨h4', e4, -, m1, ⟨m2, m3, m4⟩, m5, m6, m7, m8, m9, m10⟩ := hm
  obtain rfl : h4 = h4' := (Prod.mk.inj (Prod.mk.inj e4).2).2
  obtain ⟨s1, s2, s3, s4, s5, s6⟩ := id hs
  obtain ⟨U', x', u4, u5, u6, u7, u8, u9⟩ := SU_un s4
  have eU : U' = U := by rw [hU] at u4; omega
  have ex : x' = x := by rw [hx] at u7; omega
  subst eU
  subst ex
  have e147 : h3 147 = h 147 := c6 147 (by omega) (by omega)
  have e154 : h3 154 = h 154 := c6 154 (by omega) (by omega)
  have e163 : h3 163 = h 163 := c6 163 (by omega) (by omega)
  have fr : ∀ a, ¬ (a = 1 ∨ (14 ≤ a ∧ a ≤ 18) ∨ (19 ≤ a ∧ a ≤ 23) ∨ a = 31 ∨ a = 35 ∨ (37 ≤ a ∧ a ≤ 43) ∨ a = 145 ∨ a = 146) → ¬ (a = 44 ∨ (48 ≤ a ∧ a ≤ 122)) → a ≠ 147 → a ≠ 148 → a ≠ 154 → ¬ (160 ≤ a ∧ a ≤ 166) → h4 a = h a := fun a q1 q2 a1 a2 a3 a4 => (m5 a a1 a2 a3 a4).trans (c6 a q1 (Or.inr (by omega)))
  have fj : ∀ j : Int, j ≠ 0 → j ≠ 1 → j ≠ 15 → j ≠ 16 → j ≠ 17 → j ≠ 18 → j ≠ 28 → j ≠ 30 → j ≠ 34 → h4 147 j = h 147 j := fun j j1 j2 j3 j4 j5 j6 j7 j8 j9 => by rw [m6 j j1 j2 j3 j4 j5 j6 j7 j8 j9, e147]
  have hF : gF (fun a => (14 ≤ a ∧ a ≤ 18) ∨ a = 44 ∨ (48 ≤ a ∧ a ≤ 122) ∨ a = 154 ∨ a = 163 ∨ a = 1028 ∨ a = 1 ∨ a = 2 ∨ a = 156 ∨ a = 1015) h h4 := ⟨fun a q1 q2 => fr a (by omega) (by omega) (by omega) (by omega) (by omega) (by omega), fun j q1 q2 => fj j (by omega) (by omega) (by omega) (by omega) (by omega) (by omega) (by omega) (by omega) (by omega), fun _ => m8, fun j q => by rw [fr 155 (by omega) (by omega) (by omega) (by omega) (by omega) (by omega)]⟩
  refine SR_a hs hF ⟨0, by rw [m5 1 (by omega) (by omega) (by omega) (by omega)]; exact c2, m7, by omega, fun i hi => by omega⟩ ⟨2, by rw [m5 145 (by omega) (by omega) (by omega) (by omega)]; exact c3, m2, by omega, fun i hi => ?_⟩ (len2 := len') ?_ ?_ ?_ ?_
  · rw [m5 146 (by omega) (by omega) (by omega) (by omega)]
    have : i = 0 ∨ i = 1 := by omega
    rcases this with rfl | rfl
    · exact c4.trans m3.symm
    · exact c5.trans m4.symm
  · rw [m1]
    exact Cpl_fr c1 (fun a a1 a2 => m5 a (by omega) (by omega) (by omega) (by omega))
  · rw [m1]; exact hN
  · rw [m1, fr 155 (by omega) (by omega) (by omega) (by omega) (by omega) (by omega)]
    exact fun j q => (s4.2.2.1 j q).trans (hO j q).symm
  · by_cases q : D = 0
    · obtain ⟨n1, n2⟩ := m9 q
      rw [e147] at n1
      rw [e154, e163] at n2
      exact SUn_put (sR6 hs) (sR12 hs) (Nat.le_succ k) (SU_un s4) u5 (fun a ha => (m5 a (by omega) (by omega) (by omega) (by omega)).trans (c6 a (by omega) (Or.inl q))) n1 (Or.inl n2)
    · obtain ⟨n1, n2⟩ := m10 (by omega)
      obtain ⟨k1, k2, k3⟩ := c7 (by omega)
      rw [e154, e163] at n2
      have hn := s4.2.1
      refine SUn_add (f := h 154) (len := len) (sR6 hs) (sR12 hs) u4 u6 u7 u8 u9 (Cpl_fr k1 (fun a a1 a2 => m5 a (by omega) (by omega) (by omega) (by omega))) hn ?_ ?_ (by rw [n1]) (fun a a1 a2 a3 => (m5 a (by omega) (by omega) (by omega) (by omega)).trans (c6 a (by omega) (Or.inr (by omega)))) n2
      · rw [m5 44 (by omega) (by omega) (by omega) (by omega)]; exact k2
      · rw [m5 44 (by omega) (by omega) (by omega) (by omega)]; exact k3
theorem SR_night_no (hs : SRx k h sem H np nc len) (c1 : ∀ a, a ≠ 1 → h3 a = h a) (c2 : h3 1 1 = 0) (f1 : nrd h3 h4) : SR (k + 1) h4 :=
  SR_t hs ⟨fun a q1 q2 => by rw [f1.1 a (by omega) (by omega) (by omega) (by omega)]; exact c1 a (by omega), fun j q1 q2 => by rw [f1.2.1 j (by omega) (by omega) (by omega) (by omega) (by omega) (by omega), c1 147 (by omega)], fun q => by rw [f1.2.1 30 (by omega) (by omega) (by omega) (by omega) (by omega) (by omega), c1 147 (by omega)]; exact q, fun j q => by rw [f1.1 155 (by omega) (by omega) (by omega) (by omega), c1 155 (by omega)]⟩ ⟨0, by rw [f1.1 1 (by omega) (by omega) (by omega) (by omega)]; exact c2, f1.2.2, by omega, fun i hi => by omega⟩ (SD_same hs.2.2.1 (by rw [f1.1 145 (by omega) (by omega) (by omega) (by omega), c1 145 (by omega)]) (by rw [f1.2.1 1 (by omega) (by omega) (by omega) (by omega) (by omega) (by omega), c1 147 (by omega)]) (by rw [f1.1 146 (by omega) (by omega) (by omega) (by omega), c1 146 (by omega)]) (by rw [f1.1 148 (by omega) (by omega) (by omega) (by omega), c1 148 (by omega)]))
theorem C_night_no {r : Int} {h9 : Nat → Int → Int} (h1n : h 1 1 = n) (hn80 : n ≤ 80) (hr : r < 0) (hrb : -1000 ≤ r) (h9e : h9 = rup h 1 (fup (h 1) 2 (min (n : Int) 60))) (hck : MT mX11_checkNight 5 [pR 0] h9 (some (pI r)) h9) : MT mX11_night 7 [pR 0] h (some (pI r)) (rup h9 1 (fup (h9 1) 1 0)) := by
  refine MT.of (fun Q hQ => (?_ : RR mX11_night _ _ _ _ [pR 0, pU, pU, pU, pU, pU] _ _ _))
  have hb := T_X7_boundBy (h := h) (m := 60)
  rw [h1n, ← h9e] at hb
  clear h9e
  refine R_aload_n dX11_night_0 rfl (?_ : RR _ _ _ _ 1 _ _ _ _)
  refine R_getr dX11_night_1 flX11_10 cok_11 rfl (by decide) (?_ : RR _ _ _ _ 4 _ _ _ _)
  refine R_bipush dX11_night_4 rfl (?_ : RR _ _ _ _ 6 _ _ _ _)
  refine R_cVv1 dX11_night_6 mvX7_boundBy mlX11_99 (by decide) (by decide) (Nat.le_of_ble_eq_true rfl) (Nat.le_of_ble_eq_true rfl) (hb) (?_ : RR _ _ _ _ 9 _ _ _ _)
  refine R_aload_n dX11_night_9 rfl (?_ : RR _ _ _ _ 10 _ _ _ _)
  refine R_cVi0 dX11_night_10 mvX11_checkNight mlX11_272 (by decide) (by decide) (Nat.le_of_ble_eq_true rfl) (Nat.le_of_ble_eq_true rfl) (hck) (?_ : RR _ _ _ _ 13 _ _ _ _)
  refine R_istore_n dX11_night_13 (Nat.le_of_ble_eq_true rfl) (?_ : RR _ _ _ _ 14 [_, _, _, _, _, _] _ _ _)
  refine R_iload_n dX11_night_14 rfl (?_ : RR _ _ _ _ 15 _ _ _ _)
  refine R_if_ge (t := 28) dX11_night_15 rfl (fun c15 => ?_) (fun c15 => ?_)
  · exfalso; omega
  refine R_aload_n dX11_night_18 rfl (?_ : RR _ _ _ _ 19 _ _ _ _)
  refine R_getr dX11_night_19 flX11_10 cok_11 rfl (by decide) (?_ : RR _ _ _ _ 22 _ _ _ _)
  refine R_iconst dX11_night_22 (?_ : RR _ _ _ _ 23 _ _ _ _)
  refine R_puti (zk := 1) dX11_night_23 flX11_91 cok_7 (by decide) (fun q hq => by cases hq; rfl) rfl (?_ : RR _ _ _ _ 26 _ _ _ _)
  refine R_iload_n dX11_night_26 rfl (?_ : RR _ _ _ _ 27 _ _ _ _)
  exact R_ireturn dX11_night_27 trivial hQ
theorem C_night_ok {h9 : Nat → Int → Int} (hs : SRx k h sem H np nc len) (hk : k ≤ 1000) (hU : h 44 3 = U) (hx : h 44 4 = x) (hx15 : x < 15) (hU15 : U ≤ 15) (h1n : h 1 1 = n) (hn60 : n ≤ 60) (h9e : h9 = rup h 1 (fup (h 1) 2 (min (n : Int) 60))) (hσ : ∀ p : Int, 0 ≤ p → signAt h9 p = σ p) (hσb : ∀ p : Int, -1 ≤ σ p ∧ σ p ≤ 255) (hck : MT mX11_checkNight 5 [pR 0] h9 (some (pI 0)) h9) (hK : K ≤ n) (g1 : ∀ j, j < K → (naR σ j).2 = true ∧ (naR σ j).1 < n) (g2 : (naR σ K).2 = true ∧ (naR σ K).1 = n) (hD : D ≤ K) (d1 : ∀ j, j < D → 0 ≤ (naA (cxM sem h np nc) σ (niS (cxM sem h np nc) σ (h 154) j) (naR σ j).1).1) (d2 : D = K ∨ (D < K ∧ (naA (cxM sem h np nc) σ (niS (cxM sem h np nc) σ (h 154) D) (naR σ D).1).1 < 0)) : RR mX11_night 7 0 0 0 (pm_ent [pR 0] 6) [] (shp0, rf0, h) (cNi (cxM sem h np nc) H h x U len D (if D = K then 0 else 1) (niS (cxM sem h np nc) σ (h 154) (if D = K then D else D + 1))) := by
  show RR _ _ _ _ _ [pR 0, pU, pU, pU, pU, pU] _ _ _
  have t14 := isTr_14
  have t19 := isTr_19
  have hc := hs.2.2.2.1.1
  have hX := hs.1.2.2.2.2.1
  have hCO := hs.1.2.2.2.2.2.2.1
  have hnw := hs.2.2.2.1.2.1
  have x6 := sR6 hs
  have x12 := sR12 hs
  have f9 : ∀ a, a ≠ 1 → h9 a = h a := fun a a1 => by rw [h9e, rup_n a1]
  have hc9 : Cpl (cxM sem h np nc) H h9 14 (h 154) len := Cpl_fr hc (fun a a1 a2 => f9 a (by omega))
  have hc1 : Cpl (cxM sem h np nc) H (trC h9 19 14) 14 (h 154) len := Cpl_fr hc9 (fun a a1 a2 => trC_n (by omega))
  have hb1 : Cpl (cxM sem h np nc) H (trC h9 19 14) 19 (h 154) len := Cpl_cp x6 x12 hc9
  have hCO1 : CO (cxM sem h np nc) H (trC h9 19 14) 3 14 29 := CO_f hCO (fun a q => by rw [trC_n (by omega)]; exact f9 a (by omega))
  have h11 : h 11 0 = np := hCO.2.1.1
  have L := CNI_49 (h := trC h9 19 14) (X := cxM sem h np nc) (H := H) (σ := σ) (f := h 154) (n := n) (K := K) (D := D) (Q := cNi (cxM sem h np nc) H h x U len D (if D = K then 0 else 1) (niS (cxM sem h np nc) σ (h 154) (if D = K then D else D + 1))) hX hCO1 (okF_c hc) (by omega) (fun p p0 => by
    rw [← hσ p p0]
    unfold signAt
    rw [trC_n (by omega), trC_n (by omega)]) hσb (by rw [trC_n (by omega), h9e, rup_s, fup_n (by omega)]; exact h1n) hn60 hK g1 g2 hD d1 d2 (fun h2 len2 w4 w5 a1 a2 => CNI_113 (by split <;> omega) (by omega) x6 x12 h11 hU hx hx15 hU15 (fun a q => by rw [a1 a (by omega), trC_n (by omega)]; exact f9 a (by omega)) (Cpl_fr hb1 (fun a _ _ => a1 a (by omega))) a2) D 0 (trC h9 19 14) len (by omega) (fun _ _ => rfl) hc1
  have L : RR mX11_night 7 0 0 49 [pR 0, pI 0, pI 0, pI 0, pI 0, pI 0] [] (shp0, rf0, trC h9 19 14) (cNi (cxM sem h np nc) H h x U len D (if D = K then 0 else 1) (niS (cxM sem h np nc) σ (h 154) (if D = K then D else D + 1))) := L
  have hb := T_X7_boundBy (h := h) (m := 60)
  rw [h1n, ← h9e] at hb
  clear d1 d2 hc9 hc1 hb1 hCO1 f9 hσ
  refine R_aload_n dX11_night_0 rfl (?_ : RR _ _ _ _ 1 _ _ _ _)
  refine R_getr dX11_night_1 flX11_10 cok_11 rfl (by decide) (?_ : RR _ _ _ _ 4 _ _ _ _)
  refine R_bipush dX11_night_4 rfl (?_ : RR _ _ _ _ 6 _ _ _ _)
  refine R_cVv1 dX11_night_6 mvX7_boundBy mlX11_99 (by decide) (by decide) (Nat.le_of_ble_eq_true rfl) (Nat.le_of_ble_eq_true rfl) (hb) (?_ : RR _ _ _ _ 9 _ _ _ _)
  refine R_aload_n dX11_night_9 rfl (?_ : RR _ _ _ _ 10 _ _ _ _)
  refine R_cVi0 dX11_night_10 mvX11_checkNight mlX11_272 (by decide) (by decide) (Nat.le_of_ble_eq_true rfl) (Nat.le_of_ble_eq_true rfl) (hck) (?_ : RR _ _ _ _ 13 _ _ _ _)
  refine R_istore_n dX11_night_13 (Nat.le_of_ble_eq_true rfl) (?_ : RR _ _ _ _ 14 [_, _, _, _, _, _] _ _ _)
  refine R_iload_n dX11_night_14 rfl (?_ : RR _ _ _ _ 15 _ _ _ _)
  refine R_if_ge (t := 28) dX11_night_15 rfl (fun c15 => ?_) (fun c15 => ?_)
  rotate_left
  · exfalso; omega
  refine R_aload_n dX11_night_28 rfl (?_ : RR _ _ _ _ 29 _ _ _ _)
  refine R_getr dX11_night_29 flX11_40 cok_11 rfl (by decide) (?_ : RR _ _ _ _ 32 _ _ _ _)
  refine R_aload_n dX11_night_32 rfl (?_ : RR _ _ _ _ 33 _ _ _ _)
  refine R_getr dX11_night_33 flX11_36 cok_11 rfl (by decide) (?_ : RR _ _ _ _ 36 _ _ _ _)
  refine R_cVv1 dX11_night_36 mvX9_copyFrom mlX11_231 (by decide) (by decide) (Nat.le_of_ble_eq_true rfl) (Nat.le_of_ble_eq_true rfl) (T_X9_copyFrom) (?_ : RR _ _ _ _ 39 _ _ _ _)
  refine R_iconst dX11_night_39 (?_ : RR _ _ _ _ 40 _ _ _ _)
  refine R_istore_n dX11_night_40 (Nat.le_of_ble_eq_true rfl) (?_ : RR _ _ _ _ 41 [_, _, _, _, _, _] _ _ _)
  refine R_iconst dX11_night_41 (?_ : RR _ _ _ _ 42 _ _ _ _)
  refine R_istore_n dX11_night_42 (Nat.le_of_ble_eq_true rfl) (?_ : RR _ _ _ _ 43 [_, _, _, _, _, _] _ _ _)
  refine R_iconst dX11_night_43 (?_ : RR _ _ _ _ 44 _ _ _ _)
  refine R_istore dX11_night_44 (Nat.le_of_ble_eq_true rfl) (?_ : RR _ _ _ _ 46 [_, _, _, _, _, _] _ _ _)
  refine R_iconst dX11_night_46 (?_ : RR _ _ _ _ 47 _ _ _ _)
  refine R_istore dX11_night_47 (Nat.le_of_ble_eq_true rfl) (?_ : RR _ _ _ _ 49 [_, _, _, _, _, _] _ _ _)
  exact L
theorem M_night {Q : Option PV → PH → Prop} (hs : SRx k h sem H np nc len) (hk : k ≤ 1000) (e3 : ∀ a, 147 ≤ a → h3 a = h a) (hn : h 147 15 = n) (hn80 : n ≤ 80) (hb60 : b = min n 60) (hσ : ∀ p : Nat, p < b → h 156 p = σ p ∧ 0 ≤ σ p ∧ σ p ≤ 255) (hσn : ∀ p : Nat, b ≤ p → σ p = -1) (hσb : ∀ p : Int, -1 ≤ σ p ∧ σ p ≤ 255) (hU2 : h 147 28 = U) (hU15 : U ≤ 15) (hK : K ≤ b) (g1 : ∀ j, j < K → (naR σ j).2 = true ∧ (naR σ j).1 < b) (g2 : (naR σ K).2 = false ∨ (naR σ K).1 = b) (g3 : (naR σ K).1 ≤ b)
    (hno : ¬ ((naR σ K).2 = true ∧ (naR σ K).1 = n) → ∀ h2, nrd h3 h2 → Q (some (pI (-1 - ((naR σ K).1 : Int)))) (shp0, rf0, h2))
    (hD : D ≤ K) (d1 : ∀ j, j < D → 0 ≤ (naA (cxM sem h np nc) σ (niS (cxM sem h np nc) σ (h 154) j) (naR σ j).1).1) (d2 : D = K ∨ (D < K ∧ (naA (cxM sem h np nc) σ (niS (cxM sem h np nc) σ (h 154) D) (naR σ D).1).1 < 0))
    (hye : ((naR σ K).2 = true ∧ (naR σ K).1 = n) → ∀ r' g', mNi h3 U D (if D < K then 1 else 0) ((oMn (cxM sem h np nc) (niS (cxM sem h np nc) σ (h 154) (if D = K then D else D + 1)) : Int) - oMn (cxM sem h np nc) (h 154)) (niS (cxM sem h np nc) σ (h 154) (if D = K then D else D + 1)) r' g' → Q r' g') : RR mX12_night 10 0 0 0 (pm_ent [pR 147] 6) [] (shp0, rf0, h3) Q := by
  show RR _ _ _ _ _ [pR 147, pU, pU, pU, pU, pU] _ _ _
  have hrw := isRw_154
  have hX := hs.1.2.2.2.2.1
  have hc := hs.2.2.2.1.1
  have hnw := hs.2.2.2.1.2.1
  have x12 := sR12 hs
  have h5p : h 147 5 = np := hs.1.2.2.1
  have gk : (naR σ K).2 = true → ∀ j, j < K → (naR σ (j + 1)).2 = true := fun w j hj => by
    by_cases z : j + 1 < K
    · exact (g1 (j + 1) z).1
    · rw [show j + 1 = K by omega]; exact w
  have K42 : ∀ h2, nrd h3 h2 → h2 147 16 = ((naR σ K).1 : Nat) → h2 147 17 = b → h2 147 34 = K → ((naR σ K).2 = true → nrV σ K h2) → RR mX12_night 10 0 0 42 [pR 147, pI n, pI (if (naR σ K).2 then 1 else 0), pU, pU, pU] [] (shp0, rf0, h2) Q := by
    intro h2 f2 i2 t2 a2 v2
    by_cases q : (naR σ K).2 = true ∧ (naR σ K).1 = n
    · have hye := hye q
      have hT := T_X12_faultOf60 (h := h2) (n := n) (b := b) (a := (naR σ K).1) (Or.inr rfl) i2 t2 g3 hb60 hn80 0 (by rw [if_pos ⟨rfl, q.2⟩])
      rw [if_pos q.1]
      have v2 := v2 q.1
      have p28 : h2 147 28 = U := by rw [f2.2.1 28 (by omega) (by omega) (by omega) (by omega) (by omega) (by omega), e3 147 (by omega)]; exact hU2
      have hPB := T_X12_putsBy (h := h2) p28 hU15
      obtain ⟨hbx, hbe⟩ : ∃ hbx, hbx = rup h2 163 (put (26 * U) (h2 154) (h2 163) 26) := ⟨_, rfl⟩
      rw [← hbe] at hPB
      have fx : ∀ a, a ≠ 163 → hbx a = h2 a := fun a a1 => by rw [hbe, rup_n a1]
      obtain ⟨hB, eX⟩ := MBk_of (h' := hbx) hs hk (fun a w => by rw [fx a (by omega), f2.1 a (by omega) (by omega) (by omega) (by omega)]; exact e3 a (by omega)) (fun j w => by rw [fx 147 (by omega), f2.2.1 j (by omega) (by omega) (by omega) (by omega) (by omega) (by omega), e3 147 (by omega)]) (by rw [fx 147 (by omega), f2.2.1 30 (by omega) (by omega) (by omega) (by omega) (by omega) (by omega), e3 147 (by omega)]; exact hs.2.2.2.2.2.2.2)
      have e154 : hbx 154 = h 154 := by rw [fx 154 (by omega), f2.1 154 (by omega) (by omega) (by omega) (by omega)]; exact e3 154 (by omega)
      have e154' : h3 154 = h 154 := e3 154 (by omega)
      have hO := T_X12_outs (h := hbx) (r := 154) (np := np) (by rw [fx 147 (by omega), f2.2.1 5 (by omega) (by omega) (by omega) (by omega) (by omega) (by omega), e3 147 (by omega)]; exact h5p)
      rw [e154] at hO
      have hmon := (niS_p (σ := σ) (X := cxM sem h np nc) hX (okF_c hc) (gk q.1) (if D = K then D else D + 1) (by split <;> omega)).2.2.2
      have L := MNI_74 (hb := hbx) (n := n) (Q := Q) (σ := σ) (K := K) (D := D) (z := (bset (fun p => decide (mS (h 154) p < 0)) np : Nat)) hB (by rw [e154]; omega) hσb (by rw [fx 147 (by omega)]; exact a2) (by omega) (gk q.1) (fun j hj => by
        obtain ⟨y1, y2, y3, y4⟩ := v2 j hj
        exact ⟨by rw [fx 164 (by omega)]; exact y1, by rw [fx 165 (by omega)]; exact y2, by rw [fx 165 (by omega)]; exact y3, by rw [fx 166 (by omega)]; exact y4⟩) hD (by rw [eX, e154]; exact d1) (by rw [eX, e154]; exact d2) (fun h6 f6 e6 => by
        rw [eX, e154] at e6
        rw [hbe] at f6
        have := MNI_98 (h := h3) (hb := h2) (h2 := h6) (n := n) (np := np) (X := cxM sem h np nc) (K := K) (D := D) f2 x12 (by rw [e3 147 (by omega)]; exact hU2) hU15 (by rw [e3 147 (by omega)]; exact h5p) a2 (by omega) hD rfl (by rw [e154']; exact hmon) f6 e6
        rw [e154'] at this
        exact RR.post this hye) D 0 hbx (by omega) ⟨fun _ _ _ _ _ _ => rfl, fun _ _ => rfl, hB.2.2.2.2.2.2.1⟩ (by rw [eX]; rfl)
      have L : RR mX12_night 10 0 0 74 [pR 147, pI n, pI 1, pI 0, pI (bset (fun p => decide (mS (h 154) p < 0)) np : Nat), pI 0] [] (shp0, rf0, hbx) Q := L
      clear hye hno d1 d2 v2 hmon hbe
      generalize bset (fun p => decide (mS (h 154) p < 0)) np = B at *
      refine R_aload_n dX12_night_42 rfl (?_ : RR _ _ _ _ 43 _ _ _ _)
      refine R_iload_n dX12_night_43 rfl (?_ : RR _ _ _ _ 44 _ _ _ _)
      refine R_bipush dX12_night_44 rfl (?_ : RR _ _ _ _ 46 _ _ _ _)
      refine R_iload_n dX12_night_46 rfl (?_ : RR _ _ _ _ 47 _ _ _ _)
      refine R_cVi3 dX12_night_47 mvX12_faultOf mlX12_198 (by decide) (by decide) (Nat.le_of_ble_eq_true rfl) (Nat.le_of_ble_eq_true rfl) (hT) (?_ : RR _ _ _ _ 50 _ _ _ _)
      refine R_istore_n dX12_night_50 (Nat.le_of_ble_eq_true rfl) (?_ : RR _ _ _ _ 51 [_, _, _, _, _, _] _ _ _)
      refine R_iload_n dX12_night_51 rfl (?_ : RR _ _ _ _ 52 _ _ _ _)
      refine R_if_ge (t := 57) dX12_night_52 rfl (fun c52 => ?_) (fun c52 => ?_)
      rotate_left
      · exfalso; omega
      refine R_aload_n dX12_night_57 rfl (?_ : RR _ _ _ _ 58 _ _ _ _)
      refine R_cVv0 dX12_night_58 mvX12_putsBy mlX12_367 (by decide) (by decide) (Nat.le_of_ble_eq_true rfl) (Nat.le_of_ble_eq_true rfl) (hPB) (?_ : RR _ _ _ _ 61 _ _ _ _)
      refine R_aload_n dX12_night_61 rfl (?_ : RR _ _ _ _ 62 _ _ _ _)
      refine R_aload_n dX12_night_62 rfl (?_ : RR _ _ _ _ 63 _ _ _ _)
      refine R_getr dX12_night_63 flX12_33 cok_12 rfl (by decide) (?_ : RR _ _ _ _ 66 _ _ _ _)
      refine R_cVi1 dX12_night_66 mvX12_outs mlX12_370 (by decide) (by decide) (Nat.le_of_ble_eq_true rfl) (Nat.le_of_ble_eq_true rfl) (hO) (?_ : RR _ _ _ _ 69 _ _ _ _)
      refine R_istore dX12_night_69 (Nat.le_of_ble_eq_true rfl) (?_ : RR _ _ _ _ 71 [_, _, _, _, _, _] _ _ _)
      refine R_iconst dX12_night_71 (?_ : RR _ _ _ _ 72 _ _ _ _)
      refine R_istore dX12_night_72 (Nat.le_of_ble_eq_true rfl) (?_ : RR _ _ _ _ 74 [_, _, _, _, _, _] _ _ _)
      exact L
    · have hq := hno q h2 f2
      clear hno hye
      by_cases q1 : (naR σ K).2 = true
      · rw [if_pos q1]
        have hT := T_X12_faultOf60 (h := h2) (n := n) (b := b) (a := (naR σ K).1) (Or.inr rfl) i2 t2 g3 hb60 hn80 (-1 - ((naR σ K).1 : Int)) (by rw [if_neg (fun w => q ⟨q1, w.2⟩)])
        generalize naR σ K = x1 at *
        refine R_aload_n dX12_night_42 rfl (?_ : RR _ _ _ _ 43 _ _ _ _)
        refine R_iload_n dX12_night_43 rfl (?_ : RR _ _ _ _ 44 _ _ _ _)
        refine R_bipush dX12_night_44 rfl (?_ : RR _ _ _ _ 46 _ _ _ _)
        refine R_iload_n dX12_night_46 rfl (?_ : RR _ _ _ _ 47 _ _ _ _)
        refine R_cVi3 dX12_night_47 mvX12_faultOf mlX12_198 (by decide) (by decide) (Nat.le_of_ble_eq_true rfl) (Nat.le_of_ble_eq_true rfl) (hT) (?_ : RR _ _ _ _ 50 _ _ _ _)
        refine R_istore_n dX12_night_50 (Nat.le_of_ble_eq_true rfl) (?_ : RR _ _ _ _ 51 [_, _, _, _, _, _] _ _ _)
        refine R_iload_n dX12_night_51 rfl (?_ : RR _ _ _ _ 52 _ _ _ _)
        refine R_if_ge (t := 57) dX12_night_52 rfl (fun c52 => ?_) (fun c52 => ?_)
        · exfalso; omega
        refine R_iload_n dX12_night_55 rfl (?_ : RR _ _ _ _ 56 _ _ _ _)
        exact R_ireturn dX12_night_56 trivial hq
      · rw [if_neg q1]
        have hT := T_X12_faultOf60 (h := h2) (n := n) (b := b) (a := (naR σ K).1) (ok := 0) (Or.inl rfl) i2 t2 g3 hb60 hn80 (-1 - ((naR σ K).1 : Int)) (by rw [if_neg (fun w => by omega)])
        generalize naR σ K = x1 at *
        refine R_aload_n dX12_night_42 rfl (?_ : RR _ _ _ _ 43 _ _ _ _)
        refine R_iload_n dX12_night_43 rfl (?_ : RR _ _ _ _ 44 _ _ _ _)
        refine R_bipush dX12_night_44 rfl (?_ : RR _ _ _ _ 46 _ _ _ _)
        refine R_iload_n dX12_night_46 rfl (?_ : RR _ _ _ _ 47 _ _ _ _)
        refine R_cVi3 dX12_night_47 mvX12_faultOf mlX12_198 (by decide) (by decide) (Nat.le_of_ble_eq_true rfl) (Nat.le_of_ble_eq_true rfl) (hT) (?_ : RR _ _ _ _ 50 _ _ _ _)
        refine R_istore_n dX12_night_50 (Nat.le_of_ble_eq_true rfl) (?_ : RR _ _ _ _ 51 [_, _, _, _, _, _] _ _ _)
        refine R_iload_n dX12_night_51 rfl (?_ : RR _ _ _ _ 52 _ _ _ _)
        refine R_if_ge (t := 57) dX12_night_52 rfl (fun c52 => ?_) (fun c52 => ?_)
        · exfalso; omega
        refine R_iload_n dX12_night_55 rfl (?_ : RR _ _ _ _ 56 _ _ _ _)
        exact R_ireturn dX12_night_56 trivial hq
  have hbg := T_X12_begins (h := rup h3 147 (fup (h3 147) 0 0)) (m := 60) (n := n) (by rw [rup_s, fup_n (by omega), e3 147 (by omega)]; exact hn) hn80 (by omega)
  obtain ⟨h4, h4e⟩ : ∃ h4, h4 = rup h3 147 (fup (fup (fup (fup (fup (fup (h3 147) 0 0) 15 0) 16 0) 18 0) 17 (min (n : Int) 60)) 34 0) := ⟨_, rfl⟩
  have L := MNI_19 (h := h3) (n := n) (b := b) (σ := σ) (K := K) (Q := Q) (by omega) hn80 (fun p hp => by rw [e3 156 (by omega)]; exact hσ p hp) hσn hK g1 g2 g3 K42 K 0 h4 (by omega) ⟨fun a a1 a2 a3 a4 => by rw [h4e, rup_n a1], fun j j1 j2 j3 j4 j5 j6 => by rw [h4e, rup_s]; simp (disch := omega) only [fup_n], by rw [h4e, rup_s]; simp (disch := omega) only [fup_n, fup_s]⟩ (by rw [h4e, rup_s]; simp (disch := omega) only [fup_n, fup_s]; rfl) (by rw [h4e, rup_s, fup_n (by omega), fup_s]; omega) (by rw [h4e, rup_s, fup_s]; rfl) (fun _ j hj => by omega)
  have L : RR mX12_night 10 0 0 19 [pR 147, pI n, pI 1, pU, pU, pU] [] (shp0, rf0, h4) Q := L
  clear K42 hno hye d1 d2
  refine R_aload_n dX12_night_0 rfl (?_ : RR _ _ _ _ 1 _ _ _ _)
  refine R_iconst dX12_night_1 (?_ : RR _ _ _ _ 2 _ _ _ _)
  refine R_puti (zk := 0) dX12_night_2 flX12_106 cok_12 (by decide) (fun q hq => by cases hq; rfl) rfl (?_ : RR _ _ _ _ 5 _ _ _ _)
  refine R_aload_n dX12_night_5 rfl (?_ : RR _ _ _ _ 6 _ _ _ _)
  refine R_bipush dX12_night_6 rfl (?_ : RR _ _ _ _ 8 _ _ _ _)
  refine R_cVi1 dX12_night_8 mvX12_begins mlX12_190 (by decide) (by decide) (Nat.le_of_ble_eq_true rfl) (Nat.le_of_ble_eq_true rfl) (hbg) (?_ : RR _ _ _ _ 11 _ _ _ _)
  refine R_istore_n dX12_night_11 (Nat.le_of_ble_eq_true rfl) (?_ : RR _ _ _ _ 12 [_, _, _, _, _, _] _ _ _)
  refine R_aload_n dX12_night_12 rfl (?_ : RR _ _ _ _ 13 _ _ _ _)
  refine R_iconst dX12_night_13 (?_ : RR _ _ _ _ 14 _ _ _ _)
  refine R_puti (zk := 34) dX12_night_14 flX12_394 cok_12 (by decide) (fun q hq => by cases hq; rfl) rfl (?_ : RR _ _ _ _ 17 _ _ _ _)
  simp (disch := omega) only [rup_rup, rup_s]
  rw [← h4e]
  refine R_iconst dX12_night_17 (?_ : RR _ _ _ _ 18 _ _ _ _)
  refine R_istore_n dX12_night_18 (Nat.le_of_ble_eq_true rfl) (?_ : RR _ _ _ _ 19 [_, _, _, _, _, _] _ _ _)
  exact L
theorem A_night (hs : SRx k h sem H np nc len) (hk : k ≤ 1000) : AG mX11_night mX12_night 7 10 [] k h := by
  obtain ⟨n, n1, n2, n3, n4⟩ := hs.2.1
  obtain ⟨U, x, hU, hx, hx15, hU15, hU2⟩ := sRU hs
  have hX := hs.1.2.2.2.2.1
  have hc := hs.2.2.2.1.1
  have hnw := hs.2.2.2.1.2.1
  obtain ⟨b, hb⟩ : ∃ b, b = min n 60 := ⟨_, rfl⟩
  obtain ⟨σ, hσe⟩ : ∃ σ : Int → Int, σ = fun p => if 0 ≤ p ∧ p < (b : Int) then h 156 p else -1 := ⟨_, rfl⟩
  have hσi : ∀ p : Nat, p < b → σ p = h 156 p := fun p hp => by rw [hσe]; exact if_pos (by omega)
  have hσn : ∀ p : Nat, b ≤ p → σ p = -1 := fun p hp => by rw [hσe]; exact if_neg (by omega)
  have hσb : ∀ p : Int, -1 ≤ σ p ∧ σ p ≤ 255 := fun p => by
    rw [hσe]
    dsimp only
    split
    · rename_i q
      have := (n4 p.toNat (by omega)).2
      rw [show ((p.toNat : Nat) : Int) = p by omega] at this
      omega
    · omega
  obtain ⟨h9, h9e⟩ : ∃ h9, h9 = rup h 1 (fup (h 1) 2 (min (n : Int) 60)) := ⟨_, rfl⟩
  have hσc : ∀ p : Int, 0 ≤ p → signAt h9 p = σ p := fun p p0 => by
    unfold signAt
    rw [hσe, h9e, rup_s, fup_s, rup_n (by omega)]
    dsimp only
    by_cases q : p < min (n : Int) 60
    · rw [if_pos (by omega), if_pos (by omega)]
      have := (n4 p.toNat (by omega)).1
      rw [show ((p.toNat : Nat) : Int) = p by omega] at this
      exact this
    · rw [if_neg (by omega), if_neg (by omega)]
  obtain ⟨K, hK, g1, g2, g3⟩ := na_ex (σ := σ) (b := b) hσn (by omega)
  obtain ⟨D, hD, d1, d2⟩ := ni_ex (cxM sem h np nc) σ (h 154) K
  have hck := T_X11_checkNight (h := h9) (n := n) (b := b) (K := K) hσc hσb (by rw [h9e, rup_s, fup_n (by omega)]; exact n1) (by rw [h9e, rup_s, fup_s]; omega) n3 (by omega) hK g1 g2 g3
  have hmod := fun (h3 : Nat → Int → Int) (Q : Option PV → PH → Prop) (e3 : ∀ a, 147 ≤ a → h3 a = h a) hno hye => M_night (n := n) (b := b) (σ := σ) (K := K) (D := D) (U := U) (h3 := h3) (Q := Q) hs hk e3 n2 n3 hb (fun p hp => by rw [hσi p hp]; exact ⟨rfl, (n4 p (by omega)).2⟩) hσn hσb hU2 hU15 hK g1 g2 g3 hno hD d1 d2 hye
  by_cases q : (naR σ K).2 = true ∧ (naR σ K).1 = n
  · rw [if_pos q] at hck
    have ebn : b = n := by rcases g2 with w | w; (· rw [q.1] at w; cases w); (· omega)
    have gk : ∀ j, j < K → (naR σ (j + 1)).2 = true := fun j hj => by
      by_cases z : j + 1 < K
      · exact (g1 (j + 1) z).1
      · rw [show j + 1 = K by omega]; exact q.1
    have hp := niS_p (σ := σ) (X := cxM sem h np nc) hX (okF_c hc) gk (if D = K then D else D + 1) (by split <;> omega)
    refine RR.post (C_night_ok (D := D) (K := K) hs hk hU hx hx15 hU15 n1 (by omega) h9e hσc hσb hck (by omega) (by rw [← ebn]; exact g1) q hD d1 d2) (fun r' g' c => ?_)
    obtain ⟨h3, len', rfl, rfl, cc⟩ := id c
    refine ⟨h3, rfl, hmod h3 _ (fun a ha => cc.2.2.2.1 a (by omega) (by omega)) (fun w => absurd q w) (fun _ r'' g'' m => ?_)⟩
    obtain ⟨h4, rfl, rfl, mm⟩ := id m
    rw [show (if D < K then (1 : Int) else 0) = if D = K then 0 else 1 by by_cases w : D = K; (· rw [if_pos w, if_neg (by omega)]); (· rw [if_neg w, if_pos (by omega)])] at m
    have hlim : (if D = K then D else D + 1) ≤ 60 := by split <;> omega
    exact ⟨rfl, h4, rfl, SR_night hs hU hx hx15 c m (by omega) hp.2.2.1⟩
  · rw [if_neg q] at hck
    refine RR.post (C_night_no n1 n3 (by omega) (by omega) h9e hck) (fun r' g' c => ?_)
    obtain ⟨rfl, rfl⟩ := c
    refine ⟨_, rfl, hmod _ _ (fun a ha => by rw [rup_n (by omega), h9e, rup_n (by omega)]) (fun _ h2 f2 => ⟨rfl, h2, rfl, SR_night_no hs (fun a a1 => by rw [rup_n a1, h9e, rup_n a1]) (by rw [rup_s, fup_s]) f2⟩) (fun w => absurd w q)⟩
end NI8
