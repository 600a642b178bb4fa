section NEB
variable {k : Nat} {h h1 h2 h3 h4 g : Nat → Int → Int} {sem : Sem} {H0 H np nc len n b : Nat} {σ : Int → Int}
theorem wyG_D {ex mi D D' : Int → Int} (hE : exK H ex mi) (hD : wyG H ex mi D) (hb : bnd D') (e : ∀ a b : Int, 0 ≤ a → a < H → 0 ≤ b → b < H → D' (a * 9 + b) = D (a * 9 + b)) : wyG H ex mi D' := by
  obtain ⟨d1, d2, d3, d4⟩ := hD
  refine ⟨hb, fun a a0 a1 => by rw [e a a a0 a1 a0 a1]; exact d2 a a0 a1, fun a b a0 a1 b0 b1 => ?_, fun x x0 x1 x2 b b0 b1 => ?_⟩
  · intro q1 q2

    rw [e a b a0 a1 b0 b1] at q2 ⊢
    obtain ⟨x, x0, x1, x2, x3, x4⟩ := d3 a b a0 a1 b0 b1 q1 q2
    have k := hE x x0 x1
    exact ⟨x, x0, x1, x2, x3, by rw [e (ex x) b (by omega) (by omega) b0 b1]; exact x4⟩
  · have k := hE x x0 x1
    rw [e (x / 2) b (by omega) (by omega) b0 b1, e (ex x) b (by omega) (by omega) b0 b1]
    exact d4 x x0 x1 x2 b b0 b1
theorem nds_bnd {f : Int → Int} (hf : farB f) : bnd (nds f) := fun z z0 z1 => by
  have := hf z z0 z1
  unfold nds
  split <;> omega
theorem fiS_0 {st ha si : Int → Int} {k c : Int} : fiS st ha si k c 0 = true := rfl
theorem b511n : ∀ c : Nat, c < 9 → (511 : Nat).testBit c = true := by decide
theorem SR_net (hs : SRx k h sem H0 np nc len) (hH9 : 1 ≤ H ∧ H ≤ 9) (hc : cnN σ H h h3) (hm : mnN σ H h3 g) : SR (k + 1) g := by
  obtain ⟨c1, c2, c3, c4, c5, c6, c7, c8, c9, c10, c11, c12, c13, c14, c15, c16, c17⟩ := hc
  obtain ⟨m1, m2, m3, m4, m5, m6, m7, m8, m9, m10, m11, m12⟩ := hm
  obtain ⟨⟨b1, b2, b3, b4, b5, b6, b7, b8, b9, b10, b11⟩, ha, hd, hu, hss, hsp⟩ := id hs
  have fr : ∀ a, ¬ (a = 1 ∨ (3 ≤ a ∧ a ≤ 9) ∨ a = 11 ∨ a = 14 ∨ a = 44 ∨ a = 47 ∨ a = 138 ∨ a = 139) → ¬ (a = 147 ∨ (149 ≤ a ∧ a ≤ 151) ∨ a = 154 ∨ a = 157) → g a = h a := fun a q1 q2 => by rw [m1 a q2]; exact c1 a q1
  have fj : ∀ j : Int, j ≠ 0 → j ≠ 15 → j ≠ 16 → j ≠ 17 → j ≠ 18 → j ≠ 20 → j ≠ 3 → j ≠ 4 → j ≠ 5 → j ≠ 28 → j ≠ 40 → j ≠ 6 → g 147 j = h 147 j := fun j j1 j2 j3 j4 j5 j6 j7 j8 j9 j10 j11 j12 => by rw [m2 j j1 j2 j3 j4 j5 j6 j7 j8 j9 j10 j11 j12, c1 147 (by omega)]
  obtain ⟨o1, o2, o3, o4, o5, o6, o7, o8, o9⟩ := b5
  have o7 : farB (h 151) := o7
  have vI : ∀ e : Int, 0 ≤ e → e < 18 → g 149 e = (if e.toNat < 2 * H then (neQ σ H e.toNat).1 else -1) ∧ g 150 e = (if e.toNat < 2 * H then (neQ σ H e.toNat).2 else 0) := fun e e0 e1 => by
    have := m10 e.toNat (by omega)
    rw [show ((e.toNat : Nat) : Int) = e by omega] at this
    exact this
  have hexB : exB (g 149) := fun e e0 e1 => by
    rw [(vI e e0 e1).1]
    have nb := neQ_b (σ := σ) (e := e.toNat) hH9.2
    split <;> omega
  have hmiB : miB (g 150) := fun e e0 e1 => by
    rw [(vI e e0 e1).2]
    have nb := neQ_b (σ := σ) (e := e.toNat) hH9.2
    split <;> omega
  have hexK : exK H (g 149) (g 150) := fun e e0 e1 => by
    rw [(vI e e0 (by omega)).1, (vI e e0 (by omega)).2, if_pos (by omega), if_pos (by omega)]
    exact neQ_k
  have e151 : g 151 = lAll H (g 149) (g 150) (h 151) := by rw [m11, c1 151 (by omega)]
  have hbd : bnd (h 6) := b7.2.2.2.2.2.1
  have hfar : farB (g 151) := by rw [e151]; exact lAll_farB hH9.2 hexK hexB hmiB hbd o7
  /- the class's exits are the same -/
  have s45 : ∀ e : Int, 0 ≤ e → e < 2 * H → g 4 e = g 149 e ∧ g 5 e = g 150 e := fun e e0 e1 => by
    rw [m1 4 (by omega), m1 5 (by omega), (vI e e0 (by omega)).1, (vI e e0 (by omega)).2, if_pos (by omega), if_pos (by omega)]
    have := c4 e.toNat (by omega)
    rw [show ((e.toNat : Nat) : Int) = e by omega] at this
    exact this
  have g4B : exB (g 4) := by rw [m1 4 (by omega)]; exact c5
  have g5B : miB (g 5) := by rw [m1 5 (by omega)]; exact c6
  have e6 : g 6 = wAll H (g 4) (g 5) (h 6) := by rw [m1 6 (by omega), m1 4 (by omega), m1 5 (by omega)]; exact c7
  have kK : exK H (g 4) (g 5) := fun e e0 e1 => by rw [(s45 e e0 e1).1, (s45 e e0 e1).2]; exact hexK e e0 e1
  have hW : wyG H (g 4) (g 5) (g 6) := by rw [e6]; exact wAll_G hH9.2 kK hbd g4B g5B
  have hW2 : wyG H (g 149) (g 150) (g 6) := wyG_c hW (fun e e0 e1 => (s45 e e0 e1).1.symm) (fun e e0 e1 _ => (s45 e e0 e1).2.symm)
  have hD : ∀ a b : Int, 0 ≤ a → a < H → 0 ≤ b → b < H → g 6 (a * 9 + b) = nds (g 151) (a * 9 + b) := fun a b a0 a1 x0 x1 => by
    rw [e151]
    exact nds_fP (hW2.1 _ (by omega) (by omega)) (lAll_eq hH9.2 hexK hW2 a b a0 a1 x0 x1)
  refine ⟨sem, H, 0, 0, 0, ⟨m4, m5, m6, ?_, ⟨hH9.1, hH9.2, by show 0 ≤ 12; omega, by show 0 ≤ 6; omega, hexB, hmiB, hfar, fun e he => ?_, fun p hp => absurd hp (Nat.not_lt_zero p)⟩, ⟨hexK, wyG_D hexK hW2 (nds_bnd hfar) (fun a b a0 a1 x0 x1 => (hD a b a0 a1 x0 x1).symm)⟩, ?_, ?_, ?_, ?_, fun q => by omega⟩, ⟨0, ?_, m3, by omega, fun i hi => by omega⟩, ?_, SU_mk ?_ ?_ ?_ ?_ ?_, ?_, ?_⟩
  · rw [m1 3 (by omega)]; exact c3
  · show g 149 e < H
    rw [(vI e (by omega) (by omega)).1]
    have nb := neQ_b (σ := σ) (e := (e : Int).toNat) hH9.2
    split <;> omega
  · obtain ⟨d1, d2, d3, d4, d5, d6, d7⟩ := b7
    refine ⟨⟨fun e e0 e1 => s45 e e0 e1, hD⟩, ⟨?_, fun p hp => absurd hp (Nat.not_lt_zero p)⟩, ?_, g4B, g5B, hW.1, d7⟩
    · rw [m1 11 (by omega)]; exact c10
    · unfold ruOK
      rw [fr 29 (by omega) (by omega), fr (29 + 1) (by omega) (by omega)]
      exact d3
  · exact mrOK_fr b8 (fj 23 (by omega) (by omega) (by omega) (by omega) (by omega) (by omega) (by omega) (by omega) (by omega) (by omega) (by omega) (by omega)) (fr 158 (by omega) (by omega))
  · rw [fr 29 (by omega) (by omega)]; exact b9
  · rw [fr 29 (by omega) (by omega)]; exact b10
  · rw [m1 1 (by omega)]; exact c2
  · exact SD_same hd (by rw [fr 145 (by omega) (by omega)]) (fj 1 (by omega) (by omega) (by omega) (by omega) (by omega) (by omega) (by omega) (by omega) (by omega) (by omega) (by omega) (by omega)) (fr 146 (by omega) (by omega)) (fr 148 (by omega) (by omega))
  · have z0 : g 154 0 = 0 := by rw [m12, fup_n (by omega), fup_s]
    have z1 : g 154 1 = 0 := by rw [m12, fup_s]
    have r : ∀ j : Int, 0 ≤ j → j < 4 → g 14 j = 0 := fun j j0 j1 => by rw [m1 14 (by omega)]; exact c11 j j0 j1
    exact ⟨⟨⟨by omega, by omega⟩, by omega, Nat.le_refl _, fun j hj => absurd hj (Nat.not_lt_zero j), fun c hc => absurd hc (Nat.not_lt_zero c), fun p hp => absurd hp (Nat.not_lt_zero p)⟩, by rw [r 0 (by omega) (by omega), z0], by rw [r 1 (by omega) (by omega), z1], r 2 (by omega) (by omega), r 3 (by omega) (by omega), fun c hc => absurd hc (Nat.not_lt_zero c), fun c hc => absurd hc (Nat.not_lt_zero c), fun p hp => absurd hp (Nat.not_lt_zero p)⟩
  · rw [m12, fup_s]; omega
  · intro j q
    rw [m12, fup_n (by omega), fup_n (by omega), fr 155 (by omega) (by omega), c1 154 (by omega)]
    exact hu.2.2.1 j q
  · exact SUn_0 (SU_un hu) (by rw [m1 44 (by omega)]; exact c12) m7 (by rw [m1 44 (by omega)]; exact c13)
  · exact SKp_0 (SU_kp hu) (fun i hi => by rw [m1 47 (by omega)]; exact c14 i hi) (fr 175 (by omega) (by omega)) (fr 176 (by omega) (by omega)) (by rw [m9, c1 147 (by omega)])
  · refine ⟨0, by rw [m1 138 (by omega)]; exact c15, m8, by omega, fun i hi => absurd hi (Nat.not_lt_zero i), by rw [m1 138 (by omega), c16]; rfl, fun k hk => ⟨511, by omega, ?_, fun c hc => ?_⟩⟩
    · rw [m1 139 (by omega)]; exact c17 k (by omega) (by omega)
    · rw [fiS_0]; exact b511n c hc
  · refine ⟨⟨?_, ?_, ?_⟩, ?_, ?_⟩
    · rw [fr 10 (by omega) (by omega)]; exact hsp.1.1
    · rw [m1 8 (by omega)]; exact c8
    · rw [m1 9 (by omega)]; exact c9
    · rw [fr 32 (by omega) (by omega)]; exact hsp.2.1
    · rw [fj 30 (by omega) (by omega) (by omega) (by omega) (by omega) (by omega) (by omega) (by omega) (by omega) (by omega) (by omega) (by omega)]; exact hsp.2.2
theorem SR_net_no (hs : SRx k h sem H0 np nc len) (c1 : ∀ a, a ≠ 1 → a ≠ 7 → a ≠ 8 → a ≠ 9 → h2 a = h a) (c2 : h2 1 1 = 0) (c3 : exB (h2 8)) (c4 : miB (h2 9)) (f1 : mrF h2 g) : SR (k + 1) g := by
  obtain ⟨g2, g2e⟩ : ∃ g2 : Nat → Int → Int, g2 = rup (rup (rup g 7 (h 7)) 8 (h 8)) 9 (h 9) := ⟨_, rfl⟩
  have r7 : g2 7 = h 7 := by rw [g2e, rup_n (by omega), rup_n (by omega), rup_s]
  have r8 : g2 8 = h 8 := by rw [g2e, rup_n (by omega), rup_s]
  have r9 : g2 9 = h 9 := by rw [g2e, rup_s]
  have rn : ∀ a, a ≠ 7 → a ≠ 8 → a ≠ 9 → g2 a = g a := fun a a1 a2 a3 => by rw [g2e, rup_n a3, rup_n a2, rup_n a1]
  have S1 : SR (k + 1) g2 := SR_text hs (by rw [rn 1 (by omega) (by omega) (by omega), f1.1 1 (by omega) (by omega)]; exact c2) (fun a q1 q2 q3 => by
      by_cases y7 : a = 7
      · rw [y7]; exact r7
      · by_cases y8 : a = 8
        · rw [y8]; exact r8
        · by_cases y9 : a = 9
          · rw [y9]; exact r9
          · rw [rn a y7 y8 y9, f1.1 a q2 q3]; exact c1 a q1 y7 y8 y9) (fun j q1 q2 q3 q4 q5 q6 => by rw [rn 147 (by omega) (by omega) (by omega), f1.2.1 j q1 q2 q3 q4 q5 q6, c1 147 (by omega) (by omega) (by omega) (by omega)]) (by rw [rn 147 (by omega) (by omega) (by omega)]; exact f1.2.2)
  refine SR_7 S1 (fun a q => (rn a (by omega) (by omega) (by omega)).symm) ⟨?_, ?_, ?_⟩
  · rw [f1.1 10 (by omega) (by omega), c1 10 (by omega) (by omega) (by omega) (by omega)]; exact hs.2.2.2.2.2.1.1
  · rw [f1.1 8 (by omega) (by omega)]; exact c3
  · rw [f1.1 9 (by omega) (by omega)]; exact c4
/-- the reference: its beginning -/
theorem M_net {Q : Option PV → PH → Prop} (hn : h 147 15 = n) (hn80 : n ≤ 80) (hb46 : b = min n 46) (hσ : ∀ p : Nat, p < b → h 156 p = σ p ∧ 0 ≤ σ p ∧ σ p ≤ 255) (hσn : ∀ p : Nat, b ≤ p → σ p = -1) (h6 : 0 ≤ h 147 6 ∧ h 147 6 ≤ 100000) (hF : farB (h 151))
    (hno : ¬ (49 ≤ σ 0 ∧ σ 0 < 58) → ∀ h2, mrF h h2 → Q (some (pI (-1))) (shp0, rf0, h2))
    (hfl : ∀ H : Nat, (49 ≤ σ 0 ∧ σ 0 < 58) → (H : Int) = σ 0 - 48 → ∀ h2, mrF h h2 → ((neR σ H (2 * H)).2 = false ∨ (neR σ H (2 * H)).1 ≠ n) → Q (some (pI (-1 - ((neR σ H (2 * H)).1 : Int)))) (shp0, rf0, h2))
    (hon : ∀ H : Nat, (49 ≤ σ 0 ∧ σ 0 < 58) → (H : Int) = σ 0 - 48 → ∀ h2, mnN σ H h h2 → (neR σ H (2 * H)).2 = true → (neR σ H (2 * H)).1 = n → Q (some (pI H)) (shp0, rf0, h2)) : RR mX12_net 3 0 0 0 (pm_ent [pR 147] 6) [] (shp0, rf0, h) Q := by
  show RR _ _ _ _ _ [pR 147, pU, pU, pU, pU, pU] _ _ _
  have hbg := T_X12_begins (h := rup h 147 (fup (h 147) 0 0)) (m := 46) (n := n) (by rw [rup_s, fup_n (by omega)]; exact hn) hn80 (by omega)
  obtain ⟨h4, h4e⟩ : ∃ h4, h4 = rup h 147 (fup (fup (fup (fup (fup (h 147) 0 0) 15 0) 16 0) 18 0) 17 (min (n : Int) 46)) := ⟨_, rfl⟩
  have f4 : mrF h h4 := ⟨fun a a1 a2 => by rw [h4e, rup_n a1], fun j j1 j2 j3 j4 j5 j6 => by rw [h4e, rup_s]; simp (disch := omega) only [fup_n], by rw [h4e, rup_s]; simp (disch := omega) only [fup_n, fup_s]⟩
  have i4 : h4 147 16 = ((0 : Nat) : Int) := by rw [h4e, rup_s]; simp (disch := omega) only [fup_n, fup_s]; rfl
  have t4 : h4 147 17 = b := by rw [h4e, rup_s, fup_s]; omega
  have fσ : ∀ h1, mrF h h1 → ∀ p : Nat, p < b → h1 156 p = σ p ∧ 0 ≤ σ p ∧ σ p ≤ 255 := fun h1 f1 p hp => by rw [f1.1 156 (by omega) (by omega)]; exact hσ p hp
  have hT := T_signIn (h := h4) (ba := 48) (lo := 1) (hi0 := 9) i4 t4 (by omega) (by omega) (fσ h4 f4) hσn (by omega) (by omega) (by omega)
  rw [show ((0 : Nat) : Int) = 0 from rfl] at hT
  have K12 : RR mX12_net 3 0 0 12 [pR 147, pI n, pU, pU, pU, pU] [] (shp0, rf0, h4) Q := by
    by_cases q : 49 ≤ σ 0 ∧ σ 0 < 58
    · rw [if_pos (by omega), if_pos (by omega)] at hT
      have hb0 : 0 < b := by
        by_cases z : 0 < b
        · exact z
        · have := hσn 0 (by omega)
          rw [show ((0 : Nat) : Int) = 0 from rfl] at this
          omega
      obtain ⟨H, hH⟩ : ∃ H : Nat, (H : Int) = σ 0 - 48 := ⟨(σ 0 - 48).toNat, by omega⟩
      have hfl := hfl H q hH
      have hon := hon H q hH
      rw [← hH] at hT
      obtain ⟨h5, h5e⟩ : ∃ h5, h5 = rup h4 147 (fup (h4 147) 16 (0 + 1)) := ⟨_, rfl⟩
      rw [← h5e] at hT
      have f5 : mrF h h5 := ⟨fun a a1 a2 => by rw [h5e, rup_n a1]; exact f4.1 a a1 a2, fun j j1 j2 j3 j4 j5 j6 => by rw [h5e, rup_s, fup_n j3]; exact f4.2.1 j j1 j2 j3 j4 j5 j6, by rw [h5e, rup_s, fup_n (by omega)]; exact f4.2.2⟩
      have i5 : h5 147 16 = ((1 : Nat) : Int) := by rw [h5e, rup_s, fup_s]; rfl
      have t5 : h5 147 17 = b := by rw [h5e, rup_s, fup_n (by omega)]; exact t4
      have L := fun h1 => MNE_44 (h := h) (σ := σ) (H := H) (Q := Q) (by omega) hb46 hn80 hσ hσn hfl (fun h2 f2 v2 o2 o3 => MNE_124 (by omega) f2 v2 h6 hF (fun h9 m9 => hon h9 m9 o2 o3)) H 0 h1 (by omega)
      have hTk := T_X12_takes (c := 58) (h := h5) i5 t5 (by omega) (by omega) (fun p hp => by rw [(fσ h5 f5 p hp).1]; exact (fσ h5 f5 p hp).2) (by omega)
      have ex : mnX σ H 0 = if σ ((1 : Nat) : Int) = 58 then (2, true) else (1, false) := rfl
      clear hfl hon hno
      by_cases u : σ ((1 : Nat) : Int) = 58
      · rw [if_pos u] at ex
        have hb1 : 1 < b := by
          by_cases z : 1 < b
          · exact z
          · have := hσn 1 (by omega); omega
        have hcc : 1 < b ∧ h5 156 ((1 : Nat) : Int) = 58 := ⟨hb1, by rw [(fσ h5 f5 1 hb1).1]; exact u⟩
        rw [if_pos hcc, if_pos hcc] at hTk
        have K := L (rup h5 147 (fup (h5 147) 16 (((1 : Nat) : Int) + 1))) ⟨fun a a1 a2 => by rw [rup_n a1]; exact f5.1 a a1 a2, fun j j1 j2 j3 j4 j5 j6 => by rw [rup_s, fup_n j3]; exact f5.2.1 j j1 j2 j3 j4 j5 j6, by rw [rup_s, fup_n (by omega)]; exact f5.2.2⟩ (by rw [ex, rup_s, fup_s]; rfl) (by rw [rup_s, fup_n (by omega)]; exact t5) (by rw [ex]; exact hb1) (fun _ e he => by omega)
        rw [ex] at K
        have K : RR mX12_net 3 0 0 44 [pR 147, pI n, pI H, pI 1, pI 0, pU] [] (shp0, rf0, rup h5 147 (fup (h5 147) 16 (((1 : Nat) : Int) + 1))) Q := K
        generalize rup h5 147 (fup (h5 147) 16 (((1 : Nat) : Int) + 1)) = h9 at *
        clear L
        refine R_aload_n dX12_net_12 rfl (?_ : RR _ _ _ _ 13 _ _ _ _)
        refine R_bipush dX12_net_13 rfl (?_ : RR _ _ _ _ 15 _ _ _ _)
        refine R_iconst dX12_net_15 (?_ : RR _ _ _ _ 16 _ _ _ _)
        refine R_bipush dX12_net_16 rfl (?_ : RR _ _ _ _ 18 _ _ _ _)
        refine R_cVi3 dX12_net_18 mvX12_signIn mlX12_186 (by decide) (by decide) (Nat.le_of_ble_eq_true rfl) (Nat.le_of_ble_eq_true rfl) (hT) (?_ : RR _ _ _ _ 21 _ _ _ _)
        refine R_istore_n dX12_net_21 (Nat.le_of_ble_eq_true rfl) (?_ : RR _ _ _ _ 22 [_, _, _, _, _, _] _ _ _)
        refine R_iload_n dX12_net_22 rfl (?_ : RR _ _ _ _ 23 _ _ _ _)
        refine R_if_le (t := 39) dX12_net_23 rfl (fun c23 => ?_) (fun c23 => ?_)
        · exfalso; omega
        refine R_aload_n dX12_net_26 rfl (?_ : RR _ _ _ _ 27 _ _ _ _)
        refine R_bipush dX12_net_27 rfl (?_ : RR _ _ _ _ 29 _ _ _ _)
        refine R_cVi1 dX12_net_29 mvX12_takes mlX12_182 (by decide) (by decide) (Nat.le_of_ble_eq_true rfl) (Nat.le_of_ble_eq_true rfl) (hTk) (?_ : RR _ _ _ _ 32 _ _ _ _)
        refine R_if_eq (t := 39) dX12_net_32 rfl (fun c32 => ?_) (fun c32 => ?_)
        · exfalso; omega
        refine R_iconst dX12_net_35 (?_ : RR _ _ _ _ 36 _ _ _ _)
        refine R_goto (t := 40) dX12_net_36 rfl (?_ : RR _ _ _ _ 40 _ _ _ _)
        refine R_istore_n dX12_net_40 (Nat.le_of_ble_eq_true rfl) (?_ : RR _ _ _ _ 41 [_, _, _, _, _, _] _ _ _)
        refine R_iconst dX12_net_41 (?_ : RR _ _ _ _ 42 _ _ _ _)
        refine R_istore dX12_net_42 (Nat.le_of_ble_eq_true rfl) (?_ : RR _ _ _ _ 44 [_, _, _, _, _, _] _ _ _)
        exact K
      · rw [if_neg u] at ex
        have hcc : ¬ (1 < b ∧ h5 156 ((1 : Nat) : Int) = 58) := fun w => u (by rw [← (fσ h5 f5 1 w.1).1]; exact w.2)
        rw [if_neg hcc, if_neg hcc, ← i5, fup_self, rup_self] at hTk
        have K := L h5 f5 (by rw [ex]; exact i5) t5 (by rw [ex]; exact hb0) (fun _ e he => by omega)
        rw [ex] at K
        have K : RR mX12_net 3 0 0 44 [pR 147, pI n, pI H, pI 0, pI 0, pU] [] (shp0, rf0, h5) Q := K
        clear L
        refine R_aload_n dX12_net_12 rfl (?_ : RR _ _ _ _ 13 _ _ _ _)
        refine R_bipush dX12_net_13 rfl (?_ : RR _ _ _ _ 15 _ _ _ _)
        refine R_iconst dX12_net_15 (?_ : RR _ _ _ _ 16 _ _ _ _)
        refine R_bipush dX12_net_16 rfl (?_ : RR _ _ _ _ 18 _ _ _ _)
        refine R_cVi3 dX12_net_18 mvX12_signIn mlX12_186 (by decide) (by decide) (Nat.le_of_ble_eq_true rfl) (Nat.le_of_ble_eq_true rfl) (hT) (?_ : RR _ _ _ _ 21 _ _ _ _)
        refine R_istore_n dX12_net_21 (Nat.le_of_ble_eq_true rfl) (?_ : RR _ _ _ _ 22 [_, _, _, _, _, _] _ _ _)
        refine R_iload_n dX12_net_22 rfl (?_ : RR _ _ _ _ 23 _ _ _ _)
        refine R_if_le (t := 39) dX12_net_23 rfl (fun c23 => ?_) (fun c23 => ?_)
        · exfalso; omega
        refine R_aload_n dX12_net_26 rfl (?_ : RR _ _ _ _ 27 _ _ _ _)
        refine R_bipush dX12_net_27 rfl (?_ : RR _ _ _ _ 29 _ _ _ _)
        refine R_cVi1 dX12_net_29 mvX12_takes mlX12_182 (by decide) (by decide) (Nat.le_of_ble_eq_true rfl) (Nat.le_of_ble_eq_true rfl) (hTk) (?_ : RR _ _ _ _ 32 _ _ _ _)
        refine R_if_eq (t := 39) dX12_net_32 rfl (fun c32 => ?_) (fun c32 => ?_)
        rotate_left
        · exfalso; omega
        refine R_iconst dX12_net_39 (?_ : RR _ _ _ _ 40 _ _ _ _)
        refine R_istore_n dX12_net_40 (Nat.le_of_ble_eq_true rfl) (?_ : RR _ _ _ _ 41 [_, _, _, _, _, _] _ _ _)
        refine R_iconst dX12_net_41 (?_ : RR _ _ _ _ 42 _ _ _ _)
        refine R_istore dX12_net_42 (Nat.le_of_ble_eq_true rfl) (?_ : RR _ _ _ _ 44 [_, _, _, _, _, _] _ _ _)
        exact K
    · rw [if_neg (by omega), if_neg (by omega), show (0 : Int) = h4 147 16 by rw [i4]; rfl, fup_self, rup_self] at hT
      have K := MNE_106 (h1 := h4) (hh := -1) (w4 := pI 0) (ok := 0) (Q := Q) (Or.inl rfl) i4 t4 (by omega) hb46 hn80 (fun w => by omega) rfl (hno q h4 f4)
      clear hfl hon hno
      refine R_aload_n dX12_net_12 rfl (?_ : RR _ _ _ _ 13 _ _ _ _)
      refine R_bipush dX12_net_13 rfl (?_ : RR _ _ _ _ 15 _ _ _ _)
      refine R_iconst dX12_net_15 (?_ : RR _ _ _ _ 16 _ _ _ _)
      refine R_bipush dX12_net_16 rfl (?_ : RR _ _ _ _ 18 _ _ _ _)
      refine R_cVi3 dX12_net_18 mvX12_signIn mlX12_186 (by decide) (by decide) (Nat.le_of_ble_eq_true rfl) (Nat.le_of_ble_eq_true rfl) (hT) (?_ : RR _ _ _ _ 21 _ _ _ _)
      refine R_istore_n dX12_net_21 (Nat.le_of_ble_eq_true rfl) (?_ : RR _ _ _ _ 22 [_, _, _, _, _, _] _ _ _)
      refine R_iload_n dX12_net_22 rfl (?_ : RR _ _ _ _ 23 _ _ _ _)
      refine R_if_le (t := 39) dX12_net_23 rfl (fun c23 => ?_) (fun c23 => ?_)
      rotate_left
      · exfalso; omega
      refine R_iconst dX12_net_39 (?_ : RR _ _ _ _ 40 _ _ _ _)
      refine R_istore_n dX12_net_40 (Nat.le_of_ble_eq_true rfl) (?_ : RR _ _ _ _ 41 [_, _, _, _, _, _] _ _ _)
      refine R_iconst dX12_net_41 (?_ : RR _ _ _ _ 42 _ _ _ _)
      refine R_istore dX12_net_42 (Nat.le_of_ble_eq_true rfl) (?_ : RR _ _ _ _ 44 [_, _, _, _, _, _] _ _ _)
      refine R_iload dX12_net_44 rfl (?_ : RR _ _ _ _ 46 _ _ _ _)
      refine R_iload_n dX12_net_46 rfl (?_ : RR _ _ _ _ 47 _ _ _ _)
      refine R_icmp_ge (t := 106) dX12_net_47 rfl (fun c47 => ?_) (fun c47 => ?_)
      rotate_left
      · exfalso; omega
      exact K
  clear hfl hon hno
  refine R_aload_n dX12_net_0 rfl (?_ : RR _ _ _ _ 1 _ _ _ _)
  refine R_iconst dX12_net_1 (?_ : RR _ _ _ _ 2 _ _ _ _)
  refine R_puti (zk := 0) dX12_net_2 flX12_106 cok_12 (by decide) (fun q hq => by cases hq; rfl) rfl (?_ : RR _ _ _ _ 5 _ _ _ _)
  refine R_aload_n dX12_net_5 rfl (?_ : RR _ _ _ _ 6 _ _ _ _)
  refine R_bipush dX12_net_6 rfl (?_ : RR _ _ _ _ 8 _ _ _ _)
  refine R_cVi1 dX12_net_8 mvX12_begins mlX12_190 (by decide) (by decide) (Nat.le_of_ble_eq_true rfl) (Nat.le_of_ble_eq_true rfl) (hbg) (?_ : RR _ _ _ _ 11 _ _ _ _)
  simp (disch := omega) only [rup_rup, rup_s]
  rw [← h4e]
  refine R_istore_n dX12_net_11 (Nat.le_of_ble_eq_true rfl) (?_ : RR _ _ _ _ 12 [_, _, _, _, _, _] _ _ _)
  exact K12
theorem A_net (hs : SRx k h sem H0 np nc len) (hk : k ≤ 1000) : AG mX11_net mX12_net 4 3 [] k h := by
  obtain ⟨n, n1, n2, n3, n4⟩ := hs.2.1
  have hch := hs.2.2.2.1.2.2.2.2.1
  have hfar : farB (h 151) := hs.1.2.2.2.2.1.2.2.2.2.2.2.1
  have hbd : bnd (h 6) := hs.1.2.2.2.2.2.2.1.2.2.2.2.2.1
  have h8B := hs.2.2.2.2.2.1.2
  obtain ⟨b, hb⟩ : ∃ b, b = min n 46 := ⟨_, rfl⟩
  obtain ⟨σ, hσe⟩ : ∃ σ : Int → Int, σ = fun p => if 0 ≤ p ∧ p < (b : Int) then h 156 p else -1 := ⟨_, rfl⟩
  have hσi : ∀ p : Nat, p < b → σ p = h 156 p := fun p hp => by rw [hσe]; exact if_pos (by omega)
  have hσn : ∀ p : Nat, b ≤ p → σ p = -1 := fun p hp => by rw [hσe]; exact if_neg (by omega)
  have hσb : ∀ p : Int, -1 ≤ σ p ∧ σ p ≤ 255 := fun p => by
    rw [hσe]
    dsimp only
    split
    · rename_i q
      have := (n4 p.toNat (by omega)).2
      rw [show ((p.toNat : Nat) : Int) = p by omega] at this
      omega
    · omega
  obtain ⟨h9, h9e⟩ : ∃ h9, h9 = rup h 1 (fup (h 1) 2 (min (n : Int) 46)) := ⟨_, rfl⟩
  have hσc : ∀ p : Int, 0 ≤ p → signAt h9 p = σ p := fun p p0 => by
    unfold signAt
    rw [hσe, h9e, rup_s, fup_s, rup_n (by omega)]
    dsimp only
    by_cases q : p < min (n : Int) 46
    · rw [if_pos (by omega), if_pos (by omega)]
      have := (n4 p.toNat (by omega)).1
      rw [show ((p.toNat : Nat) : Int) = p by omega] at this
      exact this
    · rw [if_neg (by omega), if_neg (by omega)]
  have e9 : ∀ a, a ≠ 1 → h9 a = h a := fun a q => by rw [h9e, rup_n q]
  have hmod : ∀ (h3 : Nat → Int → Int) (Q : Option PV → PH → Prop), (∀ a, 147 ≤ a → h3 a = h a) → (¬ (49 ≤ σ 0 ∧ σ 0 < 58) → ∀ h2, mrF h3 h2 → Q (some (pI (-1))) (shp0, rf0, h2)) → (∀ H : Nat, (49 ≤ σ 0 ∧ σ 0 < 58) → (H : Int) = σ 0 - 48 → ∀ h2, mrF h3 h2 → ((neR σ H (2 * H)).2 = false ∨ (neR σ H (2 * H)).1 ≠ n) → Q (some (pI (-1 - ((neR σ H (2 * H)).1 : Int)))) (shp0, rf0, h2)) → (∀ H : Nat, (49 ≤ σ 0 ∧ σ 0 < 58) → (H : Int) = σ 0 - 48 → ∀ h2, mnN σ H h3 h2 → (neR σ H (2 * H)).2 = true → (neR σ H (2 * H)).1 = n → Q (some (pI H)) (shp0, rf0, h2)) → RR mX12_net 3 0 0 0 (pm_ent [pR 147] 6) [] (shp0, rf0, h3) Q := fun h3 Q e hno hfl hon => M_net (b := b) (by rw [e 147 (by omega)]; exact n2) n3 hb (fun p hp => by rw [e 156 (by omega), hσi p hp]; exact ⟨rfl, (n4 p (by omega)).2⟩) hσn (by rw [e 147 (by omega)]; omega) (by rw [e 151 (by omega)]; exact hfar) hno hfl hon
  by_cases q : 49 ≤ σ 0 ∧ σ 0 < 58
  · obtain ⟨H, hH⟩ : ∃ H : Nat, (H : Int) = σ 0 - 48 := ⟨(σ 0 - 48).toNat, by omega⟩
    have hR : ∀ Q : Option PV → PH → Prop, (∀ h2, nrF h9 h2 H → ((neR σ H (2 * H)).2 = false ∨ (neR σ H (2 * H)).1 ≠ n) → Q (some (pI (-1 - ((neR σ H (2 * H)).1 : Int)))) (shp0, rf0, h2)) → (∀ h2, nrF h9 h2 H → nrE σ H (2 * H) h2 → (neR σ H (2 * H)).2 = true → (neR σ H (2 * H)).1 = n → Q (some (pI H)) (shp0, rf0, h2)) → RR mX0_read 3 0 0 0 (pm_ent [pR 7, pR 1] 5) [] (shp0, rf0, h9) Q := fun Q hfl hon => C_read (n := n) hσc hσb (by rw [h9e, rup_s, fup_n (by omega)]; exact n1) n3 q hH (by rw [e9 8 (by omega)]; exact h8B.1) (by rw [e9 9 (by omega)]; exact h8B.2) hfl hon
    have hbn := neR_b (σ := σ) (H := H) (e := 2 * H)
    by_cases u : (neR σ H (2 * H)).2 = true ∧ (neR σ H (2 * H)).1 = n
    · have hrd := hR (fun r' g' => r' = some (pI H) ∧ ∃ h2, g' = (shp0, rf0, h2) ∧ nrF h9 h2 H ∧ nrE σ H (2 * H) h2) (fun h2 _ w => absurd u (fun z => by rcases w with w | w; (· rw [z.1] at w; cases w); (· exact w z.2))) (fun h2 f2 e2 _ _ => ⟨rfl, h2, rfl, f2, e2⟩)
      rw [h9e] at hrd
      refine C_net (σ := σ) (H := H) n1 n3 (by omega) hbd hrd (fun h3 hc => ?_)
      refine ⟨h3, rfl, hmod h3 _ (fun a ha => hc.1 a (by omega)) (fun w => absurd q w) (fun H' _ hH' h2 f2 w => ?_) (fun H' _ hH' h2 m2 _ _ => ?_)⟩
      · obtain rfl : H' = H := by omega
        exact absurd u (fun z => by rcases w with w | w; (· rw [z.1] at w; cases w); (· exact w z.2))
      · obtain rfl : H' = H := by omega
        exact ⟨rfl, h2, rfl, SR_net hs (by omega) hc m2⟩
    · have hu : (neR σ H (2 * H)).2 = false ∨ (neR σ H (2 * H)).1 ≠ n := by
        by_cases z : (neR σ H (2 * H)).2 = true
        · exact Or.inr (fun y => u ⟨z, y⟩)
        · exact Or.inl (Bool.eq_false_iff.mpr z)
      have hrd := hR (fun r' g' => r' = some (pI (-1 - ((neR σ H (2 * H)).1 : Int))) ∧ ∃ h2, g' = (shp0, rf0, h2) ∧ (∀ a, a ≠ 7 → a ≠ 8 → a ≠ 9 → h2 a = h9 a) ∧ exB (h2 8) ∧ miB (h2 9)) (fun h2 f2 _ => ⟨rfl, h2, rfl, f2.1, f2.2.2.1, f2.2.2.2⟩) (fun h2 _ _ y1 y2 => absurd ⟨y1, y2⟩ u)
      rw [h9e] at hrd
      refine C_net_no n1 n3 (by omega) (by omega) hrd (fun h3 c1 c2 c3 c4 => ?_)
      refine ⟨h3, rfl, hmod h3 _ (fun a ha => c1 a (by omega) (by omega) (by omega) (by omega)) (fun w => absurd q w) (fun H' _ hH' h2 f2 w => ?_) (fun H' _ hH' h2 m2 y1 y2 => ?_)⟩
      · obtain rfl : H' = H := by omega
        exact ⟨rfl, h2, rfl, SR_net_no hs c1 c2 c3 c4 f2⟩
      · obtain rfl : H' = H := by omega
        exact absurd ⟨y1, y2⟩ u
  · have hrd := T_X0_read_no (h := h9) hσc hσb q
    rw [h9e] at hrd
    refine C_net_no (r := -1) n1 n3 (by omega) (by omega) (RR.post hrd (fun r' g' z => ⟨z.1, _, z.2, fun _ _ _ _ => rfl, by rw [rup_n (by omega)]; exact h8B.1, by rw [rup_n (by omega)]; exact h8B.2⟩)) (fun h3 c1 c2 c3 c4 => ?_)
    exact ⟨h3, rfl, hmod h3 _ (fun a ha => c1 a (by omega) (by omega) (by omega) (by omega)) (fun _ h2 f2 => ⟨rfl, h2, rfl, SR_net_no hs c1 c2 c3 c4 f2⟩) (fun H' w => absurd w q) (fun H' w => absurd w q)⟩
end NEB
