section AP2
variable {k : Nat} {h h1 h2 h3 h4 hb : Nat → Int → Int} {sem : Sem} {H np nc len n b m : Nat} {σ f : Int → Int}
theorem M_pass {Q : Option PV → PH → Prop} (hn : h3 147 15 = n) (hn80 : n ≤ 80) (hb47 : b = min n 47) (KK : ∀ h4, mrF h3 h4 → h4 147 16 = 0 → h4 147 17 = b → h4 147 20 = 0 → RR mX12_passengers 3 0 0 29 [pR 147, pI n, pI 1, pI (if 0 < n then 1 else 0), pU, pU] [] (shp0, rf0, h4) Q) : RR mX12_passengers 3 0 0 0 (pm_ent [pR 147] 6) [] (shp0, rf0, h3) Q := by
  show RR _ _ _ _ _ [pR 147, pU, pU, pU, pU, pU] _ _ _
  obtain ⟨h4, h4e⟩ : ∃ h4, h4 = rup h3 147 (fup (fup (fup (fup (fup (fup (h3 147) 0 0) 15 0) 16 0) 18 0) 17 (min (n : Int) 47)) 20 0) := ⟨_, rfl⟩
  have K := KK h4 ⟨fun a a1 a2 => by rw [h4e, rup_n a1], fun j j1 j2 j3 j4 j5 j6 => by rw [h4e, rup_s]; simp (disch := omega) only [fup_n], by rw [h4e, rup_s]; simp (disch := omega) only [fup_n, fup_s]⟩ (by rw [h4e, rup_s]; simp (disch := omega) only [fup_n, fup_s]) (by rw [h4e, rup_s]; simp (disch := omega) only [fup_n, fup_s]; omega) (by rw [h4e, rup_s, fup_s])
  have hbg := T_X12_begins (h := rup h3 147 (fup (h3 147) 0 0)) (m := 47) (n := n) (by rw [rup_s, fup_n (by omega)]; exact hn) hn80 (by omega)
  by_cases z : 0 < n
  · rw [if_pos z] at K
    refine R_aload_n dX12_passengers_0 rfl (?_ : RR _ _ _ _ 1 _ _ _ _)
    refine R_iconst dX12_passengers_1 (?_ : RR _ _ _ _ 2 _ _ _ _)
    refine R_puti (zk := 0) dX12_passengers_2 flX12_106 cok_12 (by decide) (fun q hq => by cases hq; rfl) rfl (?_ : RR _ _ _ _ 5 _ _ _ _)
    refine R_aload_n dX12_passengers_5 rfl (?_ : RR _ _ _ _ 6 _ _ _ _)
    refine R_bipush dX12_passengers_6 rfl (?_ : RR _ _ _ _ 8 _ _ _ _)
    refine R_cVi1 dX12_passengers_8 mvX12_begins mlX12_190 (by decide) (by decide) (Nat.le_of_ble_eq_true rfl) (Nat.le_of_ble_eq_true rfl) (hbg) (?_ : RR _ _ _ _ 11 _ _ _ _)
    refine R_istore_n dX12_passengers_11 (Nat.le_of_ble_eq_true rfl) (?_ : RR _ _ _ _ 12 [_, _, _, _, _, _] _ _ _)
    refine R_aload_n dX12_passengers_12 rfl (?_ : RR _ _ _ _ 13 _ _ _ _)
    refine R_iconst dX12_passengers_13 (?_ : RR _ _ _ _ 14 _ _ _ _)
    refine R_puti (zk := 20) dX12_passengers_14 flX12_214 cok_12 (by decide) (fun q hq => by cases hq; rfl) rfl (?_ : RR _ _ _ _ 17 _ _ _ _)
    simp (disch := omega) only [rup_rup, rup_s]
    rw [← h4e]
    refine R_iconst dX12_passengers_17 (?_ : RR _ _ _ _ 18 _ _ _ _)
    refine R_istore_n dX12_passengers_18 (Nat.le_of_ble_eq_true rfl) (?_ : RR _ _ _ _ 19 [_, _, _, _, _, _] _ _ _)
    refine R_iload_n dX12_passengers_19 rfl (?_ : RR _ _ _ _ 20 _ _ _ _)
    refine R_if_le (t := 27) dX12_passengers_20 rfl (fun c20 => ?_) (fun c20 => ?_)
    · exfalso; omega
    refine R_iconst dX12_passengers_23 (?_ : RR _ _ _ _ 24 _ _ _ _)
    refine R_goto (t := 28) dX12_passengers_24 rfl (?_ : RR _ _ _ _ 28 _ _ _ _)
    refine R_istore_n dX12_passengers_28 (Nat.le_of_ble_eq_true rfl) (?_ : RR _ _ _ _ 29 [_, _, _, _, _, _] _ _ _)
    exact K
  · rw [if_neg z] at K
    refine R_aload_n dX12_passengers_0 rfl (?_ : RR _ _ _ _ 1 _ _ _ _)
    refine R_iconst dX12_passengers_1 (?_ : RR _ _ _ _ 2 _ _ _ _)
    refine R_puti (zk := 0) dX12_passengers_2 flX12_106 cok_12 (by decide) (fun q hq => by cases hq; rfl) rfl (?_ : RR _ _ _ _ 5 _ _ _ _)
    refine R_aload_n dX12_passengers_5 rfl (?_ : RR _ _ _ _ 6 _ _ _ _)
    refine R_bipush dX12_passengers_6 rfl (?_ : RR _ _ _ _ 8 _ _ _ _)
    refine R_cVi1 dX12_passengers_8 mvX12_begins mlX12_190 (by decide) (by decide) (Nat.le_of_ble_eq_true rfl) (Nat.le_of_ble_eq_true rfl) (hbg) (?_ : RR _ _ _ _ 11 _ _ _ _)
    refine R_istore_n dX12_passengers_11 (Nat.le_of_ble_eq_true rfl) (?_ : RR _ _ _ _ 12 [_, _, _, _, _, _] _ _ _)
    refine R_aload_n dX12_passengers_12 rfl (?_ : RR _ _ _ _ 13 _ _ _ _)
    refine R_iconst dX12_passengers_13 (?_ : RR _ _ _ _ 14 _ _ _ _)
    refine R_puti (zk := 20) dX12_passengers_14 flX12_214 cok_12 (by decide) (fun q hq => by cases hq; rfl) rfl (?_ : RR _ _ _ _ 17 _ _ _ _)
    simp (disch := omega) only [rup_rup, rup_s]
    rw [← h4e]
    refine R_iconst dX12_passengers_17 (?_ : RR _ _ _ _ 18 _ _ _ _)
    refine R_istore_n dX12_passengers_18 (Nat.le_of_ble_eq_true rfl) (?_ : RR _ _ _ _ 19 [_, _, _, _, _, _] _ _ _)
    refine R_iload_n dX12_passengers_19 rfl (?_ : RR _ _ _ _ 20 _ _ _ _)
    refine R_if_le (t := 27) dX12_passengers_20 rfl (fun c20 => ?_) (fun c20 => ?_)
    rotate_left
    · exfalso; omega
    refine R_iconst dX12_passengers_27 (?_ : RR _ _ _ _ 28 _ _ _ _)
    refine R_istore_n dX12_passengers_28 (Nat.le_of_ble_eq_true rfl) (?_ : RR _ _ _ _ 29 [_, _, _, _, _, _] _ _ _)
    exact K
theorem SR_pass {g : Nat → Int → Int} (hs : SRx k h sem H np nc len) (hm1 : 1 ≤ m) (hm12 : np + m ≤ 12) (hok : ∀ i, i < m → paOK σ H nc np i) (c1 : ∀ a, ¬ (a = 1 ∨ (11 ≤ a ∧ a ≤ 13) ∨ a = 18 ∨ a = 44 ∨ a = 47) → h3 a = h a) (c2 : h3 1 1 = 0) (c3 : h3 11 0 = ((np + m : Nat) : Int)) (c4 : h3 12 = itF np (paWa σ) (h 12) m) (c5 : h3 13 = itF np (paRa σ) (h 13) m) (c6 : h3 18 = outF (itF np (paWa σ) (h 12) m) (trHal h 14) (itF np (paCo σ) (h 18) m) (np + m)) (c7 : h3 44 3 = 0) (c8 : h3 44 4 = h 44 4) (c9 : ∀ i : Nat, i < 3 → h3 47 i = 0) (f1 : mrF h3 hb) (f2 : mpP hb σ (h 154) np m h2) (hg : g = rup h2 147 (fup (fup (h2 147) 28 0) 6 (h2 147 6 + 1))) : SR (k + 1) g := by
  have fr : ∀ a, a ≠ 147 → a ≠ 152 → a ≠ 153 → a ≠ 154 → a ≠ 157 → g a = h3 a := fun a a1 a2 a3 a4 a5 => by rw [hg, rup_n a1, f2.1 a a1 a2 a3 a4, f1.1 a a1 a5]
  have fr2 : ∀ a, ¬ (a = 147 ∨ a = 152 ∨ a = 153 ∨ a = 154 ∨ a = 157 ∨ a = 1 ∨ (11 ≤ a ∧ a ≤ 13) ∨ a = 18 ∨ a = 44 ∨ a = 47) → g a = h a := fun a q => by rw [fr a (by omega) (by omega) (by omega) (by omega) (by omega)]; exact c1 a (by omega)
  have fj : ∀ j : Int, ¬ (j = 0 ∨ j = 15 ∨ j = 16 ∨ j = 17 ∨ j = 18 ∨ j = 20 ∨ j = 5 ∨ j = 28 ∨ j = 6) → g 147 j = h 147 j := fun j q => by rw [hg, rup_s, fup_n (by omega), fup_n (by omega), f2.2.1 j (by omega), f1.2.1 j (by omega) (by omega) (by omega) (by omega) (by omega) (by omega), c1 147 (by omega)]
  have hb152 : hb 152 = h 152 := by rw [f1.1 152 (by omega) (by omega)]; exact c1 152 (by omega)
  have hb153 : hb 153 = h 153 := by rw [f1.1 153 (by omega) (by omega)]; exact c1 153 (by omega)
  have g5 : g 147 5 = ((np + m : Nat) : Int) := by rw [hg, rup_s, fup_n (by omega), fup_n (by omega)]; exact f2.2.2.1
  have g152 : g 152 = itF np (paWa σ) (h 152) m := by rw [hg, rup_n (by omega), f2.2.2.2.1, hb152]
  have g153 : g 153 = itF np (paRa σ) (h 153) m := by rw [hg, rup_n (by omega), f2.2.2.2.2.1, hb153]
  have g154 : g 154 = itF (14 + np) (paV σ (h 154)) (h 154) m := by rw [hg, rup_n (by omega)]; exact f2.2.2.2.2.2
  have g28 : g 147 28 = 0 := by rw [hg, rup_s, fup_n (by omega), fup_s]
  have g6 : g 147 6 = h 147 6 + 1 := by rw [hg, rup_s, fup_s, f2.2.1 6 (by omega), f1.2.1 6 (by omega) (by omega) (by omega) (by omega) (by omega) (by omega), c1 147 (by omega)]
  have g15 : g 147 15 = 0 := by rw [hg, rup_s, fup_n (by omega), fup_n (by omega), f2.2.1 15 (by omega)]; exact f1.2.2
  obtain ⟨⟨b1, b2, b3, b4, b5, b6, b7, b8, b9, b10, b11⟩, ha, hd, hu, hss, hsp⟩ := id hs
  obtain ⟨o1, o2, o3, o4, o5, o6, o7, o8, o9⟩ : xOK (cxM sem h np nc) H := b5
  have o9 : ∀ p : Nat, p < np → 0 ≤ h 152 p ∧ h 152 p < H := o9
  have x6 : nc ≤ 6 := o4
  obtain ⟨d1, d2, d3, d4⟩ := id b7
  have d2 : h 11 0 = np ∧ ∀ p : Nat, p < np → h 12 p = h 152 p ∧ h 13 p = h 153 p := d2
  obtain ⟨⟨f0, ff1, ff2, ff3, ff4, ff5⟩, e0, e1, e2, e3, ep, ea, es⟩ := hu.1
  have ff4 : ∀ c : Nat, c < nc → (mP (h 154) c = -1 ∧ 0 ≤ mA (h 154) c ∧ mA (h 154) c < H) ∨ (0 ≤ mP (h 154) c ∧ mP (h 154) c < len ∧ h (14 + 1) (mP (h 154) c) = c) := ff4
  have ff5 : ∀ p : Nat, p < np → mS (h 154) p = -1 ∨ (0 ≤ mS (h 154) p ∧ mS (h 154) p < nc ∧ halS (h 154 0) (mP (h 154)) (mA (h 154)) (mS (h 154) p) ≠ h 152 p) := ff5
  have ep : ∀ c : Nat, c < nc → h (14 + 2) c = mP (h 154) c := ep
  have ea : ∀ c : Nat, c < nc → mP (h 154) c = -1 → h (14 + 3) c = mA (h 154) c := ea
  have es : ∀ p : Nat, p < np → h 18 p = mS (h 154) p := es
  have pin : ∀ (v : Nat → Int) (F : Int → Int) (p : Nat), np ≤ p → p < np + m → itF np v F m p = v (p - np) := fun v F p p1 p2 => by
    have h3 := itF_in (o := (np : Int)) (v := v) (f := F) (i := p - np) m (by omega)
    rw [show (np : Int) + ((p - np : Nat) : Int) = p by omega] at h3
    exact h3
  have pout : ∀ (v : Nat → Int) (F : Int → Int) (p : Nat), p < np → itF np v F m p = F p := fun v F p p1 => itF_out m (by omega)
  have co : ∀ i, i < m → 0 ≤ paCo σ i ∧ paCo σ i < nc ∧ 0 ≤ paWa σ i ∧ paWa σ i < H := fun i hi => by
    obtain ⟨⟨y, y1, y2⟩, ⟨u1, u2⟩, -⟩ := hok i hi
    unfold paCo paWa
    omega
  have hP : ∀ c : Int, 0 ≤ c → c < nc → mP (g 154) c = mP (h 154) c := fun c z0 z1 => by rw [g154]; exact itF_out m (by omega)
  have hA : ∀ c : Int, 0 ≤ c → c < nc → mA (g 154) c = mA (h 154) c := fun c z0 z1 => by rw [g154]; exact itF_out m (by omega)
  have h0 : g 154 0 = h 154 0 := by rw [g154]; exact itF_out m (by omega)
  have h1' : g 154 1 = h 154 1 := by rw [g154]; exact itF_out m (by omega)
  have hSo : ∀ p : Nat, p < np → mS (g 154) p = mS (h 154) p := fun p hp => by rw [g154]; exact itF_out m (by omega)
  have hSi : ∀ p : Nat, np ≤ p → p < np + m → mS (g 154) p = paV σ (h 154) (p - np) := fun p p1 p2 => by
    rw [g154]
    have h3 := itF_in (o := 14 + (np : Int)) (v := paV σ (h 154)) (f := h 154) (i := p - np) m (by omega)
    rw [show 14 + (np : Int) + ((p - np : Nat) : Int) = 14 + p by omega] at h3
    exact h3
  have hha : ∀ c : Int, 0 ≤ c → c < nc → halS (h 154 0) (mP (h 154)) (mA (h 154)) c = paH (h 154) c ∧ trHal h 14 c = paH (h 154) c := fun c z0 z1 => by
    have k1 := ff4 c.toNat (by omega)
    have k2 := ep c.toNat (by omega)
    have k3 := ea c.toNat (by omega)
    rw [show ((c.toNat : Nat) : Int) = c by omega] at k1 k2 k3
    unfold halS paH trHal
    rw [k2, e0]
    by_cases z : mP (h 154) c = -1
    · rw [if_pos z, if_neg (by omega), if_pos z, k3 z]; exact ⟨rfl, rfl⟩
    · rw [if_neg z, if_pos (by omega), if_neg z]; exact ⟨rfl, rfl⟩
  have hCpl : Cpl (cxM sem g (np + m) nc) H g 14 (g 154) len := by
    have t15 : g (14 + 1) = h (14 + 1) := fr2 (14 + 1) (by omega)
    have t16 : g (14 + 2) = h (14 + 2) := fr2 (14 + 2) (by omega)
    have t17 : g (14 + 3) = h (14 + 3) := fr2 (14 + 3) (by omega)
    have t14 : g 14 = h 14 := fr2 14 (by omega)
    have t18 : g (14 + 4) = h3 18 := fr 18 (by omega) (by omega) (by omega) (by omega) (by omega)
    refine ⟨⟨?_, ?_, ff2, fun j hj => ?_, fun c hc => ?_, fun p hp => ?_⟩, ?_, ?_, ?_, ?_, fun c hc => ?_, fun c hc hz => ?_, fun p hp => ?_⟩
    · rw [h0]; exact f0
    · rw [h1']; exact ff1
    · rw [t15]
      have k1 : 0 ≤ h (14 + 1) j ∧ h (14 + 1) j < nc ∧ mP (h 154) (h (14 + 1) j) = j := ff3 j hj
      rw [hP _ k1.1 k1.2.1]; exact k1
    · have hc : c < nc := hc
      rw [hP c (by omega) (by omega), hA c (by omega) (by omega), t15]; exact ff4 c hc
    · have hp : p < np + m := hp
      show _ ∨ (_ ∧ _ < (nc : Int) ∧ _ ≠ g 152 p)
      rw [g152]
      by_cases z : p < np
      · rw [hSo p z, pout _ _ p z]
        rcases ff5 p z with w | ⟨w1, w2, w3⟩
        · exact Or.inl w
        · right
          refine ⟨w1, w2, ?_⟩
          unfold halS at w3 ⊢
          rw [hP _ w1 w2, hA _ w1 w2, h0]; exact w3
      · rw [hSi p (by omega) hp, pin _ _ p (by omega) hp]
        have k1 := co (p - np) (by omega)
        unfold paV
        by_cases w : paH (h 154) (paCo σ (p - np)) = paWa σ (p - np)
        · rw [if_pos w]; exact Or.inl rfl
        · rw [if_neg w]
          right
          refine ⟨k1.1, k1.2.1, ?_⟩
          have k2 := (hha (paCo σ (p - np)) k1.1 k1.2.1).1
          unfold halS at k2 ⊢
          rw [hP _ k1.1 k1.2.1, hA _ k1.1 k1.2.1, h0, k2]; exact w
    · rw [t14, h0]; exact e0
    · rw [t14, h1']; exact e1
    · rw [t14]; exact e2
    · rw [t14]; exact e3
    · have hc : c < nc := hc
      rw [t16, hP c (by omega) (by omega)]; exact ep c hc
    · have hc : c < nc := hc
      rw [hP c (by omega) (by omega)] at hz
      rw [t17, hA c (by omega) (by omega)]; exact ea c hc hz
    · have hp : p < np + m := hp
      rw [t18, c6]
      unfold outF
      by_cases z : p < np
      · rw [pout _ _ p z, pout _ _ p z, hSo p z, es p z, (d2.2 p z).1]
        rw [if_neg]
        intro w
        rcases ff5 p z with y | ⟨y1, y2, y3⟩
        · exact w.2.2.1 y
        · have k2 := hha _ y1 y2
          rw [k2.1] at y3
          rw [k2.2] at w
          exact y3 w.2.2.2
      · rw [pin _ _ p (by omega) hp, pin _ _ p (by omega) hp, hSi p (by omega) hp]
        have k1 := co (p - np) (by omega)
        rw [(hha (paCo σ (p - np)) k1.1 k1.2.1).2]
        unfold paV
        by_cases w : paH (h 154) (paCo σ (p - np)) = paWa σ (p - np)
        · rw [if_pos w, if_pos ⟨by omega, by omega, by omega, w⟩]
        · rw [if_neg w, if_neg (fun y => w y.2.2.2)]
  refine ⟨sem, H, np + m, nc, len, ⟨?_, ?_, g5, ?_, ?_, ?_, ?_, ?_, ?_, ?_, fun _ => ?_⟩, ⟨0, ?_, g15, by omega, fun i hi => by omega⟩, ?_, SU_mk hCpl ?_ ?_ ?_ ?_, ?_, ?_⟩
  · rw [fj 3 (by omega)]; exact b1
  · rw [fj 4 (by omega)]; exact b2
  · rw [fr2 3 (by omega)]; exact b4
  · unfold xOK cxM
    rw [fr2 149 (by omega), fr2 150 (by omega), fr2 151 (by omega), g152]
    refine ⟨o1, o2, hm12, o4, o5, o6, o7, o8, fun p hp => ?_⟩
    have hp : p < np + m := hp
    show 0 ≤ itF np (paWa σ) (h 152) m p ∧ itF np (paWa σ) (h 152) m p < H
    by_cases z : p < np
    · rw [pout _ _ p z]; exact o9 p z
    · rw [pin _ _ p (by omega) hp]
      have k1 := co (p - np) (by omega)
      omega
  · rw [fr2 149 (by omega), fr2 150 (by omega), fr2 151 (by omega)]; exact b6
  · have hR : RidC (cxM sem g (np + m) nc) g := by
      refine ⟨?_, fun p hp => ?_⟩
      · rw [fr 11 (by omega) (by omega) (by omega) (by omega) (by omega)]; exact c3
      · have hp : p < np + m := hp
        show g 12 p = g 152 p ∧ g 13 p = g 153 p
        rw [fr 12 (by omega) (by omega) (by omega) (by omega) (by omega), fr 13 (by omega) (by omega) (by omega) (by omega) (by omega), c4, c5, g152, g153]
        by_cases z : p < np
        · rw [pout _ _ p z, pout _ _ p z, pout _ _ p z, pout _ _ p z]; exact d2.2 p z
        · rw [pin _ _ p (by omega) hp, pin _ _ p (by omega) hp, pin _ _ p (by omega) hp, pin _ _ p (by omega) hp]; exact ⟨rfl, rfl⟩
    have hN : NetC (cxM sem g (np + m) nc) H g 3 := by
      have d1 : (∀ e : Int, 0 ≤ e → e < 2 * H → h (3 + 1) e = h 149 e ∧ h (3 + 2) e = h 150 e) ∧ ∀ a b : Int, 0 ≤ a → a < H → 0 ≤ b → b < H → h (3 + 3) (a * 9 + b) = nds (h 151) (a * 9 + b) := d1
      show (∀ e : Int, 0 ≤ e → e < 2 * H → g (3 + 1) e = g 149 e ∧ g (3 + 2) e = g 150 e) ∧ ∀ a b : Int, 0 ≤ a → a < H → 0 ≤ b → b < H → g (3 + 3) (a * 9 + b) = nds (g 151) (a * 9 + b)
      rw [fr2 (3 + 1) (by omega), fr2 (3 + 2) (by omega), fr2 (3 + 3) (by omega), fr2 149 (by omega), fr2 150 (by omega), fr2 151 (by omega)]
      exact d1
    have hU : ruOK g 29 sem := by
      have d3 : ruOK h 29 sem := d3
      unfold ruOK at d3 ⊢
      rw [fr2 29 (by omega), fr2 (29 + 1) (by omega)]; exact d3
    refine ⟨hN, hR, hU, ?_, ?_, ?_, d4.2.2.2⟩
    · rw [fr2 (3 + 1) (by omega)]; exact d4.1
    · rw [fr2 (3 + 2) (by omega)]; exact d4.2.1
    · rw [fr2 (3 + 3) (by omega)]; exact d4.2.2.1
  · exact mrOK_fr b8 (fj 23 (by omega)) (fr2 158 (by omega))
  · rw [fr2 29 (by omega)]; exact b9
  · rw [fr2 29 (by omega)]; exact b10
  · have := co 0 (by omega); omega
  · rw [fr 1 (by omega) (by omega) (by omega) (by omega) (by omega)]; exact c2
  · exact SD_same hd (by rw [fr2 145 (by omega)]) (fj 1 (by omega)) (fr2 146 (by omega)) (fr2 148 (by omega))
  · rw [h1']
    have := hu.2.1
    omega
  · rw [fr2 155 (by omega)]
    exact fun j q => by rw [g154, itF_out m (by omega)]; exact hu.2.2.1 j q
  · exact SUn_0 (SU_un hu) (by rw [fr 44 (by omega) (by omega) (by omega) (by omega) (by omega)]; exact c7) g28 (by rw [fr 44 (by omega) (by omega) (by omega) (by omega) (by omega)]; exact c8)
  · exact SKp_0 (SU_kp hu) (fun i hi => by rw [fr 47 (by omega) (by omega) (by omega) (by omega) (by omega)]; exact c9 i hi) (fr2 175 (by omega)) (fr2 176 (by omega)) g6
  · exact SS_fr hss (fr2 138 (by omega)) (fj 40 (by omega)) (fr2 139 (by omega)) (fr2 170 (by omega)) (fr2 171 (by omega)) (fr2 172 (by omega))
  · exact SP_fr hsp (fr2 10 (by omega)) (fr2 8 (by omega)) (fr2 9 (by omega)) (fr2 32 (by omega)) (by rw [fj 30 (by omega)]; exact hsp.2.2)
end AP2
