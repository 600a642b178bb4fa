section RUB
variable {k : Nat} {h h1 h2 h3 h4 g : Nat → Int → Int} {sem sem2 : Sem} {H np nc len N d p b l m n : Nat} {σ : Int → Int} {v : (Int → Int) → Int} {u : Bool}
theorem T_X12_laysCode {r c : Nat} (hr : r = 159 ∨ r = 169) (hc : c ≤ 80) : MT mX12_laysCode 0 [pR 147, pR r, pI c] h none (rup (rup h 147 (fup (h 147) 23 c)) 158 (cpy (h r) (h 158) c)) := by
  refine MT.of (fun Q hQ => (?_ : RR mX12_laysCode _ _ _ _ [pR 147, pR r, pI c, pU] _ _ _))
  have hsh : shp0[r]? = some (100, 80) := by rcases hr with rfl | rfl <;> rfl
  have hr8 : r ≠ 158 ∧ r ≠ 147 := by omega
  have L : ∀ (j i : Nat), i + j = c → RR mX12_laysCode 0 0 0 7 [pR 147, pR r, pI c, pI i] [] (shp0, rf0, rup (rup h 147 (fup (h 147) 23 c)) 158 (cpy (h r) (h 158) i)) Q := by
    intro j
    induction j with
    | zero =>
      intro i hi
      obtain rfl : i = c := by omega
      refine R_iload_n dX12_laysCode_7 rfl (?_ : RR _ _ _ _ 8 _ _ _ _)
      refine R_iload_n dX12_laysCode_8 rfl (?_ : RR _ _ _ _ 9 _ _ _ _)
      refine R_icmp_ge (t := 27) dX12_laysCode_9 rfl (fun c9 => ?_) (fun c9 => ?_)
      rotate_left
      · exfalso; omega
      exact R_return dX12_laysCode_27 trivial hQ
    | succ j ih =>
      intro i hi
      have K := ih (i + 1) (by omega)
      have e : fup (cpy (h r) (h 158) i) i (h r i) = cpy (h r) (h 158) ((i + 1 : Nat) : Int) := by
        funext z
        by_cases y : z = i
        · rw [y, fup_s]; unfold cpy; rw [if_pos (by omega)]
        · rw [fup_n y]
          unfold cpy
          by_cases w : 0 ≤ z ∧ z < (i : Int)
          · rw [if_pos w, if_pos (by omega)]
          · rw [if_neg w, if_neg (by omega)]
      rw [← e, show ((i + 1 : Nat) : Int) = (i : Int) + 1 by omega] at K
      obtain ⟨g, hg⟩ : ∃ g, g = rup h 147 (fup (h 147) 23 c) := ⟨_, rfl⟩
      have gr : g r = h r := by rw [hg, rup_n hr8.2]
      rw [← hg] at K ⊢
      clear ih hQ e
      refine R_iload_n dX12_laysCode_7 rfl (?_ : RR _ _ _ _ 8 _ _ _ _)
      refine R_iload_n dX12_laysCode_8 rfl (?_ : RR _ _ _ _ 9 _ _ _ _)
      refine R_icmp_ge (t := 27) dX12_laysCode_9 rfl (fun c9 => ?_) (fun c9 => ?_)
      · exfalso; omega
      refine R_aload_n dX12_laysCode_12 rfl (?_ : RR _ _ _ _ 13 _ _ _ _)
      refine R_getr dX12_laysCode_13 flX12_45 cok_12 rfl (by decide) (?_ : RR _ _ _ _ 16 _ _ _ _)
      refine R_iload_n dX12_laysCode_16 rfl (?_ : RR _ _ _ _ 17 _ _ _ _)
      refine R_aload_n dX12_laysCode_17 rfl (?_ : RR _ _ _ _ 18 _ _ _ _)
      refine R_iload_n dX12_laysCode_18 rfl (?_ : RR _ _ _ _ 19 _ _ _ _)
      refine R_iald dX12_laysCode_19 (fun q19 => (?_ : RR _ _ _ _ 20 _ _ _ _))
      rw [rup_n hr8.1, gr] at q19 ⊢
      refine R_iast dX12_laysCode_20 (?_ : RR _ _ _ _ 21 _ _ _ _)
      rw [rup_s, rup_rup]
      refine R_iinc dX12_laysCode_21 rfl (Nat.le_of_ble_eq_true rfl) (?_ : RR _ _ _ _ 24 [_, _, _, _] _ _ _)
      refine R_goto (t := 7) dX12_laysCode_24 rfl (?_ : RR _ _ _ _ 7 _ _ _ _)
      exact K
  have L0 := L c 0 (by omega)
  have e0 : cpy (h r) (h 158) ((0 : Nat) : Int) = h 158 := by funext z; unfold cpy; rw [if_neg (by omega)]
  rw [e0] at L0
  have e1 : rup (rup h 147 (fup (h 147) 23 c)) 158 (h 158) = rup h 147 (fup (h 147) 23 c) := by
    rw [show h 158 = rup h 147 (fup (h 147) 23 c) 158 by rw [rup_n (by omega)], rup_self]
  rw [e1] at L0
  have L0 : RR mX12_laysCode 0 0 0 7 [pR 147, pR r, pI c, pI 0] [] (shp0, rf0, rup h 147 (fup (h 147) 23 c)) Q := L0
  clear L
  refine R_aload_n dX12_laysCode_0 rfl (?_ : RR _ _ _ _ 1 _ _ _ _)
  refine R_iload_n dX12_laysCode_1 rfl (?_ : RR _ _ _ _ 2 _ _ _ _)
  refine R_puti (zk := 23) dX12_laysCode_2 flX12_257 cok_12 (by decide) (fun q hq => by cases hq; rfl) rfl (?_ : RR _ _ _ _ 5 _ _ _ _)
  refine R_iconst dX12_laysCode_5 (?_ : RR _ _ _ _ 6 _ _ _ _)
  refine R_istore_n dX12_laysCode_6 (Nat.le_of_ble_eq_true rfl) (?_ : RR _ _ _ _ 7 [_, _, _, _] _ _ _)
  exact L0
/-- a new rule -/
theorem SR_rl (hs : SRx k h sem H np nc len) (hF : gF (fun a => a = 1 ∨ a = 2 ∨ a = 156 ∨ a = 1015 ∨ a = 29 ∨ a = 30 ∨ a = 32 ∨ a = 33 ∨ a = 158 ∨ a = 1023) h g) (hA : SA g) (hD : SD g) (h29 : ruOK g 29 sem2) (hm : mrOK g sem2) (hn : g 29 4 = 0 ∨ g 29 4 = 1) (hnn : g 29 4 = 0 → noN sem2) (h32 : g 32 4 = 0 ∨ g 32 4 = 1) : SR (k + 1) g := by
  obtain ⟨⟨b1, b2, b3, b4, b5, b6, b7, b8, b9, b10, b11⟩, ha, hd, hu, hss, hsp⟩ := id hs
  have fr : ∀ a, ¬ scr a → ¬ (a = 1 ∨ a = 2 ∨ a = 156 ∨ a = 1015 ∨ a = 29 ∨ a = 30 ∨ a = 32 ∨ a = 33 ∨ a = 158 ∨ a = 1023) → g a = h a := hF.1
  have eX : cxM sem g np nc = cxM sem h np nc := gX hF (fun a a1 a2 z => by omega)
  have e149 : ∀ a, 149 ≤ a → a ≤ 153 → g a = h a := fun a a1 a2 => fr a (by omega) (by omega)
  have eX2 : cxM sem2 g np nc = cxM sem2 h np nc := gX hF (fun a a1 a2 z => by omega)
  refine ⟨sem2, H, np, nc, len, ⟨?_, ?_, ?_, ?_, ?_, ?_, ?_, hm, hn, hnn, b11⟩, hA, hD, ?_, gS hF hss (fun a q z => by omega), ⟨?_, h32, hF.2.2.1 hsp.2.2⟩⟩
  · exact (hF.2.1 3 (by omega) (by omega)).trans b1
  · exact (hF.2.1 4 (by omega) (by omega)).trans b2
  · exact (hF.2.1 5 (by omega) (by omega)).trans b3
  · rw [fr 3 (by omega) (by omega)]; exact b4
  · rw [eX2]; exact b5
  · rw [e149 149 (by omega) (by omega), e149 150 (by omega) (by omega), e149 151 (by omega) (by omega)]; exact b6
  · rw [eX2]
    obtain ⟨d1, d2, d3, d4, d5, d6, d7⟩ := b7
    refine ⟨?_, ?_, h29, ?_, ?_, ?_, d7⟩
    · have d1 : NetC (cxM sem2 h np nc) H h 3 := d1
      unfold NetC at d1 ⊢
      rw [fr (3 + 1) (by omega) (by omega), fr (3 + 2) (by omega) (by omega), fr (3 + 3) (by omega) (by omega)]
      exact d1
    · have d2 : RidC (cxM sem2 h np nc) h := d2
      unfold RidC at d2 ⊢
      rw [fr 11 (by omega) (by omega), fr 12 (by omega) (by omega), fr 13 (by omega) (by omega)]
      exact d2
    · rw [fr (3 + 1) (by omega) (by omega)]; exact d4
    · rw [fr (3 + 2) (by omega) (by omega)]; exact d5
    · rw [fr (3 + 3) (by omega) (by omega)]; exact d6
  · rw [eX2]
    exact gT (X := cxM sem h np nc) (X' := cxM sem2 h np nc) hF hu (sR6 hs) (sR12 hs) rfl rfl (fun _ _ => rfl) (gU (X := cxM sem h np nc) (X' := cxM sem2 h np nc) hF (SU_un hu) (sR6 hs) (sR12 hs) rfl rfl (fun _ _ => rfl) (fun a q z => by omega)) (gK (X := cxM sem h np nc) (X' := cxM sem2 h np nc) hF (SU_kp hu) (sR6 hs) (sR12 hs) rfl rfl (fun _ _ => rfl) (fun a q z => by omega)) (fun a q z => by omega)
  · rw [fr 10 (by omega) (by omega), fr 8 (by omega) (by omega), fr 9 (by omega) (by omega)]; exact hsp.1
/-- what the class's rule() leaves -/
def cRl (σ : Int → Int) (n : Nat) (h : Nat → Int → Int) (r' : Option PV) (g' : PH) : Prop := ∃ h3, g' = (shp0, rf0, h3) ∧ h3 1 1 = 0 ∧ (h3 32 4 = 0 ∨ h3 32 4 = 1) ∧ ((¬ rqG σ n ∧ r' = some (pI (-1 - ((rqX σ).1 : Int))) ∧ ∀ a, a ≠ 1 → a ≠ 32 → a ≠ 33 → h3 a = h a) ∨ (rqG σ n ∧ r' = some (pI 0) ∧ (∀ a, a ≠ 1 → a ≠ 32 → a ≠ 33 → a ≠ 29 → a ≠ 30 → h3 a = h a) ∧ h3 29 4 = (if rqU σ n then 1 else 0) ∧ ruOK h3 29 (smV (rqV σ n))))
theorem C_rule (h1n : h 1 1 = n) (hn80 : n ≤ 80) (hb40 : b = min n 40) (hσ : ∀ p : Int, 0 ≤ p → signAt (rup h 1 (fup (h 1) 2 (min (n : Int) 40))) p = σ p) (hσn : ∀ p : Nat, b ≤ p → σ p = -1) (hσb : ∀ p : Int, -1 ≤ σ p ∧ σ p ≤ 255) : RR mX11_rule 761 0 0 0 (pm_ent [pR 0] 2) [] (shp0, rf0, h) (cRl σ n h) := by
  show RR _ _ _ _ _ [pR 0, pU] _ _ _
  have r29 := isRule_29
  have r32 := isRule_32
  have hT := C_rread h1n hn80 hb40 hσ hσn hσb
  have hx := rqX_b hσn (show b ≤ 40 by omega)
  have K11 : ∀ r' g', rqP σ n h r' g' → ∃ z : Int, r' = some (pI z) ∧ RR mX11_rule 761 0 0 11 [pR 0, pU] [pI z] g' (cRl σ n h) := by
    intro r' g' hc
    obtain ⟨h2, rfl, f2, hz⟩ := hc
    obtain ⟨h4, h4e⟩ : ∃ h4, h4 = rup h2 1 (fup (h2 1) 1 0) := ⟨_, rfl⟩
    have f4 : ∀ a, a ≠ 1 → h4 a = h2 a := fun a a1 => by rw [h4e, rup_n a1]
    have e4 : h4 1 1 = 0 := by rw [h4e, rup_s, fup_s]
    rcases hz with ⟨w1, rfl, w2⟩ | ⟨w1, rfl, k, k40, w2, w3, w4⟩
    · refine ⟨_, rfl, ?_⟩
      have hq : cRl σ n h (some (pI (-1 - ((rqX σ).1 : Int)))) (shp0, rf0, h4) := ⟨h4, rfl, e4, by rw [f4 32 (by omega)]; exact w2, Or.inl ⟨w1, rfl, fun a a1 a2 a3 => by rw [f4 a a1]; exact f2.1 a a1 a2 a3⟩⟩
      generalize cRl σ n h = QQ at *
      generalize rqX σ = x at *
      clear hT
      refine R_istore_n dX11_rule_11 (Nat.le_of_ble_eq_true rfl) (?_ : RR _ _ _ _ 12 [_, _] _ _ _)
      refine R_aload_n dX11_rule_12 rfl (?_ : RR _ _ _ _ 13 _ _ _ _)
      refine R_getr dX11_rule_13 flX11_10 cok_11 rfl (by decide) (?_ : RR _ _ _ _ 16 _ _ _ _)
      refine R_iconst dX11_rule_16 (?_ : RR _ _ _ _ 17 _ _ _ _)
      refine R_puti (zk := 1) dX11_rule_17 flX11_91 cok_7 (by decide) (fun q hq => by cases hq; rfl) rfl (?_ : RR _ _ _ _ 20 _ _ _ _)
      rw [← h4e]
      refine R_iload_n dX11_rule_20 rfl (?_ : RR _ _ _ _ 21 _ _ _ _)
      refine R_if_ne (t := 35) dX11_rule_21 rfl (fun c21 => ?_) (fun c21 => ?_)
      rotate_left
      · exfalso; omega
      refine R_iload_n dX11_rule_35 rfl (?_ : RR _ _ _ _ 36 _ _ _ _)
      exact R_ireturn dX11_rule_36 trivial hq
    · refine ⟨0, rfl, ?_⟩
      have u4 : h4 32 4 = 0 ∨ h4 32 4 = 1 := by rw [f4 32 (by omega), w3]; split; (· exact Or.inr rfl); (· exact Or.inl rfl)
      have hC := T_X4_copyFrom (h := h4) (t := 29) (o := 32) u4
      obtain ⟨h5, h5e⟩ : ∃ h5, h5 = rup (rup h4 29 (fup (fup (h4 29) 2 (h4 32 2)) 4 (h4 32 4))) (29 + 1) (cpy (h4 (32 + 1)) (h4 (29 + 1)) 40) := ⟨_, rfl⟩
      rw [← h5e] at hC
      have f5 : ∀ a, a ≠ 29 → a ≠ 30 → h5 a = h4 a := fun a a1 a2 => by rw [h5e, rup_n (by omega), rup_n a1]
      have hq : cRl σ n h (some (pI 0)) (shp0, rf0, h5) := by
        refine ⟨h5, rfl, by rw [f5 1 (by omega) (by omega)]; exact e4, by rw [f5 32 (by omega) (by omega)]; exact u4, Or.inr ⟨w1, rfl, fun a a1 a2 a3 a4 a5 => by rw [f5 a a4 a5, f4 a a1]; exact f2.1 a a1 a2 a3, by rw [h5e, rup_n (by omega), rup_s, fup_s, f4 32 (by omega)]; exact w3, ?_⟩⟩
        refine SgC_ok (r := 29) (u := rqU σ n) k40 (by rw [h5e, rup_n (by omega), rup_s, fup_n (by omega), fup_s, f4 32 (by omega)]; exact w2) ?_ gd_r
        rw [h5e, rup_s]
        refine SgC_cg w4 (fun i hi => ?_)
        unfold cpy
        rw [if_pos (by omega), f4 (32 + 1) (by omega)]
      generalize cRl σ n h = QQ at *
      clear hT h5e w4
      refine R_istore_n dX11_rule_11 (Nat.le_of_ble_eq_true rfl) (?_ : RR _ _ _ _ 12 [_, _] _ _ _)
      refine R_aload_n dX11_rule_12 rfl (?_ : RR _ _ _ _ 13 _ _ _ _)
      refine R_getr dX11_rule_13 flX11_10 cok_11 rfl (by decide) (?_ : RR _ _ _ _ 16 _ _ _ _)
      refine R_iconst dX11_rule_16 (?_ : RR _ _ _ _ 17 _ _ _ _)
      refine R_puti (zk := 1) dX11_rule_17 flX11_91 cok_7 (by decide) (fun q hq => by cases hq; rfl) rfl (?_ : RR _ _ _ _ 20 _ _ _ _)
      rw [← h4e]
      refine R_iload_n dX11_rule_20 rfl (?_ : RR _ _ _ _ 21 _ _ _ _)
      refine R_if_ne (t := 35) dX11_rule_21 rfl (fun c21 => ?_) (fun c21 => ?_)
      · exfalso; omega
      refine R_aload_n dX11_rule_24 rfl (?_ : RR _ _ _ _ 25 _ _ _ _)
      refine R_getr dX11_rule_25 flX11_49 cok_11 rfl (by decide) (?_ : RR _ _ _ _ 28 _ _ _ _)
      refine R_aload_n dX11_rule_28 rfl (?_ : RR _ _ _ _ 29 _ _ _ _)
      refine R_getr dX11_rule_29 flX11_53 cok_11 rfl (by decide) (?_ : RR _ _ _ _ 32 _ _ _ _)
      refine R_cVv1 dX11_rule_32 mvX4_copyFrom mlX11_150 (by decide) (by omega) (Nat.le_of_ble_eq_true rfl) (Nat.le_of_ble_eq_true rfl) (hC) (?_ : RR _ _ _ _ 35 _ _ _ _)
      refine R_iload_n dX11_rule_35 rfl (?_ : RR _ _ _ _ 36 _ _ _ _)
      exact R_ireturn dX11_rule_36 trivial hq
  generalize cRl σ n h = QQ at *
  refine R_aload_n dX11_rule_0 rfl (?_ : RR _ _ _ _ 1 _ _ _ _)
  refine R_getr dX11_rule_1 flX11_53 cok_11 rfl (by decide) (?_ : RR _ _ _ _ 4 _ _ _ _)
  refine R_aload_n dX11_rule_4 rfl (?_ : RR _ _ _ _ 5 _ _ _ _)
  refine R_getr dX11_rule_5 flX11_10 cok_11 rfl (by decide) (?_ : RR _ _ _ _ 8 _ _ _ _)
  refine R_qV1 dX11_rule_8 mvX4_read mlX11_149 (by decide) (by omega) (Nat.le_of_ble_eq_true rfl) (Nat.le_of_ble_eq_true rfl) (hT) (fun r9 g9 hq9 => (?_ : RR _ _ _ _ 11 _ _ _ _))
  obtain ⟨z, rfl, KK⟩ := K11 _ _ hq9
  show RR _ _ _ _ _ _ [pI z] _ _
  exact KK
def mRl (σ : Int → Int) (n : Nat) (h : Nat → Int → Int) (r' : Option PV) (g' : PH) : Prop := ∃ h4, g' = (shp0, rf0, h4) ∧ h4 147 15 = 0 ∧ ((¬ rqG σ n ∧ r' = some (pI (-1 - ((rqX σ).1 : Int))) ∧ (∀ a, a ≠ 147 → a ≠ 159 → h4 a = h a) ∧ (∀ j : Int, j ≠ 0 → j ≠ 15 → j ≠ 16 → j ≠ 17 → j ≠ 18 → j ≠ 24 → h4 147 j = h 147 j)) ∨ (rqG σ n ∧ r' = some (pI 0) ∧ (∀ a, a ≠ 147 → a ≠ 158 → a ≠ 159 → h4 a = h a) ∧ (∀ j : Int, j ≠ 0 → j ≠ 15 → j ≠ 16 → j ≠ 17 → j ≠ 18 → j ≠ 24 → j ≠ 23 → h4 147 j = h 147 j) ∧ mrOK h4 (smV (rqV σ n))))
theorem M_rule (hn : h 147 15 = n) (hn80 : n ≤ 80) (hb40 : b = min n 40) (hσ : mqrT σ b h) (hσn : ∀ p : Nat, b ≤ p → σ p = -1) : RR mX12_rule 511 0 0 0 (pm_ent [pR 147] 2) [] (shp0, rf0, h) (mRl σ n h) := by
  show RR _ _ _ _ _ [pR 147, pU] _ _ _
  obtain ⟨h0, h0e⟩ : ∃ h0, h0 = rup h 147 (fup (h 147) 0 0) := ⟨_, rfl⟩
  have f0 : ∀ a, a ≠ 147 → h0 a = h a := fun a a1 => by rw [h0e, rup_n a1]
  have j0 : ∀ j : Int, j ≠ 0 → h0 147 j = h 147 j := fun j j1 => by rw [h0e, rup_s, fup_n j1]
  have hT := M_readsRule (h := h0) (σ := σ) (by rw [j0 15 (by omega)]; exact hn) hn80 hb40 (fun p hp => by rw [f0 156 (by omega)]; exact hσ p hp) hσn
  have hx := rqX_b hσn (show b ≤ 40 by omega)
  have K9 : ∀ r' g', mrqP σ n h0 r' g' → ∃ z : Int, r' = some (pI z) ∧ RR mX12_rule 511 0 0 9 [pR 147, pU] [pI z] g' (mRl σ n h) := by
    intro r' g' hc
    obtain ⟨h2, rfl, f2, hz⟩ := hc
    rcases hz with ⟨w1, rfl⟩ | ⟨w1, rfl, k, k40, w2, w3, w4⟩
    · refine ⟨_, rfl, ?_⟩
      have hq : mRl σ n h (some (pI (-1 - ((rqX σ).1 : Int)))) (shp0, rf0, h2) := ⟨h2, rfl, f2.2.2, Or.inl ⟨w1, rfl, fun a a1 a2 => by rw [f2.1 a a1 a2]; exact f0 a a1, fun j j1 j2 j3 j4 j5 j6 => by rw [f2.2.1 j j2 j3 j4 j5 j6]; exact j0 j j1⟩⟩
      generalize mRl σ n h = QQ at *
      generalize rqX σ = x at *
      clear hT
      refine R_istore_n dX12_rule_9 (Nat.le_of_ble_eq_true rfl) (?_ : RR _ _ _ _ 10 [_, _] _ _ _)
      refine R_iload_n dX12_rule_10 rfl (?_ : RR _ _ _ _ 11 _ _ _ _)
      refine R_if_ne (t := 26) dX12_rule_11 rfl (fun c11 => ?_) (fun c11 => ?_)
      rotate_left
      · exfalso; omega
      refine R_iload_n dX12_rule_26 rfl (?_ : RR _ _ _ _ 27 _ _ _ _)
      exact R_ireturn dX12_rule_27 trivial hq
    · refine ⟨0, rfl, ?_⟩
      have hC := T_X12_laysCode (h := h2) (r := 159) (c := k) (Or.inl rfl) (by omega)
      obtain ⟨h5, h5e⟩ : ∃ h5, h5 = rup (rup h2 147 (fup (h2 147) 23 k)) 158 (cpy (h2 159) (h2 158) k) := ⟨_, rfl⟩
      rw [← h5e] at hC
      have hq : mRl σ n h (some (pI 0)) (shp0, rf0, h5) := by
        refine ⟨h5, rfl, by rw [h5e, rup_n (by omega), rup_s, fup_n (by omega)]; exact f2.2.2, Or.inr ⟨w1, rfl, fun a a1 a2 a3 => by rw [h5e, rup_n a2, rup_n a1, f2.1 a a1 a3]; exact f0 a a1, fun j j1 j2 j3 j4 j5 j6 j7 => by rw [h5e, rup_n (by omega), rup_s, fup_n j7, f2.2.1 j j2 j3 j4 j5 j6]; exact j0 j j1, ?_⟩⟩
        refine SgM_ok k40 (by rw [h5e, rup_n (by omega), rup_s, fup_s]) w3 (fun w => ⟨?_, (w4 w).2⟩)
        rw [h5e, rup_s]
        refine SgM_cg (w4 w).1 (fun i hi => ?_)
        unfold cpy
        rw [if_pos (by omega)]
      generalize mRl σ n h = QQ at *
      clear hT h5e w4
      refine R_istore_n dX12_rule_9 (Nat.le_of_ble_eq_true rfl) (?_ : RR _ _ _ _ 10 [_, _] _ _ _)
      refine R_iload_n dX12_rule_10 rfl (?_ : RR _ _ _ _ 11 _ _ _ _)
      refine R_if_ne (t := 26) dX12_rule_11 rfl (fun c11 => ?_) (fun c11 => ?_)
      · exfalso; omega
      refine R_aload_n dX12_rule_14 rfl (?_ : RR _ _ _ _ 15 _ _ _ _)
      refine R_aload_n dX12_rule_15 rfl (?_ : RR _ _ _ _ 16 _ _ _ _)
      refine R_getr dX12_rule_16 flX12_48 cok_12 rfl (by decide) (?_ : RR _ _ _ _ 19 _ _ _ _)
      refine R_aload_n dX12_rule_19 rfl (?_ : RR _ _ _ _ 20 _ _ _ _)
      refine R_geti (z := 24) dX12_rule_20 flX12_230 cok_12 rfl (by decide) rfl (fun q20 => (?_ : RR _ _ _ _ 23 _ _ _ _))
      rw [w2] at q20 ⊢
      refine R_cVv2 dX12_rule_23 mvX12_laysCode mlX12_263 (by decide) (by omega) (Nat.le_of_ble_eq_true rfl) (Nat.le_of_ble_eq_true rfl) (hC) (?_ : RR _ _ _ _ 26 _ _ _ _)
      refine R_iload_n dX12_rule_26 rfl (?_ : RR _ _ _ _ 27 _ _ _ _)
      exact R_ireturn dX12_rule_27 trivial hq
  generalize mRl σ n h = QQ at *
  refine R_aload_n dX12_rule_0 rfl (?_ : RR _ _ _ _ 1 _ _ _ _)
  refine R_iconst dX12_rule_1 (?_ : RR _ _ _ _ 2 _ _ _ _)
  refine R_puti (zk := 0) dX12_rule_2 flX12_106 cok_12 (by decide) (fun q hq => by cases hq; rfl) rfl (?_ : RR _ _ _ _ 5 _ _ _ _)
  rw [← h0e]
  refine R_aload_n dX12_rule_5 rfl (?_ : RR _ _ _ _ 6 _ _ _ _)
  refine R_qV0 dX12_rule_6 mvX12_readsRule mlX12_260 (by decide) (by omega) (Nat.le_of_ble_eq_true rfl) (Nat.le_of_ble_eq_true rfl) (hT) (fun r9 g9 hq9 => (?_ : RR _ _ _ _ 9 _ _ _ _))
  obtain ⟨z, rfl, KK⟩ := K9 _ _ hq9
  show RR _ _ _ _ _ _ [pI z] _ _
  exact KK
theorem rule_sg (hs : SRx k h sem H np nc len) : ∃ (n b : Nat) (σ : Int → Int), h 1 1 = n ∧ h 147 15 = n ∧ n ≤ 80 ∧ b = min n 40 ∧ (∀ p : Int, 0 ≤ p → signAt (rup h 1 (fup (h 1) 2 (min (n : Int) 40))) p = σ p) ∧ (∀ p : Nat, b ≤ p → σ p = -1) ∧ (∀ p : Int, -1 ≤ σ p ∧ σ p ≤ 255) ∧ mqrT σ b h := by
  obtain ⟨n, n1, n2, n3, n4⟩ := hs.2.1
  refine ⟨n, min n 40, fun p => if 0 ≤ p ∧ p < ((min n 40 : Nat) : Int) then h 156 p else -1, n1, n2, n3, rfl, fun p p0 => ?_, fun p hp => if_neg (by omega), fun p => ?_, fun p hp => ?_⟩
  · unfold signAt
    rw [rup_s, fup_s, rup_n (by omega)]
    dsimp only
    by_cases q : p < min (n : Int) 40
    · rw [if_pos (by omega), if_pos (by omega)]
      have := (n4 p.toNat (by omega)).1
      rw [show ((p.toNat : Nat) : Int) = p by omega] at this
      exact this
    · rw [if_neg (by omega), if_neg (by omega)]
  · dsimp only
    split
    · rename_i q
      have := (n4 p.toNat (by omega)).2
      rw [show ((p.toNat : Nat) : Int) = p by omega] at this
      omega
    · omega
  · dsimp only
    rw [if_pos (by omega)]
    exact ⟨rfl, (n4 p (by omega)).2⟩
theorem A_rule (hs : SRx k h sem H np nc len) (hk : k ≤ 1000) : AG mX11_rule mX12_rule 761 511 [] k h := by
  obtain ⟨n, b, σ, n1, n2, n3, hb, hσc, hσn, hσb, hσm⟩ := rule_sg hs
  refine RR.post (C_rule (σ := σ) n1 n3 hb hσc hσn hσb) (fun r' g' c => ?_)
  obtain ⟨h3, rfl, c1, c2, hc⟩ := c
  have e3 : ∀ a, 147 ≤ a → h3 a = h a := fun a ha => by
    rcases hc with ⟨_, _, f⟩ | ⟨_, _, f, _⟩
    · exact f a (by omega) (by omega) (by omega)
    · exact f a (by omega) (by omega) (by omega) (by omega) (by omega)
  refine ⟨h3, rfl, RR.post (M_rule (h := h3) (σ := σ) (n := n) (b := b) (by rw [e3 147 (by omega)]; exact n2) n3 hb (fun p hp => by rw [e3 156 (by omega)]; exact hσm p hp) hσn) (fun r'' g'' q => ?_)⟩
  obtain ⟨h4, rfl, m1, hm⟩ := q
  rcases hc with ⟨w1, rfl, f3⟩ | ⟨w1, rfl, f3, u3, o3⟩
  · rcases hm with ⟨y1, rfl, f4, j4⟩ | ⟨y1, _⟩
    · refine ⟨rfl, h4, rfl, ?_⟩
      have fr : ∀ a, a ≠ 1 → a ≠ 32 → a ≠ 33 → a ≠ 147 → a ≠ 159 → h4 a = h a := fun a a1 a2 a3 a4 a5 => by rw [f4 a a4 a5]; exact f3 a a1 a2 a3
      have fj : ∀ j : Int, j ≠ 0 → j ≠ 15 → j ≠ 16 → j ≠ 17 → j ≠ 18 → j ≠ 24 → h4 147 j = h 147 j := fun j j1 j2 j3 j5 j6 j7 => by rw [j4 j j1 j2 j3 j5 j6 j7, e3 147 (by omega)]
      obtain ⟨b1, b2, b3, b4, b5, b6, b7, b8, b9, b10, b11⟩ := hs.1
      refine SR_rl (sem2 := sem) hs ⟨fun a q1 q2 => fr a (by omega) (by omega) (by omega) (by omega) (by omega), fun j q1 q2 => fj j (by omega) (by omega) (by omega) (by omega) (by omega) (by omega), fun q => by rw [fj 30 (by omega) (by omega) (by omega) (by omega) (by omega) (by omega)]; exact q, fun j q => by rw [fr 155 (by omega) (by omega) (by omega) (by omega) (by omega)]⟩ ⟨0, by rw [f4 1 (by omega) (by omega)]; exact c1, m1, by omega, fun i hi => by omega⟩ (SD_same hs.2.2.1 (by rw [fr 145 (by omega) (by omega) (by omega) (by omega) (by omega)]) (fj 1 (by omega) (by omega) (by omega) (by omega) (by omega) (by omega)) (fr 146 (by omega) (by omega) (by omega) (by omega) (by omega)) (fr 148 (by omega) (by omega) (by omega) (by omega) (by omega))) ?_ (mrOK_fr b8 (fj 23 (by omega) (by omega) (by omega) (by omega) (by omega) (by omega)) (fr 158 (by omega) (by omega) (by omega) (by omega) (by omega))) ?_ ?_ ?_
      · have := b7.2.2.1
        unfold ruOK at this ⊢
        rw [fr 29 (by omega) (by omega) (by omega) (by omega) (by omega), fr (29 + 1) (by omega) (by omega) (by omega) (by omega) (by omega)]
        exact this
      · rw [fr 29 (by omega) (by omega) (by omega) (by omega) (by omega)]; exact b9
      · rw [fr 29 (by omega) (by omega) (by omega) (by omega) (by omega)]; exact b10
      · rw [f4 32 (by omega) (by omega)]; exact c2
    · exact absurd y1 w1
  · rcases hm with ⟨y1, _⟩ | ⟨y1, rfl, f4, j4, o4⟩
    · exact absurd w1 y1
    · refine ⟨rfl, h4, rfl, ?_⟩
      have fr : ∀ a, a ≠ 1 → a ≠ 32 → a ≠ 33 → a ≠ 29 → a ≠ 30 → a ≠ 147 → a ≠ 158 → a ≠ 159 → h4 a = h a := fun a a1 a2 a3 a6 a7 a4 a8 a5 => by rw [f4 a a4 a8 a5]; exact f3 a a1 a2 a3 a6 a7
      have fj : ∀ j : Int, j ≠ 0 → j ≠ 15 → j ≠ 16 → j ≠ 17 → j ≠ 18 → j ≠ 24 → j ≠ 23 → h4 147 j = h 147 j := fun j j1 j2 j3 j5 j6 j7 j8 => by rw [j4 j j1 j2 j3 j5 j6 j7 j8, e3 147 (by omega)]
      refine SR_rl (sem2 := smV (rqV σ n)) hs ⟨fun a q1 q2 => fr a (by omega) (by omega) (by omega) (by omega) (by omega) (by omega) (by omega) (by omega), fun j q1 q2 => fj j (by omega) (by omega) (by omega) (by omega) (by omega) (by omega) (by omega), fun q => by rw [fj 30 (by omega) (by omega) (by omega) (by omega) (by omega) (by omega) (by omega)]; exact q, fun j q => by rw [fr 155 (by omega) (by omega) (by omega) (by omega) (by omega) (by omega) (by omega) (by omega)]⟩ ⟨0, by rw [f4 1 (by omega) (by omega) (by omega)]; exact c1, m1, by omega, fun i hi => by omega⟩ (SD_same hs.2.2.1 (by rw [fr 145 (by omega) (by omega) (by omega) (by omega) (by omega) (by omega) (by omega) (by omega)]) (fj 1 (by omega) (by omega) (by omega) (by omega) (by omega) (by omega) (by omega)) (fr 146 (by omega) (by omega) (by omega) (by omega) (by omega) (by omega) (by omega) (by omega)) (fr 148 (by omega) (by omega) (by omega) (by omega) (by omega) (by omega) (by omega) (by omega))) ?_ o4 ?_ ?_ ?_
      · unfold ruOK at o3 ⊢
        rw [f4 29 (by omega) (by omega) (by omega), f4 (29 + 1) (by omega) (by omega) (by omega)]
        exact o3
      · rw [f4 29 (by omega) (by omega) (by omega), u3]; split; (· exact Or.inr rfl); (· exact Or.inl rfl)
      · rw [f4 29 (by omega) (by omega) (by omega), u3]
        intro w
        refine smV_n (u := rqU σ n) gd_r ?_
        by_cases y : rqU σ n = true
        · rw [if_pos y] at w; omega
        · exact Bool.eq_false_iff.mpr y
      · rw [f4 32 (by omega) (by omega) (by omega)]; exact c2
end RUB
