section LAX
variable {k : Nat} {h h1 h2 h3 h4 g : Nat → Int → Int} {sem sem2 : Sem} {H np nc len N d p b l m n c : Nat} {σ : Int → Int} {v : (Int → Int) → Int} {u : Bool}
theorem mrOK_cg (hm : mrOK h sem) (e1 : h1 147 23 = h 147 23) (e2 : ∀ i : Nat, (i : Int) < h 147 23 → h1 158 i = h 158 i) : mrOK h1 sem := by
  obtain ⟨n, n1, n2, n3, n4, n5⟩ := hm
  have e : ∀ i : Nat, i < n → h1 158 i = h 158 i := fun i hi => e2 i (by omega)
  have cg : ∀ (th sk : Int → Int) (i : Nat), i ≤ n → it (mrR (h1 158) th) (sk, 0) i = it (mrR (h 158) th) (sk, 0) i := fun th sk i hi => it_cg (fun j hj x => mrR_cg (e j (by omega)) x)
  refine ⟨n, e1.trans n1, n2, fun i hi => by rw [e i hi]; exact n3 i hi, fun th sk i hi => by rw [cg th sk i (by omega), e i hi]; exact n4 th sk i hi, fun th sk ht => by rw [cg th sk n (Nat.le_refl n)]; exact n5 th sk ht⟩
/-- the codes are put by -/
theorem ML_41 {V1 : Int} {Q : Option PV → PH → Prop} (hc : h 147 23 = c) (hc80 : c ≤ 80) (K70 : ∀ w4 : PV, RR mX12_law 513 0 0 70 [pR 147, pI 0, pI V1, pI c, w4] [] (shp0, rf0, rup h 169 (cpy (h 158) (h 169) c)) Q) : RR mX12_law 513 0 0 41 [pR 147, pI 0, pI V1, pI c, pI 0] [] (shp0, rf0, h) Q := by
  have L : ∀ (j i : Nat), i + j = c → RR mX12_law 513 0 0 41 [pR 147, pI 0, pI V1, pI c, pI i] [] (shp0, rf0, rup h 169 (cpy (h 158) (h 169) i)) Q := by
    intro j
    induction j with
    | zero =>
      intro i hi
      obtain rfl : i = c := by omega
      have K := K70 (pI i)
      obtain ⟨g, hg⟩ : ∃ g, g = rup h 169 (cpy (h 158) (h 169) i) := ⟨_, rfl⟩
      have g23 : g 147 23 = i := by rw [hg, rup_n (by omega)]; exact hc
      rw [← hg] at K ⊢
      clear K70 hg
      refine R_iload dX12_law_41 rfl (?_ : RR _ _ _ _ 43 _ _ _ _)
      refine R_aload_n dX12_law_43 rfl (?_ : RR _ _ _ _ 44 _ _ _ _)
      refine R_geti (z := 23) dX12_law_44 flX12_257 cok_12 rfl (by decide) rfl (fun q44 => (?_ : RR _ _ _ _ 47 _ _ _ _))
      rw [g23] at q44 ⊢
      refine R_icmp_ge (t := 70) dX12_law_47 rfl (fun c47 => ?_) (fun c47 => ?_)
      rotate_left
      · exfalso; omega
      exact K
    | succ j ih =>
      intro i hi
      have K := ih (i + 1) (by omega)
      have e : fup (cpy (h 158) (h 169) i) i (h 158 i) = cpy (h 158) (h 169) ((i + 1 : Nat) : Int) := by
        funext z
        by_cases y : z = i
        · rw [y, fup_s]; unfold cpy; rw [if_pos (by omega)]
        · rw [fup_n y]
          unfold cpy
          by_cases w : 0 ≤ z ∧ z < (i : Int)
          · rw [if_pos w, if_pos (by omega)]
          · rw [if_neg w, if_neg (by omega)]
      rw [← e, show ((i + 1 : Nat) : Int) = (i : Int) + 1 by omega] at K
      clear ih K70 e
      refine R_iload dX12_law_41 rfl (?_ : RR _ _ _ _ 43 _ _ _ _)
      refine R_aload_n dX12_law_43 rfl (?_ : RR _ _ _ _ 44 _ _ _ _)
      refine R_geti (z := 23) dX12_law_44 flX12_257 cok_12 rfl (by decide) rfl (fun q44 => (?_ : RR _ _ _ _ 47 _ _ _ _))
      rw [rup_n (by omega), hc] at q44 ⊢
      refine R_icmp_ge (t := 70) dX12_law_47 rfl (fun c47 => ?_) (fun c47 => ?_)
      · exfalso; omega
      refine R_aload_n dX12_law_50 rfl (?_ : RR _ _ _ _ 51 _ _ _ _)
      refine R_getr dX12_law_51 flX12_78 cok_12 rfl (by decide) (?_ : RR _ _ _ _ 54 _ _ _ _)
      refine R_iload dX12_law_54 rfl (?_ : RR _ _ _ _ 56 _ _ _ _)
      refine R_aload_n dX12_law_56 rfl (?_ : RR _ _ _ _ 57 _ _ _ _)
      refine R_getr dX12_law_57 flX12_45 cok_12 rfl (by decide) (?_ : RR _ _ _ _ 60 _ _ _ _)
      refine R_iload dX12_law_60 rfl (?_ : RR _ _ _ _ 62 _ _ _ _)
      refine R_iald dX12_law_62 (fun q62 => (?_ : RR _ _ _ _ 63 _ _ _ _))
      rw [rup_n (by omega)] at q62 ⊢
      refine R_iast dX12_law_63 (?_ : RR _ _ _ _ 64 _ _ _ _)
      rw [rup_s, rup_rup]
      refine R_iinc dX12_law_64 rfl (Nat.le_of_ble_eq_true rfl) (?_ : RR _ _ _ _ 67 [_, _, _, _, _] _ _ _)
      refine R_goto (t := 41) dX12_law_67 rfl (?_ : RR _ _ _ _ 41 _ _ _ _)
      exact K
  have L0 := L c 0 (by omega)
  have e0 : cpy (h 158) (h 169) ((0 : Nat) : Int) = h 169 := by funext z; unfold cpy; rw [if_neg (by omega)]
  rw [e0, rup_self] at L0
  exact L0
def mLw (σ : Int → Int) (n : Nat) (h : Nat → Int → Int) (z2 z1 : Int) (r' : Option PV) (g' : PH) : Prop := ∃ h4, g' = (shp0, rf0, h4) ∧ h4 147 15 = 0 ∧ ((¬ rqG σ n ∧ r' = some (pI (-1 - ((rqX σ).1 : Int) + 1 - 10000)) ∧ (∀ a, a ≠ 147 → a ≠ 159 → h4 a = h a) ∧ (∀ j : Int, j ≠ 0 → j ≠ 15 → j ≠ 16 → j ≠ 17 → j ≠ 18 → j ≠ 24 → h4 147 j = h 147 j)) ∨ (rqG σ n ∧ r' = some (pI (z2 - z1)) ∧ (∀ a, ¬ (a = 147 ∨ a = 148 ∨ a = 155 ∨ a = 158 ∨ (159 ≤ a ∧ a ≤ 162) ∨ a = 169) → h4 a = h a) ∧ (∀ j : Int, j ≠ 0 → j ≠ 1 → j ≠ 15 → j ≠ 16 → j ≠ 17 → j ≠ 18 → j ≠ 24 → j ≠ 30 → h4 147 j = h 147 j) ∧ (0 ≤ h4 147 30 ∧ h4 147 30 < 64) ∧ oor (h4 155) (h 154) ∧ (∀ i : Nat, (i : Int) < h 147 23 → h4 158 i = h 158 i) ∧ h4 147 1 = 2 ∧ h4 148 0 = z2 ∧ h4 148 1 = z1))
theorem M_law (hs : SRx k h sem H np nc len) (hk : k ≤ 1000) (e3 : ∀ a, 147 ≤ a → h3 a = h a) (hn : h 147 15 = n) (hn80 : n ≤ 80) (hb40 : b = min n 40) (hσ : mqrT σ b h) (hσn : ∀ p : Nat, b ≤ p → σ p = -1) : RR mX12_law 513 0 0 0 (pm_ent [pR 147] 5) [] (shp0, rf0, h3) (mLw σ n h3 (lawV (cxM (smV (rqV σ n)) h np nc) (h 154)) (lawV (cxM sem h np nc) (h 154))) := by
  show RR _ _ _ _ _ [pR 147, pU, pU, pU, pU] _ _ _
  have x6 := sR6 hs
  have x12 := sR12 hs
  have hX := hs.1.2.2.2.2.1
  have hnw := hs.2.2.2.1.2.1
  have hc := hs.2.2.2.1.1
  have hok := okF_c hc
  have h30 := hs.2.2.2.2.2.2.2
  have hoor := hs.2.2.2.1.2.2.1
  have hmr := hs.1.2.2.2.2.2.2.2.1
  obtain ⟨c, hc23, hc80, -⟩ := id hmr
  obtain ⟨V2, hV2⟩ : ∃ V2, V2 = lawV (cxM (smV (rqV σ n)) h np nc) (h 154) := ⟨_, rfl⟩
  obtain ⟨V1, hV1⟩ : ∃ V1, V1 = lawV (cxM sem h np nc) (h 154) := ⟨_, rfl⟩
  have vb2 : -12 ≤ V2 ∧ V2 ≤ 12 := by rw [hV2]; exact lawV_b x12
  have vb1 : -12 ≤ V1 ∧ V1 ≤ 12 := by rw [hV1]; exact lawV_b x12
  rw [← hV2, ← hV1]
  obtain ⟨h0, h0e⟩ : ∃ h0, h0 = rup h3 147 (fup (h3 147) 0 0) := ⟨_, rfl⟩
  have f0 : ∀ a, a ≠ 147 → h0 a = h3 a := fun a a1 => by rw [h0e, rup_n a1]
  have j0 : ∀ j : Int, j ≠ 0 → h0 147 j = h3 147 j := fun j j1 => by rw [h0e, rup_s, fup_n j1]
  have hT := M_readsRule (h := h0) (σ := σ) (n := n) (b := b) (by rw [j0 15 (by omega), e3 147 (by omega)]; exact hn) hn80 hb40 (fun p hp => by rw [f0 156 (by omega), e3 156 (by omega)]; exact hσ p hp) hσn
  have hx := rqX_b hσn (show b ≤ 40 by omega)
  have K9 : ∀ r' g', mrqP σ n h0 r' g' → ∃ z : Int, r' = some (pI z) ∧ RR mX12_law 513 0 0 9 [pR 147, pU, pU, pU, pU] [pI z] g' (mLw σ n h3 V2 V1) := by
    intro r' g' hcc
    obtain ⟨h2, rfl, f2, hz⟩ := hcc
    have fa : ∀ a, a ≠ 147 → a ≠ 159 → h2 a = h3 a := fun a a1 a2 => by rw [f2.1 a a1 a2]; exact f0 a a1
    have fj : ∀ j : Int, j ≠ 0 → j ≠ 15 → j ≠ 16 → j ≠ 17 → j ≠ 18 → j ≠ 24 → h2 147 j = h3 147 j := fun j j1 j2 j3 j4 j5 j6 => by rw [f2.2.1 j j2 j3 j4 j5 j6]; exact j0 j j1
    rcases hz with ⟨w1, rfl⟩ | ⟨w1, rfl, kk, k40, w2, w3, w4⟩
    · refine ⟨_, rfl, ?_⟩
      have hq : mLw σ n h3 V2 V1 (some (pI (-1 - ((rqX σ).1 : Int) + 1 - 10000))) (shp0, rf0, h2) := ⟨h2, rfl, f2.2.2, Or.inl ⟨w1, rfl, fa, fj⟩⟩
      generalize mLw σ n h3 V2 V1 = QQ at *
      generalize rqX σ = x at *
      clear hT
      refine R_istore_n dX12_law_9 (Nat.le_of_ble_eq_true rfl) (?_ : RR _ _ _ _ 10 [_, _, _, _, _] _ _ _)
      refine R_iload_n dX12_law_10 rfl (?_ : RR _ _ _ _ 11 _ _ _ _)
      refine R_if_ge (t := 22) dX12_law_11 rfl (fun c11 => ?_) (fun c11 => ?_)
      · exfalso; omega
      refine R_iload_n dX12_law_14 rfl (?_ : RR _ _ _ _ 15 _ _ _ _)
      refine R_iconst dX12_law_15 (?_ : RR _ _ _ _ 16 _ _ _ _)
      refine R_iadd dX12_law_16 (?_ : RR _ _ _ _ 17 _ _ _ _)
      refine R_sipush dX12_law_17 rfl (?_ : RR _ _ _ _ 20 _ _ _ _)
      refine R_isub dX12_law_20 (?_ : RR _ _ _ _ 21 _ _ _ _)
      exact R_ireturn dX12_law_21 trivial hq
    · refine ⟨0, rfl, ?_⟩
      /- as it is -/
      obtain ⟨g1, g1e⟩ : ∃ g1, g1 = rup h2 155 (h2 154) := ⟨_, rfl⟩
      have p1 : h2 154 = h 154 := by rw [fa 154 (by omega) (by omega)]; exact e3 154 (by omega)
      have hP1 := T_X12_puts (h := h2) (by rw [p1, fa 155 (by omega) (by omega), e3 155 (by omega)]; exact hoor)
      rw [← g1e] at hP1
      have ga : ∀ a, a ≠ 147 → a ≠ 155 → a ≠ 159 → g1 a = h3 a := fun a a1 a2 a3 => by rw [g1e, rup_n a2]; exact fa a a1 a3
      have gj : ∀ j : Int, j ≠ 0 → j ≠ 15 → j ≠ 16 → j ≠ 17 → j ≠ 18 → j ≠ 24 → g1 147 j = h3 147 j := fun j j1 j2 j3 j4 j5 j6 => by rw [g1e, rup_n (by omega)]; exact fj j j1 j2 j3 j4 j5 j6
      have g155 : g1 155 = h 154 := by rw [g1e, rup_s]; exact p1
      have g154 : g1 154 = h 154 := by rw [ga 154 (by omega) (by omega) (by omega)]; exact e3 154 (by omega)
      have eX1 : ∀ s : Sem, ∀ gg : Nat → Int → Int, (∀ a, 149 ≤ a → a ≤ 153 → gg a = h a) → cxM s gg np nc = cxM s h np nc := fun s gg w => cxM_fr w
      have hB1 : MBk sem g1 155 H np nc := by
        have e := eX1 sem g1 (fun a a1 a2 => by rw [ga a (by omega) (by omega) (by omega)]; exact e3 a (by omega))
        refine ⟨by rw [e]; exact hX, by rw [e, g155]; exact hok, mrOK_fr hmr (by rw [gj 23 (by omega) (by omega) (by omega) (by omega) (by omega) (by omega), e3 147 (by omega)]) (by rw [ga 158 (by omega) (by omega) (by omega)]; exact e3 158 (by omega)), by rw [gj 5 (by omega) (by omega) (by omega) (by omega) (by omega) (by omega), e3 147 (by omega)]; exact hs.1.2.2.1, by rw [gj 4 (by omega) (by omega) (by omega) (by omega) (by omega) (by omega), e3 147 (by omega)]; exact hs.1.2.1, by rw [g155]; omega, by rw [gj 30 (by omega) (by omega) (by omega) (by omega) (by omega) (by omega), e3 147 (by omega)]; exact h30, isRw_155, Or.inr rfl⟩
      have hO1 := M_outIn (m := 10) hB1 (by omega) (by rw [g155]; omega)
      rw [eX1 sem g1 (fun a a1 a2 => by rw [ga a (by omega) (by omega) (by omega)]; exact e3 a (by omega)), g155, g154, show (oMn (cxM sem h np nc) (xIt (cxM sem h np nc) 0 10 (h 154)) : Int) - oMn (cxM sem h np nc) (h 154) = V1 from hV1.symm] at hO1
      have K32 : ∀ h5 : Nat → Int → Int, tnF g1 h5 → h5 155 = xIt (cxM sem h np nc) 0 10 (h 154) → RR mX12_law 513 0 0 32 [pR 147, pI 0, pU, pU, pU] [pI V1] (shp0, rf0, h5) (mLw σ n h3 V2 V1) := by
        intro h5 f5 e155
        have c5 : h5 147 23 = c := by rw [f5.2.1 23 (by omega), gj 23 (by omega) (by omega) (by omega) (by omega) (by omega) (by omega), e3 147 (by omega)]; exact hc23
        have K70 : ∀ w4 : PV, RR mX12_law 513 0 0 70 [pR 147, pI 0, pI V1, pI c, w4] [] (shp0, rf0, rup h5 169 (cpy (h5 158) (h5 169) c)) (mLw σ n h3 V2 V1) := by
          intro wx
          obtain ⟨h6, h6e⟩ : ∃ h6, h6 = rup h5 169 (cpy (h5 158) (h5 169) c) := ⟨_, rfl⟩
          have l6 : h6 147 24 = kk := by rw [h6e, rup_n (by omega), f5.2.1 24 (by omega), g1e, rup_n (by omega)]; exact w2
          have hL1 := T_X12_laysCode (h := h6) (r := 159) (c := kk) (Or.inl rfl) (by omega)
          obtain ⟨h7, h7e⟩ : ∃ h7, h7 = rup (rup h6 147 (fup (h6 147) 23 kk)) 158 (cpy (h6 159) (h6 158) kk) := ⟨_, rfl⟩
          rw [← h7e] at hL1
          have i7 : ∀ a, a ≠ 147 → a ≠ 155 → a ≠ 158 → ¬ (159 ≤ a ∧ a ≤ 162) → a ≠ 169 → h7 a = h3 a := fun a a1 a2 a3 a4 a5 => by rw [h7e, rup_n a3, rup_n a1, h6e, rup_n a5, f5.1 a a1 a2 (by omega) (by omega) (by omega)]; exact ga a a1 a2 (by omega)
          have i7j : ∀ j : Int, j ≠ 0 → j ≠ 15 → j ≠ 16 → j ≠ 17 → j ≠ 18 → j ≠ 24 → j ≠ 23 → j ≠ 30 → h7 147 j = h3 147 j := fun j j1 j2 j3 j4 j5 j6 j7 j8 => by rw [h7e, rup_n (by omega), rup_s, fup_n j7, h6e, rup_n (by omega), f5.2.1 j j8]; exact gj j j1 j2 j3 j4 j5 j6
          have i30 : 0 ≤ h7 147 30 ∧ h7 147 30 < 64 := by rw [h7e, rup_n (by omega), rup_s, fup_n (by omega), h6e, rup_n (by omega)]; exact f5.2.2
          have i15 : h7 147 15 = 0 := by rw [h7e, rup_n (by omega), rup_s, fup_n (by omega), h6e, rup_n (by omega), f5.2.1 15 (by omega), g1e, rup_n (by omega)]; exact f2.2.2
          have p7 : h7 154 = h 154 := by rw [i7 154 (by omega) (by omega) (by omega) (by omega) (by omega)]; exact e3 154 (by omega)
          have e7 : h7 155 = xIt (cxM sem h np nc) 0 10 (h 154) := by rw [h7e, rup_n (by omega), rup_n (by omega), h6e, rup_n (by omega)]; exact e155
          have oIt : ∀ (s : Sem) (m : Nat) (ff : Int → Int), oor (xIt (cxM s h np nc) 0 m ff) ff := fun s m => by
            induction m with
            | zero => intro ff _ _; rfl
            | succ m ihm => intro ff; exact oor_tr (ihm _) (xStep_oor x6 x12)
          have hP2 := T_X12_puts (h := h7) (by rw [p7, e7]; exact oIt sem 10 _)
          obtain ⟨h8, h8e⟩ : ∃ h8, h8 = rup h7 155 (h7 154) := ⟨_, rfl⟩
          rw [← h8e] at hP2
          have m8 : mrOK h8 (smV (rqV σ n)) := by
            refine SgM_ok k40 (by rw [h8e, rup_n (by omega), h7e, rup_n (by omega), rup_s, fup_s]) w3 (fun w => ⟨?_, (w4 w).2⟩)
            rw [h8e, rup_n (by omega), h7e, rup_s]
            refine SgM_cg (w4 w).1 (fun i hi => ?_)
            unfold cpy
            rw [if_pos (by omega), h6e, rup_n (by omega), f5.1 159 (by omega) (by omega) (by omega) (by omega) (by omega), g1e, rup_n (by omega)]
          have i8 : ∀ a, 149 ≤ a → a ≤ 154 → h8 a = h a := fun a a1 a2 => by rw [h8e, rup_n (by omega), i7 a (by omega) (by omega) (by omega) (by omega) (by omega)]; exact e3 a (by omega)
          have g8 : h8 155 = h 154 := by rw [h8e, rup_s]; exact p7
          have j8 : ∀ j : Int, h8 147 j = h7 147 j := fun j => by rw [h8e, rup_n (by omega)]
          have hB2 : MBk (smV (rqV σ n)) h8 155 H np nc := by
            have e := eX1 (smV (rqV σ n)) h8 (fun a a1 a2 => i8 a a1 (by omega))
            refine ⟨by rw [e]; exact hX, by rw [e, g8]; exact hok, m8, by rw [j8, i7j 5 (by omega) (by omega) (by omega) (by omega) (by omega) (by omega) (by omega) (by omega), e3 147 (by omega)]; exact hs.1.2.2.1, by rw [j8, i7j 4 (by omega) (by omega) (by omega) (by omega) (by omega) (by omega) (by omega) (by omega), e3 147 (by omega)]; exact hs.1.2.1, by rw [g8]; omega, by rw [j8]; exact i30, isRw_155, Or.inr rfl⟩
          have hO2 := M_outIn (m := 10) hB2 (by omega) (by rw [g8]; omega)
          rw [eX1 (smV (rqV σ n)) h8 (fun a a1 a2 => i8 a a1 (by omega)), g8, i8 154 (by omega) (by omega), show (oMn (cxM (smV (rqV σ n)) h np nc) (xIt (cxM (smV (rqV σ n)) h np nc) 0 10 (h 154)) : Int) - oMn (cxM (smV (rqV σ n)) h np nc) (h 154) = V2 from hV2.symm] at hO2
          have K92 : ∀ h9 : Nat → Int → Int, tnF h8 h9 → h9 155 = xIt (cxM (smV (rqV σ n)) h np nc) 0 10 (h 154) → RR mX12_law 513 0 0 92 [pR 147, pI 0, pI V1, pI c, wx] [pI V2] (shp0, rf0, h9) (mLw σ n h3 V2 V1) := by
            intro h9 f9 e9
            have hL2 := T_X12_laysCode (h := h9) (r := 169) (c := c) (Or.inr rfl) hc80
            obtain ⟨ha, hae⟩ : ∃ ha, ha = rup (rup h9 147 (fup (h9 147) 23 c)) 158 (cpy (h9 169) (h9 158) c) := ⟨_, rfl⟩
            rw [← hae] at hL2
            have aj : ∀ j : Int, j ≠ 0 → j ≠ 15 → j ≠ 16 → j ≠ 17 → j ≠ 18 → j ≠ 24 → j ≠ 30 → ha 147 j = h3 147 j := fun j j1 j2 j3 j4 j5 j6 j7 => by
              rw [hae, rup_n (by omega), rup_s]
              by_cases y : j = 23
              · rw [y, fup_s, e3 147 (by omega), hc23]
              · rw [fup_n y, f9.2.1 j j7, j8]; exact i7j j j1 j2 j3 j4 j5 j6 y j7
            have aa : ∀ a, ¬ (a = 147 ∨ a = 155 ∨ a = 158 ∨ (159 ≤ a ∧ a ≤ 162) ∨ a = 169) → ha a = h3 a := fun a q => by rw [hae, rup_n (by omega), rup_n (by omega), f9.1 a (by omega) (by omega) (by omega) (by omega) (by omega), h8e, rup_n (by omega)]; exact i7 a (by omega) (by omega) (by omega) (by omega) (by omega)
            have a158 : ∀ i : Nat, (i : Int) < c → ha 158 i = h3 158 i := fun i hi => by
              rw [hae, rup_s]
              unfold cpy
              rw [if_pos (by omega), f9.1 169 (by omega) (by omega) (by omega) (by omega) (by omega), h8e, rup_n (by omega), h7e, rup_n (by omega), rup_n (by omega), h6e, rup_s]
              unfold cpy
              rw [if_pos (by omega), f5.1 158 (by omega) (by omega) (by omega) (by omega) (by omega), ga 158 (by omega) (by omega) (by omega)]
            have a30 : 0 ≤ ha 147 30 ∧ ha 147 30 < 64 := by rw [hae, rup_n (by omega), rup_s, fup_n (by omega)]; exact f9.2.2
            have a15 : ha 147 15 = 0 := by rw [hae, rup_n (by omega), rup_s, fup_n (by omega), f9.2.1 15 (by omega), j8]; exact i15
            have a155 : oor (ha 155) (h3 154) := by rw [hae, rup_n (by omega), rup_n (by omega), e9, e3 154 (by omega)]; exact oIt _ 10 _
            /- the row -/
            obtain ⟨hb, hbe⟩ : ∃ hb, hb = rup (rup ha 147 (fup (fup (ha 147) 1 0) 1 (((0 : Nat) : Int) + 1))) 148 (fup (ha 148) ((0 : Nat) : Int) V2) := ⟨_, rfl⟩
            have hE1 := T_X12_enters (h := rup ha 147 (fup (ha 147) 1 0)) (n := 0) (v := V2) (by rw [rup_s, fup_s]; rfl) (by omega) (by omega)
            simp (disch := omega) only [rup_rup, rup_s, rup_n] at hE1
            rw [← hbe] at hE1
            have nb : hb 147 1 = ((1 : Nat) : Int) := by rw [hbe, rup_n (by omega), rup_s, fup_s]; rfl
            have hE2 := T_X12_enters (h := hb) (n := 1) (v := V1) nb (by omega) (by omega)
            have fb : ∀ a, a ≠ 147 → a ≠ 148 → hb a = ha a := fun a a1 a2 => by rw [hbe, rup_n a2, rup_n a1]
            have fbj : ∀ j : Int, j ≠ 1 → hb 147 j = ha 147 j := fun j j1 => by rw [hbe, rup_n (by omega), rup_s, fup_n j1, fup_n j1]
            have hq : mLw σ n h3 V2 V1 (some (pI (V2 - V1))) (shp0, rf0, rup (rup hb 147 (fup (hb 147) 1 (((1 : Nat) : Int) + 1))) 148 (fup (hb 148) ((1 : Nat) : Int) V1)) := by
              refine ⟨_, rfl, by rw [rup_n (by omega), rup_s, fup_n (by omega), fbj 15 (by omega)]; exact a15, Or.inr ⟨w1, rfl, fun a q => by rw [rup_n (by omega), rup_n (by omega), fb a (by omega) (by omega)]; exact aa a (by omega), fun j j1 j2 j3 j4 j5 j6 j7 j8 => by rw [rup_n (by omega), rup_s, fup_n j2, fbj j j2]; exact aj j j1 j3 j4 j5 j6 j7 j8, by rw [rup_n (by omega), rup_s, fup_n (by omega), fbj 30 (by omega)]; exact a30, by rw [rup_n (by omega), rup_n (by omega), fb 155 (by omega) (by omega)]; exact a155, fun i hi => by rw [rup_n (by omega), rup_n (by omega), fb 158 (by omega) (by omega)]; exact a158 i (by rw [e3 147 (by omega), hc23] at hi; exact hi), by rw [rup_n (by omega), rup_s, fup_s]; rfl, by rw [rup_s, fup_n (by omega), hbe, rup_s]; exact fup_s, by rw [rup_s]; exact fup_s⟩⟩
            generalize mLw σ n h3 V2 V1 = QQ at *
            generalize rup (rup hb 147 (fup (hb 147) 1 (((1 : Nat) : Int) + 1))) 148 (fup (hb 148) ((1 : Nat) : Int) V1) = hd at *
            clear hbe hae hV1 hV2 hO1 hO2 hT h8e h7e h6e g1e h0e
            refine R_istore dX12_law_92 (Nat.le_of_ble_eq_true rfl) (?_ : RR _ _ _ _ 94 [_, _, _, _, _] _ _ _)
            refine R_aload_n dX12_law_94 rfl (?_ : RR _ _ _ _ 95 _ _ _ _)
            refine R_aload_n dX12_law_95 rfl (?_ : RR _ _ _ _ 96 _ _ _ _)
            refine R_getr dX12_law_96 flX12_78 cok_12 rfl (by decide) (?_ : RR _ _ _ _ 99 _ _ _ _)
            refine R_iload_n dX12_law_99 rfl (?_ : RR _ _ _ _ 100 _ _ _ _)
            refine R_cVv2 dX12_law_100 mvX12_laysCode mlX12_263 (by decide) (by omega) (Nat.le_of_ble_eq_true rfl) (Nat.le_of_ble_eq_true rfl) (hL2) (?_ : RR _ _ _ _ 103 _ _ _ _)
            refine R_aload_n dX12_law_103 rfl (?_ : RR _ _ _ _ 104 _ _ _ _)
            refine R_iconst dX12_law_104 (?_ : RR _ _ _ _ 105 _ _ _ _)
            refine R_puti (zk := 1) dX12_law_105 flX12_113 cok_12 (by decide) (fun q hq => by cases hq; rfl) rfl (?_ : RR _ _ _ _ 108 _ _ _ _)
            refine R_aload_n dX12_law_108 rfl (?_ : RR _ _ _ _ 109 _ _ _ _)
            refine R_iload dX12_law_109 rfl (?_ : RR _ _ _ _ 111 _ _ _ _)
            refine R_i2l dX12_law_111 (by first | assumption | omega) (?_ : RR _ _ _ _ 112 _ _ _ _)
            refine R_cVv1 dX12_law_112 mvX12_enters mlX12_116 (by decide) (by omega) (Nat.le_of_ble_eq_true rfl) (Nat.le_of_ble_eq_true rfl) (hE1) (?_ : RR _ _ _ _ 115 _ _ _ _)
            refine R_aload_n dX12_law_115 rfl (?_ : RR _ _ _ _ 116 _ _ _ _)
            refine R_iload_n dX12_law_116 rfl (?_ : RR _ _ _ _ 117 _ _ _ _)
            refine R_i2l dX12_law_117 (by first | assumption | omega) (?_ : RR _ _ _ _ 118 _ _ _ _)
            refine R_cVv1 dX12_law_118 mvX12_enters mlX12_116 (by decide) (by omega) (Nat.le_of_ble_eq_true rfl) (Nat.le_of_ble_eq_true rfl) (hE2) (?_ : RR _ _ _ _ 121 _ _ _ _)
            refine R_iload dX12_law_121 rfl (?_ : RR _ _ _ _ 123 _ _ _ _)
            refine R_iload_n dX12_law_123 rfl (?_ : RR _ _ _ _ 124 _ _ _ _)
            refine R_isub dX12_law_124 (?_ : RR _ _ _ _ 125 _ _ _ _)
            exact R_ireturn dX12_law_125 trivial hq
          generalize mLw σ n h3 V2 V1 = QQ at *
          rw [← h6e]
          clear hV1 hV2 hO1 hT h8e h7e h6e g1e h0e m8
          refine R_aload_n dX12_law_70 rfl (?_ : RR _ _ _ _ 71 _ _ _ _)
          refine R_aload_n dX12_law_71 rfl (?_ : RR _ _ _ _ 72 _ _ _ _)
          refine R_getr dX12_law_72 flX12_48 cok_12 rfl (by decide) (?_ : RR _ _ _ _ 75 _ _ _ _)
          refine R_aload_n dX12_law_75 rfl (?_ : RR _ _ _ _ 76 _ _ _ _)
          refine R_geti (z := 24) dX12_law_76 flX12_230 cok_12 rfl (by decide) rfl (fun q76 => (?_ : RR _ _ _ _ 79 _ _ _ _))
          rw [l6] at q76 ⊢
          refine R_cVv2 dX12_law_79 mvX12_laysCode mlX12_263 (by decide) (by omega) (Nat.le_of_ble_eq_true rfl) (Nat.le_of_ble_eq_true rfl) (hL1) (?_ : RR _ _ _ _ 82 _ _ _ _)
          refine R_aload_n dX12_law_82 rfl (?_ : RR _ _ _ _ 83 _ _ _ _)
          refine R_cVv0 dX12_law_83 mvX12_puts mlX12_407 (by decide) (by omega) (Nat.le_of_ble_eq_true rfl) (Nat.le_of_ble_eq_true rfl) (hP2) (?_ : RR _ _ _ _ 86 _ _ _ _)
          refine R_aload_n dX12_law_86 rfl (?_ : RR _ _ _ _ 87 _ _ _ _)
          refine R_bipush dX12_law_87 rfl (?_ : RR _ _ _ _ 89 _ _ _ _)
          refine R_qV1 dX12_law_89 mvX12_outIn mlX12_415 (by decide) (by omega) (Nat.le_of_ble_eq_true rfl) (Nat.le_of_ble_eq_true rfl) (hO2) (fun r9 g9 hq9 => (?_ : RR _ _ _ _ 92 _ _ _ _))
          obtain ⟨rfl, h9, rfl, f9, e9⟩ := hq9
          show RR _ _ _ _ _ _ [pI V2] _ _
          exact K92 h9 f9 e9
        have K41 := ML_41 c5 hc80 K70
        generalize mLw σ n h3 V2 V1 = QQ at *
        clear K70 hV1 hV2 hO1 hT g1e h0e
        refine R_istore_n dX12_law_32 (Nat.le_of_ble_eq_true rfl) (?_ : RR _ _ _ _ 33 [_, _, _, _, _] _ _ _)
        refine R_aload_n dX12_law_33 rfl (?_ : RR _ _ _ _ 34 _ _ _ _)
        refine R_geti (z := 23) dX12_law_34 flX12_257 cok_12 rfl (by decide) rfl (fun q34 => (?_ : RR _ _ _ _ 37 _ _ _ _))
        rw [c5] at q34 ⊢
        refine R_istore_n dX12_law_37 (Nat.le_of_ble_eq_true rfl) (?_ : RR _ _ _ _ 38 [_, _, _, _, _] _ _ _)
        refine R_iconst dX12_law_38 (?_ : RR _ _ _ _ 39 _ _ _ _)
        refine R_istore dX12_law_39 (Nat.le_of_ble_eq_true rfl) (?_ : RR _ _ _ _ 41 [_, _, _, _, _] _ _ _)
        exact K41
      generalize mLw σ n h3 V2 V1 = QQ at *
      clear hV1 hV2 hT g1e h0e
      refine R_istore_n dX12_law_9 (Nat.le_of_ble_eq_true rfl) (?_ : RR _ _ _ _ 10 [_, _, _, _, _] _ _ _)
      refine R_iload_n dX12_law_10 rfl (?_ : RR _ _ _ _ 11 _ _ _ _)
      refine R_if_ge (t := 22) dX12_law_11 rfl (fun c11 => ?_) (fun c11 => ?_)
      rotate_left
      · exfalso; omega
      refine R_aload_n dX12_law_22 rfl (?_ : RR _ _ _ _ 23 _ _ _ _)
      refine R_cVv0 dX12_law_23 mvX12_puts mlX12_407 (by decide) (by omega) (Nat.le_of_ble_eq_true rfl) (Nat.le_of_ble_eq_true rfl) (hP1) (?_ : RR _ _ _ _ 26 _ _ _ _)
      refine R_aload_n dX12_law_26 rfl (?_ : RR _ _ _ _ 27 _ _ _ _)
      refine R_bipush dX12_law_27 rfl (?_ : RR _ _ _ _ 29 _ _ _ _)
      refine R_qV1 dX12_law_29 mvX12_outIn mlX12_415 (by decide) (by omega) (Nat.le_of_ble_eq_true rfl) (Nat.le_of_ble_eq_true rfl) (hO1) (fun r9 g9 hq9 => (?_ : RR _ _ _ _ 32 _ _ _ _))
      obtain ⟨rfl, h5, rfl, f5, e5⟩ := hq9
      show RR _ _ _ _ _ _ [pI V1] _ _
      exact K32 h5 f5 e5
  generalize mLw σ n h3 V2 V1 = QQ at *
  refine R_aload_n dX12_law_0 rfl (?_ : RR _ _ _ _ 1 _ _ _ _)
  refine R_iconst dX12_law_1 (?_ : RR _ _ _ _ 2 _ _ _ _)
  refine R_puti (zk := 0) dX12_law_2 flX12_106 cok_12 (by decide) (fun q hq => by cases hq; rfl) rfl (?_ : RR _ _ _ _ 5 _ _ _ _)
  rw [← h0e]
  refine R_aload_n dX12_law_5 rfl (?_ : RR _ _ _ _ 6 _ _ _ _)
  refine R_qV0 dX12_law_6 mvX12_readsRule mlX12_260 (by decide) (by omega) (Nat.le_of_ble_eq_true rfl) (Nat.le_of_ble_eq_true rfl) (hT) (fun r9 g9 hq9 => (?_ : RR _ _ _ _ 9 _ _ _ _))
  obtain ⟨z, rfl, KK⟩ := K9 _ _ hq9
  show RR _ _ _ _ _ _ [pI z] _ _
  exact KK
theorem A_law (hs : SRx k h sem H np nc len) (hk : k ≤ 1000) : AG mX11_law mX12_law 761 513 [] k h := by
  obtain ⟨n, b, σ, n1, n2, n3, hb, hσc, hσn, hσb, hσm⟩ := rule_sg hs
  refine RR.post (C_law (σ := σ) hs hk n1 n3 hb hσc hσn hσb) (fun r' g' c => ?_)
  obtain ⟨h3, rfl, c1, c2, hc⟩ := c
  have e3 : ∀ a, 147 ≤ a → h3 a = h a := fun a ha => by
    rcases hc with ⟨_, _, f⟩ | ⟨_, _, f, _⟩
    · exact f a (by omega) (by omega) (by omega)
    · exact f a (by omega)
  refine ⟨h3, rfl, RR.post (M_law (σ := σ) (n := n) (b := b) hs hk e3 n2 n3 hb hσm hσn) (fun r'' g'' q => ?_)⟩
  obtain ⟨h4, rfl, m1, hm⟩ := q
  obtain ⟨b1, b2, b3, b4, b5, b6, b7, b8, b9, b10, b11⟩ := hs.1
  rcases hc with ⟨w1, rfl, f3⟩ | ⟨w1, rfl, f3, u1, u2, u3⟩
  · rcases hm with ⟨y1, rfl, f4, j4⟩ | ⟨y1, _⟩
    · refine ⟨rfl, h4, rfl, ?_⟩
      have fr : ∀ a, a ≠ 1 → a ≠ 32 → a ≠ 33 → a ≠ 147 → a ≠ 159 → h4 a = h a := fun a a1 a2 a3 a4 a5 => by rw [f4 a a4 a5]; exact f3 a a1 a2 a3
      have fj : ∀ j : Int, j ≠ 0 → j ≠ 15 → j ≠ 16 → j ≠ 17 → j ≠ 18 → j ≠ 24 → h4 147 j = h 147 j := fun j j1 j2 j3 j5 j6 j7 => by rw [j4 j j1 j2 j3 j5 j6 j7, e3 147 (by omega)]
      refine SR_rl (sem2 := sem) hs ⟨fun a q1 q2 => fr a (by omega) (by omega) (by omega) (by omega) (by omega), fun j q1 q2 => fj j (by omega) (by omega) (by omega) (by omega) (by omega) (by omega), fun q => by rw [fj 30 (by omega) (by omega) (by omega) (by omega) (by omega) (by omega)]; exact q, fun j q => by rw [fr 155 (by omega) (by omega) (by omega) (by omega) (by omega)]⟩ ⟨0, by rw [f4 1 (by omega) (by omega)]; exact c1, m1, by omega, fun i hi => by omega⟩ (SD_same hs.2.2.1 (by rw [fr 145 (by omega) (by omega) (by omega) (by omega) (by omega)]) (fj 1 (by omega) (by omega) (by omega) (by omega) (by omega) (by omega)) (fr 146 (by omega) (by omega) (by omega) (by omega) (by omega)) (fr 148 (by omega) (by omega) (by omega) (by omega) (by omega))) ?_ (mrOK_fr b8 (fj 23 (by omega) (by omega) (by omega) (by omega) (by omega) (by omega)) (fr 158 (by omega) (by omega) (by omega) (by omega) (by omega))) ?_ ?_ ?_
      · have := b7.2.2.1
        unfold ruOK at this ⊢
        rw [fr 29 (by omega) (by omega) (by omega) (by omega) (by omega), fr (29 + 1) (by omega) (by omega) (by omega) (by omega) (by omega)]
        exact this
      · rw [fr 29 (by omega) (by omega) (by omega) (by omega) (by omega)]; exact b9
      · rw [fr 29 (by omega) (by omega) (by omega) (by omega) (by omega)]; exact b10
      · rw [f4 32 (by omega) (by omega)]; exact c2
    · exact absurd y1 w1
  · rcases hm with ⟨y1, _⟩ | ⟨y1, rfl, f4, j4, j30, o155, o158, t1, t2, t3⟩
    · exact absurd w1 y1
    · refine ⟨rfl, h4, rfl, ?_⟩
      have fr : ∀ a, ¬ (a = 1 ∨ (24 ≤ a ∧ a ≤ 28) ∨ (31 ≤ a ∧ a ≤ 35) ∨ (37 ≤ a ∧ a ≤ 43) ∨ a = 145 ∨ a = 146) → ¬ (a = 147 ∨ a = 148 ∨ a = 155 ∨ a = 158 ∨ (159 ≤ a ∧ a ≤ 162) ∨ a = 169) → h4 a = h a := fun a q1 q2 => by rw [f4 a q2]; exact f3 a q1
      have fj : ∀ j : Int, j ≠ 0 → j ≠ 1 → j ≠ 15 → j ≠ 16 → j ≠ 17 → j ≠ 18 → j ≠ 24 → j ≠ 30 → h4 147 j = h 147 j := fun j j1 j2 j3 j5 j6 j7 j8 j9 => by rw [j4 j j1 j2 j3 j5 j6 j7 j8 j9, e3 147 (by omega)]
      refine SR_rl (sem2 := sem) hs ⟨fun a q1 q2 => fr a (by omega) (by omega), fun j q1 q2 => fj j (by omega) (by omega) (by omega) (by omega) (by omega) (by omega) (by omega) (by omega), fun _ => j30, fun j q => by rw [o155 j q, e3 154 (by omega)]; exact (hs.2.2.2.1.2.2.1 j q).symm⟩ ⟨0, by rw [f4 1 (by omega)]; exact c1, m1, by omega, fun i hi => by omega⟩ ⟨2, by rw [f4 145 (by omega)]; exact u1, t1, by omega, fun i hi => ?_⟩ ?_ (mrOK_cg b8 (fj 23 (by omega) (by omega) (by omega) (by omega) (by omega) (by omega) (by omega) (by omega)) (fun i hi => by rw [o158 i (by rw [e3 147 (by omega)]; exact hi), e3 158 (by omega)])) ?_ ?_ ?_
      · rw [f4 146 (by omega)]
        have : i = 0 ∨ i = 1 := by omega
        rcases this with rfl | rfl
        · exact u2.trans t2.symm
        · exact u3.trans t3.symm
      · have := b7.2.2.1
        unfold ruOK at this ⊢
        rw [fr 29 (by omega) (by omega), fr (29 + 1) (by omega) (by omega)]
        exact this
      · rw [fr 29 (by omega) (by omega)]; exact b9
      · rw [fr 29 (by omega) (by omega)]; exact b10
      · rw [f4 32 (by omega)]; exact c2
end LAX
