section NI7
variable {k : Nat} {h h1 h2 h3 h4 hb : Nat → Int → Int} {sem : Sem} {H np nc len n b i U D K : Nat} {σ : Int → Int} {X : Cx} {f : Int → Int}
theorem sm_diff {P Q : Nat → Bool} (hh : ∀ p, Q p = true → P p = true) : ∀ m : Nat, sm (fun p => if P p && !Q p then 1 else 0) m = sm (fun p => if P p then 1 else 0) m - sm (fun p => if Q p then 1 else 0) m
  | 0 => rfl
  | m + 1 => by
    show sm (fun p => if P p && !Q p then 1 else 0) m + (if P m && !Q m then 1 else 0) = (sm (fun p => if P p then 1 else 0) m + (if P m then 1 else 0)) - (sm (fun p => if Q p then 1 else 0) m + (if Q m then 1 else 0))
    rw [sm_diff hh m]
    have := hh m
    cases hq : Q m <;> cases hp : P m
    · simp
    · simp; omega
    · rw [hp, hq] at this; exact absurd (this rfl) (by decide)
    · simp; omega
theorem newOut_pop {F : Int → Int} (h12 : xP X ≤ 12) (hm : ∀ q : Nat, q < xP X → mS f q < 0 → mS F q < 0) : (pop 12 (newOut (xP X) F f) : Int) = (oMn X F : Int) - oMn X f := by
  have e : newOut (xP X) F f = bset (fun p => (decide (mS F p < 0) && decide (p < xP X)) && !(decide (mS f p < 0) && decide (p < xP X))) (xP X) := bset_congr (fun p hp => by simp [hp])
  have e1 : oMn X F = pop 12 (bset (fun p => decide (mS F p < 0) && decide (p < xP X)) (xP X)) := by
    unfold oMn
    congr 1
    exact bset_congr (fun p hp => by simp [hp])
  have e2 : oMn X f = pop 12 (bset (fun p => decide (mS f p < 0) && decide (p < xP X)) (xP X)) := by
    unfold oMn
    congr 1
    exact bset_congr (fun p hp => by simp [hp])
  rw [e, e1, e2, pop_bset h12, pop_bset h12, pop_bset h12]
  refine sm_diff (P := fun p => decide (mS F p < 0) && decide (p < xP X)) (Q := fun p => decide (mS f p < 0) && decide (p < xP X)) (fun p hp => ?_) (xP X)
  simp only [Bool.and_eq_true, decide_eq_true_eq] at hp ⊢
  exact ⟨hm p hp.2 hp.1, hp.2⟩
def nlF (hb h1 : Nat → Int → Int) : Prop := (∀ a, a ≠ 147 → a ≠ 154 → a ≠ 160 → a ≠ 161 → a ≠ 162 → h1 a = hb a) ∧ (∀ j : Int, j ≠ 30 → h1 147 j = hb 147 j) ∧ 0 ≤ h1 147 30 ∧ h1 147 30 < 64
theorem MNI_74 {Q : Option PV → PH → Prop} {z : Int} (hB : MBk sem hb 154 H np nc) (hnow : hb 154 1 ≤ 1000000000) (hσb : ∀ p : Int, -1 ≤ σ p ∧ σ p ≤ 255) (h34 : hb 147 34 = K) (hK60 : K ≤ 60) (gk : ∀ j, j < K → (naR σ (j + 1)).2 = true) (hv : nrV σ K hb) (hD : D ≤ K) (d1 : ∀ j, j < D → 0 ≤ (naA (cxM sem hb np nc) σ (niS (cxM sem hb np nc) σ (hb 154) j) (naR σ j).1).1) (d2 : D = K ∨ (D < K ∧ (naA (cxM sem hb np nc) σ (niS (cxM sem hb np nc) σ (hb 154) D) (naR σ D).1).1 < 0))
    (K98 : ∀ h2, nlF hb h2 → h2 154 = niS (cxM sem hb np nc) σ (hb 154) (if D = K then D else D + 1) → RR mX12_night 10 0 0 98 [pR 147, pI n, pI 1, pI 0, pI z, pI D] [] (shp0, rf0, h2) Q) : ∀ (m k : Nat) (h1 : Nat → Int → Int), k + m = D → nlF hb h1 → h1 154 = niS (cxM sem hb np nc) σ (hb 154) k → RR mX12_night 10 0 0 74 [pR 147, pI n, pI 1, pI 0, pI z, pI k] [] (shp0, rf0, h1) Q := by
  have hX := hB.1
  have hf := hB.2.1
  have st : ∀ (k : Nat) (h1 : Nat → Int → Int), k < K → nlF hb h1 → h1 154 = niS (cxM sem hb np nc) σ (hb 154) k → RR mX12_does 9 0 0 0 (pm_ent [pR 147, pI k] 2) [] (shp0, rf0, h1) (mDo h1 (naA (cxM sem hb np nc) σ (niS (cxM sem hb np nc) σ (hb 154) k) (naR σ k).1)) := fun k h1 hk f1 e1 => by
    have hp := niS_p (σ := σ) hX hf gk k (by omega)
    have eX : cxM sem h1 np nc = cxM sem hb np nc := cxM_fr (fun a a1 a2 => f1.1 a (by omega) (by omega) (by omega) (by omega) (by omega))
    obtain ⟨y1, y2, y3, y4⟩ := hv k hk
    have hT := M_does (sem := sem) (h := h1) (H := H) (np := np) (nc := nc) (k := k) (σ := σ) (p := (naR σ k).1) ⟨by rw [eX]; exact hX, by rw [eX, e1]; exact hp.1, mrOK_fr hB.2.2.1 (f1.2.1 23 (by omega)) (f1.1 158 (by omega) (by omega) (by omega) (by omega) (by omega)), by rw [f1.2.1 5 (by omega)]; exact hB.2.2.2.1, by rw [f1.2.1 4 (by omega)]; exact hB.2.2.2.2.1, by rw [e1]; omega, f1.2.2, hB.2.2.2.2.2.2.2⟩ (by omega) hσb ⟨by rw [f1.1 164 (by omega) (by omega) (by omega) (by omega) (by omega)]; exact y1, by rw [f1.1 165 (by omega) (by omega) (by omega) (by omega) (by omega)]; exact y2, by rw [f1.1 165 (by omega) (by omega) (by omega) (by omega) (by omega)]; exact y3, by rw [f1.1 166 (by omega) (by omega) (by omega) (by omega) (by omega)]; exact y4⟩ (gk k hk)
    rw [eX, e1] at hT
    exact hT
  have tr : ∀ (h1 h2 : Nat → Int → Int), nlF hb h1 → (∀ a, a ≠ 147 → a ≠ 154 → a ≠ 160 → a ≠ 161 → a ≠ 162 → h2 a = h1 a) → (∀ j : Int, j ≠ 30 → h2 147 j = h1 147 j) → (0 ≤ h2 147 30 ∧ h2 147 30 < 64) → nlF hb h2 := fun h1 h2 a x y z => ⟨fun q q1 q2 q3 q4 q5 => by rw [x q q1 q2 q3 q4 q5]; exact a.1 q q1 q2 q3 q4 q5, fun j q => by rw [y j q]; exact a.2.1 j q, z⟩
  intro m
  induction m with
  | zero =>
    intro k h1 hk f1 e1
    obtain rfl : k = D := by omega
    have g34 : h1 147 34 = K := by rw [f1.2.1 34 (by omega)]; exact h34
    rcases d2 with d2 | ⟨d2, d3⟩
    · subst d2
      rw [if_pos rfl] at K98
      have KK := K98 h1 f1 e1
      clear K98 st d1 hv
      refine R_iload dX12_night_74 rfl (?_ : RR _ _ _ _ 76 _ _ _ _)
      refine R_aload_n dX12_night_76 rfl (?_ : RR _ _ _ _ 77 _ _ _ _)
      refine R_geti (z := 34) dX12_night_77 flX12_394 cok_12 rfl (by decide) rfl (fun q77 => (?_ : RR _ _ _ _ 80 _ _ _ _))
      rw [g34] at q77 ⊢
      refine R_icmp_ge (t := 98) dX12_night_80 rfl (fun c80 => ?_) (fun c80 => ?_)
      rotate_left
      · exfalso; omega
      exact KK
    · rw [if_neg (by omega)] at K98
      have hT := st k h1 d2 f1 e1
      have e2 : (naA (cxM sem hb np nc) σ (niS (cxM sem hb np nc) σ (hb 154) k) (naR σ k).1).2 = niS (cxM sem hb np nc) σ (hb 154) (k + 1) := rfl
      have K89 : ∀ h2, nlF hb h2 → h2 154 = niS (cxM sem hb np nc) σ (hb 154) (k + 1) → RR mX12_night 10 0 0 89 [pR 147, pI n, pI 1, pI 0, pI z, pI k] [pI 0] (shp0, rf0, h2) Q := fun h2 a1 a2 => by
        have KK := K98 h2 a1 a2
        clear K98 st d1 hv
        refine R_if_eq (t := 98) dX12_night_89 rfl (fun c89 => ?_) (fun c89 => ?_)
        rotate_left
        · exfalso; omega
        exact KK
      clear K98 st d1 hv gk
      generalize naA (cxM sem hb np nc) σ (niS (cxM sem hb np nc) σ (hb 154) k) (naR σ k).1 = w at *
      refine R_iload dX12_night_74 rfl (?_ : RR _ _ _ _ 76 _ _ _ _)
      refine R_aload_n dX12_night_76 rfl (?_ : RR _ _ _ _ 77 _ _ _ _)
      refine R_geti (z := 34) dX12_night_77 flX12_394 cok_12 rfl (by decide) rfl (fun q77 => (?_ : RR _ _ _ _ 80 _ _ _ _))
      rw [g34] at q77 ⊢
      refine R_icmp_ge (t := 98) dX12_night_80 rfl (fun c80 => ?_) (fun c80 => ?_)
      · exfalso; omega
      refine R_aload_n dX12_night_83 rfl (?_ : RR _ _ _ _ 84 _ _ _ _)
      refine R_iload dX12_night_84 rfl (?_ : RR _ _ _ _ 86 _ _ _ _)
      refine R_qV1 dX12_night_86 mvX12_does mlX12_404 (by decide) (by decide) (Nat.le_of_ble_eq_true rfl) (Nat.le_of_ble_eq_true rfl) (hT) (fun r9 g9 hq9 => (?_ : RR _ _ _ _ 89 _ _ _ _))
      obtain ⟨h2, rfl, m1, m2, rfl, m3, m4⟩ := hq9
      rw [if_neg (by omega)]
      rw [e2] at m2
      have a3 := tr _ _ f1 m1 m3 m4
      show RR _ _ _ _ _ _ [pI 0] _ _
      exact K89 h2 a3 m2
  | succ m ih =>
    intro k h1 hk f1 e1
    have g34 : h1 147 34 = K := by rw [f1.2.1 34 (by omega)]; exact h34
    have hT := st k h1 (by omega) f1 e1
    have hpos := d1 k (by omega)
    have e2 : (naA (cxM sem hb np nc) σ (niS (cxM sem hb np nc) σ (hb 154) k) (naR σ k).1).2 = niS (cxM sem hb np nc) σ (hb 154) (k + 1) := rfl
    have IH := ih (k + 1)
    have K89 : ∀ h2, nlF hb h2 → h2 154 = niS (cxM sem hb np nc) σ (hb 154) (k + 1) → RR mX12_night 10 0 0 89 [pR 147, pI n, pI 1, pI 0, pI z, pI k] [pI 1] (shp0, rf0, h2) Q := fun h2 a1 a2 => by
      have KK := IH h2 (by omega) a1 a2
      rw [show ((k + 1 : Nat) : Int) = (k : Int) + 1 by omega] at KK
      clear K98 st d1 hv IH ih
      refine R_if_eq (t := 98) dX12_night_89 rfl (fun c89 => ?_) (fun c89 => ?_)
      · exfalso; omega
      refine R_iinc dX12_night_92 rfl (Nat.le_of_ble_eq_true rfl) (?_ : RR _ _ _ _ 95 [_, _, _, _, _, _] _ _ _)
      refine R_goto (t := 74) dX12_night_95 rfl (?_ : RR _ _ _ _ 74 _ _ _ _)
      exact KK
    clear K98 st d1 hv gk IH ih
    generalize naA (cxM sem hb np nc) σ (niS (cxM sem hb np nc) σ (hb 154) k) (naR σ k).1 = w at *
    refine R_iload dX12_night_74 rfl (?_ : RR _ _ _ _ 76 _ _ _ _)
    refine R_aload_n dX12_night_76 rfl (?_ : RR _ _ _ _ 77 _ _ _ _)
    refine R_geti (z := 34) dX12_night_77 flX12_394 cok_12 rfl (by decide) rfl (fun q77 => (?_ : RR _ _ _ _ 80 _ _ _ _))
    rw [g34] at q77 ⊢
    refine R_icmp_ge (t := 98) dX12_night_80 rfl (fun c80 => ?_) (fun c80 => ?_)
    · exfalso; omega
    refine R_aload_n dX12_night_83 rfl (?_ : RR _ _ _ _ 84 _ _ _ _)
    refine R_iload dX12_night_84 rfl (?_ : RR _ _ _ _ 86 _ _ _ _)
    refine R_qV1 dX12_night_86 mvX12_does mlX12_404 (by decide) (by decide) (Nat.le_of_ble_eq_true rfl) (Nat.le_of_ble_eq_true rfl) (hT) (fun r9 g9 hq9 => (?_ : RR _ _ _ _ 89 _ _ _ _))
    obtain ⟨h2, rfl, m1, m2, rfl, m3, m4⟩ := hq9
    rw [if_pos (by omega)]
    rw [e2] at m2
    have a3 := tr _ _ f1 m1 m3 m4
    show RR _ _ _ _ _ _ [pI 1] _ _
    exact K89 h2 a3 m2
/-- what the reference's night leaves -/
def mNi (h : Nat → Int → Int) (U D : Nat) (z y : Int) (F : Int → Int) (r' : Option PV) (g' : PH) : Prop := ∃ h4, g' = (shp0, rf0, h4) ∧ r' = some (pI D) ∧ h4 154 = F ∧ (h4 147 1 = 2 ∧ h4 148 0 = z ∧ h4 148 1 = y) ∧
  (∀ a, a ≠ 147 → a ≠ 148 → a ≠ 154 → ¬ (160 ≤ a ∧ a ≤ 166) → h4 a = h a) ∧ (∀ j : Int, j ≠ 0 → j ≠ 1 → j ≠ 15 → j ≠ 16 → j ≠ 17 → j ≠ 18 → j ≠ 28 → j ≠ 30 → j ≠ 34 → h4 147 j = h 147 j) ∧ h4 147 15 = 0 ∧ (0 ≤ h4 147 30 ∧ h4 147 30 < 64) ∧
  (D = 0 → h4 147 28 = h 147 28 ∧ h4 163 = put (26 * U) (h 154) (h 163) 26) ∧
  (0 < D → h4 147 28 = min 15 (U + 1) ∧ h4 163 = if U < 15 then put (26 * U) (h 154) (h 163) 26 else shf (put (26 * U) (h 154) (h 163) 26) 390)
theorem MNI_98 {F : Int → Int} (hr : nrd h hb) (h12 : np ≤ 12) (hU : h 147 28 = U) (hU15 : U ≤ 15) (h5 : h 147 5 = np) (hb34 : hb 147 34 = K) (hK60 : K ≤ 60) (hD : D ≤ K) (hX : xP X = np) (hm : ∀ q : Nat, q < xP X → mS (h 154) q < 0 → mS F q < 0) (f2 : nlF (rup hb 163 (put (26 * U) (hb 154) (hb 163) 26)) h2) (e2 : h2 154 = F) : RR mX12_night 10 0 0 98 [pR 147, pI n, pI 1, pI 0, pI (bset (fun p => decide (mS (h 154) p < 0)) np), pI D] [] (shp0, rf0, h2) (mNi h U D (if D < K then 1 else 0) ((oMn X F : Int) - oMn X (h 154)) F) := by
  have hrw := isRw_154
  have fa : ∀ a, a ≠ 147 → a ≠ 154 → ¬ (160 ≤ a ∧ a ≤ 166) → h2 a = h a := fun a a1 a2 a3 => by rw [f2.1 a a1 a2 (by omega) (by omega) (by omega), rup_n (by omega), hr.1 a a1 (by omega) (by omega) (by omega)]
  have fj : ∀ j : Int, j ≠ 30 → h2 147 j = hb 147 j := fun j j1 => by rw [f2.2.1 j j1, rup_n (by omega)]
  have g163 : h2 163 = put (26 * U) (h 154) (h 163) 26 := by rw [f2.1 163 (by omega) (by omega) (by omega) (by omega) (by omega), rup_s, hr.1 154 (by omega) (by omega) (by omega) (by omega), hr.1 163 (by omega) (by omega) (by omega) (by omega)]
  obtain ⟨fl, hfl⟩ : ∃ fl : Int, fl = if D < K then 1 else 0 := ⟨_, rfl⟩
  have flb : fl = 0 ∨ fl = 1 := by rw [hfl]; split <;> omega
  have hy := newOut_pop (X := X) (f := h 154) (F := F) (by rw [hX]; exact h12) hm
  rw [hX] at hy
  obtain ⟨y, hye⟩ : ∃ y : Int, y = (oMn X F : Int) - oMn X (h 154) := ⟨_, rfl⟩
  have hno : newOut np F (h 154) < 4096 := Nat.lt_of_lt_of_le (bset_lt _ np) (show 2 ^ np ≤ 2 ^ 12 from Nat.pow_le_pow_right (by omega) h12)
  have hpb : pop 12 (newOut np F (h 154)) ≤ 12 := pop_12 h12
  rw [← hye] at hy
  rw [← hye, ← hfl]
  /- the row -/
  obtain ⟨h6, h6e⟩ : ∃ h6, h6 = rup (rup h2 147 (fup (fup (h2 147) 1 0) 1 (((0 : Nat) : Int) + 1))) 148 (fup (h2 148) ((0 : Nat) : Int) fl) := ⟨_, rfl⟩
  have hE1 := T_X12_enters (h := rup h2 147 (fup (h2 147) 1 0)) (n := 0) (v := fl) (by rw [rup_s, fup_s]; rfl) (by omega) (by omega)
  simp (disch := omega) only [rup_rup, rup_s, rup_n] at hE1
  rw [← h6e] at hE1
  have n6 : h6 147 1 = ((1 : Nat) : Int) := by rw [h6e, rup_n (by omega), rup_s, fup_s]; rfl
  have p6 : h6 147 5 = np := by rw [h6e, rup_n (by omega), rup_s, fup_n (by omega), fup_n (by omega), fj 5 (by omega), hr.2.1 5 (by omega) (by omega) (by omega) (by omega) (by omega) (by omega)]; exact h5
  have e6 : h6 154 = F := by rw [h6e, rup_n (by omega), rup_n (by omega)]; exact e2
  have hO := T_X12_outs (h := h6) (r := 154) (np := np) p6
  rw [e6] at hO
  have hA : iAnd (bset (fun p => decide (mS F p < 0)) np : Int) (iXor (bset (fun p => decide (mS (h 154) p < 0)) np : Int) (-1)) = ((newOut np F (h 154) : Nat) : Int) := outs_new h12
  have hE2 := T_X12_enters (h := h6) (n := 1) (v := ((pop 12 (newOut np F (h 154)) : Nat) : Int)) n6 (by omega) (by omega)
  obtain ⟨h7, h7e⟩ : ∃ h7, h7 = rup (rup h6 147 (fup (h6 147) 1 (((1 : Nat) : Int) + 1))) 148 (fup (h6 148) ((1 : Nat) : Int) ((pop 12 (newOut np F (h 154)) : Nat) : Int)) := ⟨_, rfl⟩
  rw [← h7e] at hE2
  have f7 : ∀ a, a ≠ 147 → a ≠ 148 → h7 a = h2 a := fun a a1 a2 => by rw [h7e, rup_n a2, rup_n a1, h6e, rup_n a2, rup_n a1]
  have j7 : ∀ j : Int, j ≠ 1 → h7 147 j = h2 147 j := fun j j1 => by rw [h7e, rup_n (by omega), rup_s, fup_n j1, h6e, rup_n (by omega), rup_s, fup_n j1, fup_n j1]
  have w1 : h7 147 1 = 2 := by rw [h7e, rup_n (by omega), rup_s, fup_s]; rfl
  have w2 : h7 148 0 = fl := by rw [h7e, rup_s, fup_n (by omega), h6e, rup_s]; exact fup_s
  have w3 : h7 148 1 = y := by rw [h7e, rup_s, ← hy]; exact fup_s
  have g28 : h7 147 28 = U := by rw [j7 28 (by omega), fj 28 (by omega), hr.2.1 28 (by omega) (by omega) (by omega) (by omega) (by omega) (by omega)]; exact hU
  have g34 : h2 147 34 = K := by rw [fj 34 (by omega)]; exact hb34
  have base : ∀ h4 : Nat → Int → Int, (∀ a, a ≠ 147 → a ≠ 163 → h4 a = h7 a) → (∀ j : Int, j ≠ 28 → h4 147 j = h7 147 j) → (D = 0 → h4 147 28 = h7 147 28 ∧ h4 163 = h7 163) → (0 < D → h4 147 28 = min 15 (U + 1) ∧ h4 163 = if U < 15 then h7 163 else shf (h7 163) 390) → mNi h U D fl y F (some (pI D)) (shp0, rf0, h4) := fun h4 x1 x2 x3 x4 =>
    ⟨h4, rfl, rfl, by rw [x1 154 (by omega) (by omega), f7 154 (by omega) (by omega)]; exact e2, ⟨by rw [x2 1 (by omega)]; exact w1, by rw [x1 148 (by omega) (by omega)]; exact w2, by rw [x1 148 (by omega) (by omega)]; exact w3⟩, fun a a1 a2 a3 a4 => by rw [x1 a a1 (by omega), f7 a a1 a2]; exact fa a a1 a3 a4, fun j j1 j2 j3 j4 j5 j6 j7' j8 j9 => by rw [x2 j j7', j7 j j2, fj j j8]; exact hr.2.1 j j1 j3 j4 j5 j6 j9, by rw [x2 15 (by omega), j7 15 (by omega), fj 15 (by omega)]; exact hr.2.2, by rw [x2 30 (by omega), j7 30 (by omega)]; exact f2.2.2, fun q => ⟨by rw [(x3 q).1, g28, hU], by rw [(x3 q).2, f7 163 (by omega) (by omega)]; exact g163⟩, fun q => ⟨(x4 q).1, by rw [(x4 q).2, f7 163 (by omega) (by omega), g163]⟩⟩
  clear hye hy fa fj f2 hr hm
  generalize bset (fun p => decide (mS F p < 0)) np = B1 at *
  generalize bset (fun p => decide (mS (h 154) p < 0)) np = B2 at *
  generalize newOut np F (h 154) = N at *
  have K146 : RR mX12_night 10 0 0 146 [pR 147, pI n, pI 1, pI 0, pI B2, pI D] [] (shp0, rf0, h7) (mNi h U D fl y F) := by
    by_cases q : D = 0
    · subst q
      have hq := base h7 (fun _ _ _ => rfl) (fun _ _ => rfl) (fun _ => ⟨rfl, rfl⟩) (fun q => by omega)
      have hq : mNi h U 0 fl y F (some (pI 0)) (shp0, rf0, h7) := hq
      show RR mX12_night 10 0 0 146 [pR 147, pI n, pI 1, pI 0, pI B2, pI 0] [] _ _
      clear base
      refine R_iload dX12_night_146 rfl (?_ : RR _ _ _ _ 148 _ _ _ _)
      refine R_if_le (t := 160) dX12_night_148 rfl (fun c148 => ?_) (fun c148 => ?_)
      rotate_left
      · exfalso; omega
      refine R_iconst dX12_night_160 (?_ : RR _ _ _ _ 161 _ _ _ _)
      exact R_ireturn dX12_night_161 trivial hq
    · have hAd := T_X12_adds (h := h7) (z := D) g28 hU15 (by omega)
      have hq := base (rup (rup h7 147 (fup (h7 147) 28 (min 15 ((U : Int) + 1)))) 163 (if U < 15 then h7 163 else shf (h7 163) 390)) (fun a a1 a2 => by rw [rup_n a2, rup_n a1]) (fun j j1 => by rw [rup_n (by omega), rup_s, fup_n j1]) (fun q => by omega) (fun _ => ⟨by rw [rup_n (by omega), rup_s, fup_s]; omega, by rw [rup_s]⟩)
      clear base
      generalize rup (rup h7 147 (fup (h7 147) 28 (min 15 ((U : Int) + 1)))) 163 (if U < 15 then h7 163 else shf (h7 163) 390) = h9 at *
      refine R_iload dX12_night_146 rfl (?_ : RR _ _ _ _ 148 _ _ _ _)
      refine R_if_le (t := 160) dX12_night_148 rfl (fun c148 => ?_) (fun c148 => ?_)
      · exfalso; omega
      refine R_aload_n dX12_night_151 rfl (?_ : RR _ _ _ _ 152 _ _ _ _)
      refine R_iload dX12_night_152 rfl (?_ : RR _ _ _ _ 154 _ _ _ _)
      refine R_cVi1 dX12_night_154 mvX12_adds mlX12_332 (by decide) (by decide) (Nat.le_of_ble_eq_true rfl) (Nat.le_of_ble_eq_true rfl) (hAd) (?_ : RR _ _ _ _ 157 _ _ _ _)
      refine R_goto (t := 161) dX12_night_157 rfl (?_ : RR _ _ _ _ 161 _ _ _ _)
      exact R_ireturn dX12_night_161 trivial hq
  have K125 : RR mX12_night 10 0 0 125 [pR 147, pI n, pI 1, pI 0, pI B2, pI D] [] (shp0, rf0, h6) (mNi h U D fl y F) := by
    clear base h7e h6e
    refine R_aload_n dX12_night_125 rfl (?_ : RR _ _ _ _ 126 _ _ _ _)
    refine R_aload_n dX12_night_126 rfl (?_ : RR _ _ _ _ 127 _ _ _ _)
    refine R_aload_n dX12_night_127 rfl (?_ : RR _ _ _ _ 128 _ _ _ _)
    refine R_getr dX12_night_128 flX12_33 cok_12 rfl (by decide) (?_ : RR _ _ _ _ 131 _ _ _ _)
    refine R_cVi1 dX12_night_131 mvX12_outs mlX12_370 (by decide) (by decide) (Nat.le_of_ble_eq_true rfl) (Nat.le_of_ble_eq_true rfl) (hO) (?_ : RR _ _ _ _ 134 _ _ _ _)
    refine R_iload dX12_night_134 rfl (?_ : RR _ _ _ _ 136 _ _ _ _)
    refine R_iconst dX12_night_136 (?_ : RR _ _ _ _ 137 _ _ _ _)
    refine R_ixor dX12_night_137 (?_ : RR _ _ _ _ 138 _ _ _ _)
    refine R_iand dX12_night_138 (?_ : RR _ _ _ _ 139 _ _ _ _)
    rw [hA]
    refine R_cSi1 dX12_night_139 msJ6_bitCount_0f7a4 mlX12_273 (by decide) (Nat.le_of_ble_eq_true rfl) (Nat.le_of_ble_eq_true rfl) (T_J6_bitCount_0f7a4 (hs := hno)) (?_ : RR _ _ _ _ 142 _ _ _ _)
    refine R_i2l dX12_night_142 (by first | assumption | omega) (?_ : RR _ _ _ _ 143 _ _ _ _)
    refine R_cVv1 dX12_night_143 mvX12_enters mlX12_116 (by decide) (by decide) (Nat.le_of_ble_eq_true rfl) (Nat.le_of_ble_eq_true rfl) (hE2) (?_ : RR _ _ _ _ 146 _ _ _ _)
    exact K146
  clear base h7e
  rcases flb with q | q
  · rw [q] at hE1 hfl
    have : ¬ D < K := fun w => by rw [if_pos w] at hfl; omega
    refine R_aload_n dX12_night_98 rfl (?_ : RR _ _ _ _ 99 _ _ _ _)
    refine R_iconst dX12_night_99 (?_ : RR _ _ _ _ 100 _ _ _ _)
    refine R_puti (zk := 1) dX12_night_100 flX12_113 cok_12 (by decide) (fun q hq => by cases hq; rfl) rfl (?_ : RR _ _ _ _ 103 _ _ _ _)
    refine R_aload_n dX12_night_103 rfl (?_ : RR _ _ _ _ 104 _ _ _ _)
    refine R_iload dX12_night_104 rfl (?_ : RR _ _ _ _ 106 _ _ _ _)
    refine R_aload_n dX12_night_106 rfl (?_ : RR _ _ _ _ 107 _ _ _ _)
    refine R_geti (z := 34) dX12_night_107 flX12_394 cok_12 rfl (by decide) rfl (fun q107 => (?_ : RR _ _ _ _ 110 _ _ _ _))
    rw [rup_s, fup_n (by omega), g34] at q107 ⊢
    refine R_icmp_ge (t := 117) dX12_night_110 rfl (fun c110 => ?_) (fun c110 => ?_)
    rotate_left
    · exfalso; omega
    refine R_iconst dX12_night_117 (?_ : RR _ _ _ _ 118 _ _ _ _)
    refine R_cSi1 dX12_night_118 msX12_flag mlX12_134 (by decide) (Nat.le_of_ble_eq_true rfl) (Nat.le_of_ble_eq_true rfl) (T_X12_flag (Or.inl rfl)) (?_ : RR _ _ _ _ 121 _ _ _ _)
    refine R_i2l dX12_night_121 (by first | assumption | omega) (?_ : RR _ _ _ _ 122 _ _ _ _)
    refine R_cVv1 dX12_night_122 mvX12_enters mlX12_116 (by decide) (by decide) (Nat.le_of_ble_eq_true rfl) (Nat.le_of_ble_eq_true rfl) (hE1) (?_ : RR _ _ _ _ 125 _ _ _ _)
    exact K125
  · rw [q] at hE1 hfl
    have : D < K := by
      by_cases w : D < K
      · exact w
      · rw [if_neg w] at hfl; omega
    refine R_aload_n dX12_night_98 rfl (?_ : RR _ _ _ _ 99 _ _ _ _)
    refine R_iconst dX12_night_99 (?_ : RR _ _ _ _ 100 _ _ _ _)
    refine R_puti (zk := 1) dX12_night_100 flX12_113 cok_12 (by decide) (fun q hq => by cases hq; rfl) rfl (?_ : RR _ _ _ _ 103 _ _ _ _)
    refine R_aload_n dX12_night_103 rfl (?_ : RR _ _ _ _ 104 _ _ _ _)
    refine R_iload dX12_night_104 rfl (?_ : RR _ _ _ _ 106 _ _ _ _)
    refine R_aload_n dX12_night_106 rfl (?_ : RR _ _ _ _ 107 _ _ _ _)
    refine R_geti (z := 34) dX12_night_107 flX12_394 cok_12 rfl (by decide) rfl (fun q107 => (?_ : RR _ _ _ _ 110 _ _ _ _))
    rw [rup_s, fup_n (by omega), g34] at q107 ⊢
    refine R_icmp_ge (t := 117) dX12_night_110 rfl (fun c110 => ?_) (fun c110 => ?_)
    · exfalso; omega
    refine R_iconst dX12_night_113 (?_ : RR _ _ _ _ 114 _ _ _ _)
    refine R_goto (t := 118) dX12_night_114 rfl (?_ : RR _ _ _ _ 118 _ _ _ _)
    refine R_cSi1 dX12_night_118 msX12_flag mlX12_134 (by decide) (Nat.le_of_ble_eq_true rfl) (Nat.le_of_ble_eq_true rfl) (T_X12_flag (Or.inr rfl)) (?_ : RR _ _ _ _ 121 _ _ _ _)
    refine R_i2l dX12_night_121 (by first | assumption | omega) (?_ : RR _ _ _ _ 122 _ _ _ _)
    refine R_cVv1 dX12_night_122 mvX12_enters mlX12_116 (by decide) (by decide) (Nat.le_of_ble_eq_true rfl) (Nat.le_of_ble_eq_true rfl) (hE1) (?_ : RR _ _ _ _ 125 _ _ _ _)
    exact K125
end NI7
