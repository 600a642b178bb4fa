section MP3
variable {k : Nat} {h h1 h2 h3 h4 hb : Nat → Int → Int} {sem : Sem} {H np nc len n b m : Nat} {σ f : Int → Int}
def rdP (σ : Int → Int) (m : Nat) (h : Nat → Int → Int) : Prop := ∀ i : Nat, i < m → h 157 (3 * i) = paCo σ i ∧ h 157 (3 * i + 1) = paWa σ i ∧ h 157 (3 * i + 2) = paRa σ i
theorem MPA_60 {a : Nat} {ok r : Int} {Q : Option PV → PH → Prop} (hok : ok = 0 ∨ ok = 1) (ha : h1 147 16 = a) (hb0 : h1 147 17 = b) (hab : a ≤ b) (hb47 : b = min n 47) (hn80 : n ≤ 80) (hr : ¬ (ok = 1 ∧ a = n)) (hre : r = -1 - (a : Int)) (hQ : Q (some (pI r)) (shp0, rf0, h1)) : RR mX12_passengers 3 0 0 29 [pR 147, pI n, pI ok, pI 0, pU, pU] [] (shp0, rf0, h1) Q := by
  have hT := T_X12_faultOf (n := n) hok ha hb0 hab hb47 hn80 (-1 - (a : Int)) (by rw [if_neg hr])
  rw [hre] at hQ
  refine R_iload_n dX12_passengers_29 rfl (?_ : RR _ _ _ _ 30 _ _ _ _)
  refine R_if_eq (t := 60) dX12_passengers_30 rfl (fun c30 => ?_) (fun c30 => ?_)
  rotate_left
  · exfalso; omega
  refine R_aload_n dX12_passengers_60 rfl (?_ : RR _ _ _ _ 61 _ _ _ _)
  refine R_iload_n dX12_passengers_61 rfl (?_ : RR _ _ _ _ 62 _ _ _ _)
  refine R_bipush dX12_passengers_62 rfl (?_ : RR _ _ _ _ 64 _ _ _ _)
  refine R_iload_n dX12_passengers_64 rfl (?_ : RR _ _ _ _ 65 _ _ _ _)
  refine R_cVi3 dX12_passengers_65 mvX12_faultOf mlX12_198 (by decide) (by decide) (Nat.le_of_ble_eq_true rfl) (Nat.le_of_ble_eq_true rfl) (hT) (?_ : RR _ _ _ _ 68 _ _ _ _)
  refine R_istore dX12_passengers_68 (Nat.le_of_ble_eq_true rfl) (?_ : RR _ _ _ _ 70 [_, _, _, _, _, _] _ _ _)
  refine R_iload dX12_passengers_70 rfl (?_ : RR _ _ _ _ 72 _ _ _ _)
  refine R_if_ge (t := 78) dX12_passengers_72 rfl (fun c72 => ?_) (fun c72 => ?_)
  · exfalso; omega
  refine R_iload dX12_passengers_75 rfl (?_ : RR _ _ _ _ 77 _ _ _ _)
  exact R_ireturn dX12_passengers_77 trivial hQ
theorem MPA_60y {Q : Option PV → PH → Prop} (ha : h1 147 16 = n) (hb0 : h1 147 17 = n) (hn47 : n ≤ 47) (KK : RR mX12_passengers 3 0 0 78 [pR 147, pI n, pI 1, pI 0, pI 0, pU] [] (shp0, rf0, h1) Q) : RR mX12_passengers 3 0 0 29 [pR 147, pI n, pI 1, pI 0, pU, pU] [] (shp0, rf0, h1) Q := by
  have hT := T_X12_faultOf (n := n) (b := n) (a := n) (Or.inr rfl) ha hb0 (by omega) (by omega) (by omega) 0 (by rw [if_pos ⟨rfl, rfl⟩])
  refine R_iload_n dX12_passengers_29 rfl (?_ : RR _ _ _ _ 30 _ _ _ _)
  refine R_if_eq (t := 60) dX12_passengers_30 rfl (fun c30 => ?_) (fun c30 => ?_)
  rotate_left
  · exfalso; omega
  refine R_aload_n dX12_passengers_60 rfl (?_ : RR _ _ _ _ 61 _ _ _ _)
  refine R_iload_n dX12_passengers_61 rfl (?_ : RR _ _ _ _ 62 _ _ _ _)
  refine R_bipush dX12_passengers_62 rfl (?_ : RR _ _ _ _ 64 _ _ _ _)
  refine R_iload_n dX12_passengers_64 rfl (?_ : RR _ _ _ _ 65 _ _ _ _)
  refine R_cVi3 dX12_passengers_65 mvX12_faultOf mlX12_198 (by decide) (by decide) (Nat.le_of_ble_eq_true rfl) (Nat.le_of_ble_eq_true rfl) (hT) (?_ : RR _ _ _ _ 68 _ _ _ _)
  refine R_istore dX12_passengers_68 (Nat.le_of_ble_eq_true rfl) (?_ : RR _ _ _ _ 70 [_, _, _, _, _, _] _ _ _)
  refine R_iload dX12_passengers_70 rfl (?_ : RR _ _ _ _ 72 _ _ _ _)
  refine R_if_ge (t := 78) dX12_passengers_72 rfl (fun c72 => ?_) (fun c72 => ?_)
  rotate_left
  · exfalso; omega
  exact KK
theorem MPA_29 {l : Nat} {r : Int} {Q : Option PV → PH → Prop} (hH : h 147 3 = H) (hH9 : 1 ≤ H ∧ H ≤ 9) (hnc : h 147 4 = nc) (h6 : nc ≤ 6) (hnp : h 147 5 = np) (hnp12 : np ≤ 12) (hb47 : b = min n 47) (hn80 : n ≤ 80) (hσ : ∀ p : Nat, p < b → h 156 p = σ p ∧ 0 ≤ σ p ∧ σ p ≤ 255) (hσn : ∀ p : Nat, b ≤ p → σ p = -1) (hg : ∀ j, j < l → paC σ H nc np n j) (hr : paS σ H nc np n l r) (hno : ∀ h1, r < 0 → mrF h h1 → Q (some (pI r)) (shp0, rf0, h1)) (hye : ∀ h1, r = l + 1 → (∀ j, j ≤ l → paOK σ H nc np j) → mrF h h1 → h1 147 20 = l + 1 → rdP σ (l + 1) h1 → RR mX12_passengers 3 0 0 78 [pR 147, pI n, pI 1, pI 0, pI 0, pU] [] (shp0, rf0, h1) Q) : ∀ (j i : Nat) (h1 : Nat → Int → Int), i + j = l → mrF h h1 → h1 147 16 = ((4 * i : Nat) : Int) → h1 147 17 = b → 4 * i ≤ b → h1 147 20 = i → rdP σ i h1 → RR mX12_passengers 3 0 0 29 [pR 147, pI n, pI 1, pI 1, pU, pU] [] (shp0, rf0, h1) Q := by
  intro j
  induction j with
  | zero =>
    intro i h1 hi hf e16 e17 hib e20 hrd
    obtain rfl : i = l := by omega
    have hl12 : np + i ≤ 12 := by
      by_cases z : i = 0
      · omega
      · have := (hg (i - 1) (by omega)).1.1.1; omega
    have hs1 : ∀ p : Nat, p < b → h1 156 p = σ p ∧ 0 ≤ σ p ∧ σ p ≤ 255 := fun p hp => by rw [hf.1 156 (by omega) (by omega)]; exact hσ p hp
    have hT := M_readsP (l := i) (σ := σ) (by rw [hf.2.1 3 (by omega) (by omega) (by omega) (by omega) (by omega) (by omega)]; exact hH) hH9 (by rw [hf.2.1 4 (by omega) (by omega) (by omega) (by omega) (by omega) (by omega)]; exact hnc) h6 (by rw [hf.2.1 5 (by omega) (by omega) (by omega) (by omega) (by omega) (by omega)]; exact hnp) hl12 e16 e17 hib (by omega) e20 hs1 hσn
    have mr : ∀ h2, rpF h1 h2 → mrF h h2 := fun h2 f2 => ⟨fun a a1 a2 => (f2.1 a a1 a2).trans (hf.1 a a1 a2), fun j j1 j2 j3 j4 j5 j6 => (f2.2 j j3 j6).trans (hf.2.1 j j1 j2 j3 j4 j5 j6), (f2.2 15 (by omega) (by omega)).trans hf.2.2⟩
    have m17 : ∀ h2, rpF h1 h2 → h2 147 17 = b := fun h2 f2 => (f2.2 17 (by omega) (by omega)).trans e17
    /- no line -/
    have K0 : ∀ (h2 : Nat → Int → Int) (a : Nat), rpF h1 h2 → h2 147 16 = a → a ≤ b → r = -1 - (a : Int) → RR mX12_passengers 3 0 0 37 [pR 147, pI n, pI 1, pI 1, pU, pU] [pI 0] (shp0, rf0, h2) Q := by
      intro h2 a f2 ha hab hra
      have K := MPA_60 (h1 := h2) (Q := Q) (Or.inl rfl) ha (m17 h2 f2) hab hb47 hn80 (by omega) hra (hno h2 (by omega) (mr h2 f2))
      refine R_istore_n dX12_passengers_37 (Nat.le_of_ble_eq_true rfl) (?_ : RR _ _ _ _ 38 [_, _, _, _, _, _] _ _ _)
      refine R_iload_n dX12_passengers_38 rfl (?_ : RR _ _ _ _ 39 _ _ _ _)
      refine R_if_eq (t := 55) dX12_passengers_39 rfl (fun c39 => ?_) (fun c39 => ?_)
      rotate_left
      · exfalso; omega
      refine R_iconst dX12_passengers_55 (?_ : RR _ _ _ _ 56 _ _ _ _)
      refine R_istore_n dX12_passengers_56 (Nat.le_of_ble_eq_true rfl) (?_ : RR _ _ _ _ 57 [_, _, _, _, _, _] _ _ _)
      refine R_goto (t := 29) dX12_passengers_57 rfl (?_ : RR _ _ _ _ 29 _ _ _ _)
      exact K
    /- a line -/
    have K1 : ∀ (h2 : Nat → Int → Int), rpF h1 h2 → h2 147 16 = ((4 * i + 3 : Nat) : Int) → 4 * i + 3 ≤ b → σ (4 * i + 3) ≠ 59 → (∀ h3, h3 = rup h2 147 (fup (h2 147) 16 ((4 * i + 3 : Nat) : Int)) → RR mX12_passengers 3 0 0 29 [pR 147, pI n, pI 1, pI 0, pU, pU] [] (shp0, rf0, h3) Q) → RR mX12_passengers 3 0 0 37 [pR 147, pI n, pI 1, pI 1, pU, pU] [pI 1] (shp0, rf0, h2) Q := by
      intro h2 f2 g16 hb3 hs9 KK
      have hs2 : ∀ p : Nat, p < b → h2 156 p = σ p ∧ 0 ≤ σ p ∧ σ p ≤ 255 := fun p hp => by rw [f2.1 156 (by omega) (by omega)]; exact hs1 p hp
      have hTk := T_X12_takes (c := 59) (h := h2) g16 (m17 h2 f2) hb3 (by omega) (fun p hp => by rw [(hs2 p hp).1]; exact (hs2 p hp).2) (by omega)
      rw [if_neg (fun z => hs9 (by have := (hs2 _ z.1).1; rw [z.2] at this; rw [show ((4 * i + 3 : Nat) : Int) = 4 * (i : Int) + 3 by omega] at this; exact this.symm)), if_neg (fun z => hs9 (by have := (hs2 _ z.1).1; rw [z.2] at this; rw [show ((4 * i + 3 : Nat) : Int) = 4 * (i : Int) + 3 by omega] at this; exact this.symm))] at hTk
      have K := KK _ rfl
      generalize rup h2 147 (fup (h2 147) 16 ((4 * i + 3 : Nat) : Int)) = h9 at hTk K
      refine R_istore_n dX12_passengers_37 (Nat.le_of_ble_eq_true rfl) (?_ : RR _ _ _ _ 38 [_, _, _, _, _, _] _ _ _)
      refine R_iload_n dX12_passengers_38 rfl (?_ : RR _ _ _ _ 39 _ _ _ _)
      refine R_if_eq (t := 55) dX12_passengers_39 rfl (fun c39 => ?_) (fun c39 => ?_)
      · exfalso; omega
      refine R_aload_n dX12_passengers_42 rfl (?_ : RR _ _ _ _ 43 _ _ _ _)
      refine R_bipush dX12_passengers_43 rfl (?_ : RR _ _ _ _ 45 _ _ _ _)
      refine R_cVi1 dX12_passengers_45 mvX12_takes mlX12_182 (by decide) (by decide) (Nat.le_of_ble_eq_true rfl) (Nat.le_of_ble_eq_true rfl) (hTk) (?_ : RR _ _ _ _ 48 _ _ _ _)
      refine R_if_eq (t := 55) dX12_passengers_48 rfl (fun c48 => ?_) (fun c48 => ?_)
      rotate_left
      · exfalso; omega
      refine R_iconst dX12_passengers_55 (?_ : RR _ _ _ _ 56 _ _ _ _)
      refine R_istore_n dX12_passengers_56 (Nat.le_of_ble_eq_true rfl) (?_ : RR _ _ _ _ 57 [_, _, _, _, _, _] _ _ _)
      refine R_goto (t := 29) dX12_passengers_57 rfl (?_ : RR _ _ _ _ 29 _ _ _ _)
      exact K
    have K34 : ∀ (h2 : Nat → Int → Int) (r' : Option PV), rpF h1 h2 → ((¬ pa1 σ nc np i ∧ r' = some (pI 0) ∧ h2 147 16 = 4 * i) ∨ (pa1 σ nc np i ∧ ¬ pa2 σ H i ∧ r' = some (pI 0) ∧ h2 147 16 = 4 * i + 1) ∨ (pa1 σ nc np i ∧ pa2 σ H i ∧ ¬ pa3 σ i ∧ r' = some (pI 0) ∧ h2 147 16 = 4 * i + 2) ∨ ((pa1 σ nc np i ∧ pa2 σ H i ∧ pa3 σ i) ∧ r' = some (pI 1) ∧ h2 147 16 = 4 * i + 3 ∧ h2 147 20 = i + 1 ∧ 4 * i + 3 ≤ b ∧ (∀ j : Int, j < 3 * i → h2 157 j = h1 157 j) ∧ h2 157 (3 * i) = paCo σ i ∧ h2 157 (3 * i + 1) = paWa σ i ∧ h2 157 (3 * i + 2) = paRa σ i)) → RR mX12_passengers 3 0 0 37 [pR 147, pI n, pI 1, pI 1, pU, pU] (r'.toList ++ []) (shp0, rf0, h2) Q := by
      intro h2 r' f2 hc
      have sg : ∀ c : Nat, 4 * i + c < b ∨ σ (4 * i + c) = -1 := fun c => by
        by_cases z : 4 * i + c < b
        · exact Or.inl z
        · have := hσn (4 * i + c) (by omega)
          rw [show ((4 * i + c : Nat) : Int) = 4 * (i : Int) + c by omega] at this
          exact Or.inr this
      rcases hc with ⟨c1, rfl, c2⟩ | ⟨c1, c2, rfl, c3⟩ | ⟨c1, c2, c3, rfl, c4⟩ | ⟨⟨c1, c2, c3⟩, rfl, c4, c5, c6, c7, c8, c9, c10⟩
      · have hra : r = -1 - 4 * i := by
          rcases hr with ⟨r1, r2⟩ | ⟨r1, r2, r3⟩ | ⟨r1, r2, r3, r4⟩ | ⟨⟨r1, r2, r3⟩, r4, r5⟩ | ⟨⟨r1, r2, r3⟩, r4, r5, r6⟩
          · exact r2
          all_goals exact absurd r1 c1
        exact K0 h2 (4 * i) f2 (by rw [c2]; omega) hib (by rw [hra]; omega)
      · have hra : r = -2 - 4 * i := by
          rcases hr with ⟨r1, r2⟩ | ⟨r1, r2, r3⟩ | ⟨r1, r2, r3, r4⟩ | ⟨⟨r1, r2, r3⟩, r4, r5⟩ | ⟨⟨r1, r2, r3⟩, r4, r5, r6⟩
          · exact absurd c1 r1
          · exact r3
          all_goals exact absurd r2 c2
        have h0 := sg 0
        have := c1.2
        refine K0 h2 (4 * i + 1) f2 (by rw [c3]; omega) ?_ (by rw [hra]; omega)
        rcases h0 with z | z
        · omega
        · rw [show (4 * (i : Int) + ((0 : Nat) : Int)) = 4 * i by omega] at z; omega
      · have hra : r = -3 - 4 * i := by
          rcases hr with ⟨r1, r2⟩ | ⟨r1, r2, r3⟩ | ⟨r1, r2, r3, r4⟩ | ⟨⟨r1, r2, r3⟩, r4, r5⟩ | ⟨⟨r1, r2, r3⟩, r4, r5, r6⟩
          · exact absurd c1 r1
          · exact absurd c2 r2
          · exact r4
          all_goals exact absurd r3 c3
        have h0 := sg 1
        have := c2
        unfold pa2 at this
        refine K0 h2 (4 * i + 2) f2 (by rw [c4]; omega) ?_ (by rw [hra]; omega)
        rcases h0 with z | z
        · omega
        · rw [show (4 * (i : Int) + ((1 : Nat) : Int)) = 4 * i + 1 by omega] at z; omega
      · have g16 : h2 147 16 = ((4 * i + 3 : Nat) : Int) := by rw [c4]; omega
        have hrd2 : ∀ h3, h3 157 = h2 157 → rdP σ (i + 1) h3 := fun h3 e3 i' hi' => by
          rw [e3]
          by_cases z : i' = i
          · subst z; exact ⟨c8, c9, c10⟩
          · rw [c7 _ (by omega), c7 _ (by omega), c7 _ (by omega)]; exact hrd i' (by omega)
        have hmr : ∀ h3, h3 = rup h2 147 (fup (h2 147) 16 ((4 * i + 3 : Nat) : Int)) → mrF h h3 := fun h3 e3 => by
          have hm2 := mr h2 f2
          exact ⟨fun a a1 a2 => by rw [e3, rup_n a1]; exact hm2.1 a a1 a2, fun j j1 j2 j3 j4 j5 j6 => by rw [e3, rup_s, fup_n j3]; exact hm2.2.1 j j1 j2 j3 j4 j5 j6, by rw [e3, rup_s, fup_n (by omega)]; exact hm2.2.2⟩
        rcases hr with ⟨r1, r2⟩ | ⟨r1, r2, r3⟩ | ⟨r1, r2, r3, r4⟩ | ⟨⟨r1, r2, r3⟩, r4, r5⟩ | ⟨⟨r1, r2, r3⟩, r4, r5, r6⟩
        · exact absurd c1 r1
        · exact absurd c2 r2
        · exact absurd c3 r3
        · refine K1 h2 f2 g16 c6 ?_ (fun h3 e3 => ?_)
          · have h0 := sg 3
            rcases h0 with z | z
            · omega
            · rw [show (4 * (i : Int) + ((3 : Nat) : Int)) = 4 * i + 3 by omega] at z; omega
          · exact MPA_60y (h1 := h3) (n := n) (by rw [e3, rup_s, fup_s, r4]) (by rw [e3, rup_s, fup_n (by omega), m17 h2 f2]; omega) (by omega) (hye h3 r5 (fun j hj => by
              by_cases z : j = i
              · rw [z]; exact ⟨c1, c2, c3⟩
              · exact (hg j (by omega)).1) (hmr h3 e3) (by rw [e3, rup_s, fup_n (by omega)]; exact c5) (hrd2 h3 (by rw [e3, rup_n (by omega)])))
        · exact K1 h2 f2 g16 c6 r5 (fun h3 e3 => MPA_60 (h1 := h3) (a := 4 * i + 3) (b := b) (Or.inr rfl) (by rw [e3, rup_s, fup_s]) (by rw [e3, rup_s, fup_n (by omega)]; exact m17 h2 f2) c6 hb47 hn80 (by omega) (by rw [r6]; omega) (hno h3 (by omega) (hmr h3 e3)))
    refine R_iload_n dX12_passengers_29 rfl (?_ : RR _ _ _ _ 30 _ _ _ _)
    refine R_if_eq (t := 60) dX12_passengers_30 rfl (fun c30 => ?_) (fun c30 => ?_)
    · exfalso; omega
    refine R_aload_n dX12_passengers_33 rfl (?_ : RR _ _ _ _ 34 _ _ _ _)
    refine R_qV0 dX12_passengers_34 mvX12_readsPassenger mlX12_224 (by decide) (by decide) (Nat.le_of_ble_eq_true rfl) (Nat.le_of_ble_eq_true rfl) (hT) (fun r9 g9 hq9 => (?_ : RR _ _ _ _ 37 _ _ _ _))
    obtain ⟨h5, rfl, hf5, hc5⟩ := hq9
    exact K34 h5 _ hf5 hc5
  | succ j ih =>
    intro i h1 hi hf e16 e17 hib e20 hrd
    obtain ⟨⟨p1, p2, p3⟩, p4, p5⟩ := hg i (by omega)
    have hl12 : np + i ≤ 12 := by have := p1.1; omega
    have hs1 : ∀ p : Nat, p < b → h1 156 p = σ p ∧ 0 ≤ σ p ∧ σ p ≤ 255 := fun p hp => by rw [hf.1 156 (by omega) (by omega)]; exact hσ p hp
    have hT := M_readsP (l := i) (σ := σ) (by rw [hf.2.1 3 (by omega) (by omega) (by omega) (by omega) (by omega) (by omega)]; exact hH) hH9 (by rw [hf.2.1 4 (by omega) (by omega) (by omega) (by omega) (by omega) (by omega)]; exact hnc) h6 (by rw [hf.2.1 5 (by omega) (by omega) (by omega) (by omega) (by omega) (by omega)]; exact hnp) hl12 e16 e17 hib (by omega) e20 hs1 hσn
    have mr : ∀ h2, rpF h1 h2 → mrF h h2 := fun h2 f2 => ⟨fun a a1 a2 => (f2.1 a a1 a2).trans (hf.1 a a1 a2), fun j j1 j2 j3 j4 j5 j6 => (f2.2 j j3 j6).trans (hf.2.1 j j1 j2 j3 j4 j5 j6), (f2.2 15 (by omega) (by omega)).trans hf.2.2⟩
    have m17 : ∀ h2, rpF h1 h2 → h2 147 17 = b := fun h2 f2 => (f2.2 17 (by omega) (by omega)).trans e17
    have hb4 : 4 * i + 3 < b := by
      by_cases z : 4 * i + 3 < b
      · exact z
      · have := hσn (4 * i + 3) (by omega)
        rw [show ((4 * i + 3 : Nat) : Int) = 4 * (i : Int) + 3 by omega, p5] at this
        omega
    have K34 : ∀ (h2 : Nat → Int → Int) (r' : Option PV), rpF h1 h2 → ((¬ pa1 σ nc np i ∧ r' = some (pI 0) ∧ h2 147 16 = 4 * i) ∨ (pa1 σ nc np i ∧ ¬ pa2 σ H i ∧ r' = some (pI 0) ∧ h2 147 16 = 4 * i + 1) ∨ (pa1 σ nc np i ∧ pa2 σ H i ∧ ¬ pa3 σ i ∧ r' = some (pI 0) ∧ h2 147 16 = 4 * i + 2) ∨ ((pa1 σ nc np i ∧ pa2 σ H i ∧ pa3 σ i) ∧ r' = some (pI 1) ∧ h2 147 16 = 4 * i + 3 ∧ h2 147 20 = i + 1 ∧ 4 * i + 3 ≤ b ∧ (∀ j : Int, j < 3 * i → h2 157 j = h1 157 j) ∧ h2 157 (3 * i) = paCo σ i ∧ h2 157 (3 * i + 1) = paWa σ i ∧ h2 157 (3 * i + 2) = paRa σ i)) → RR mX12_passengers 3 0 0 37 [pR 147, pI n, pI 1, pI 1, pU, pU] (r'.toList ++ []) (shp0, rf0, h2) Q := by
      intro h2 r' f2 hc
      rcases hc with ⟨c1, rfl, c2⟩ | ⟨c1, c2, rfl, c3⟩ | ⟨c1, c2, c3, rfl, c4⟩ | ⟨⟨c1, c2, c3⟩, rfl, c4, c5, c6, c7, c8, c9, c10⟩
      · exact absurd p1 c1
      · exact absurd p2 c2
      · exact absurd p3 c3
      · have g16 : h2 147 16 = ((4 * i + 3 : Nat) : Int) := by rw [c4]; omega
        have hs2 : ∀ p : Nat, p < b → h2 156 p = σ p ∧ 0 ≤ σ p ∧ σ p ≤ 255 := fun p hp => by rw [f2.1 156 (by omega) (by omega)]; exact hs1 p hp
        have hTk := T_X12_takes (c := 59) (h := h2) g16 (m17 h2 f2) (by omega) (by omega) (fun p hp => by rw [(hs2 p hp).1]; exact (hs2 p hp).2) (by omega)
        have hq : 4 * i + 3 < b ∧ h2 156 ((4 * i + 3 : Nat) : Int) = 59 := ⟨hb4, by rw [(hs2 _ hb4).1, show ((4 * i + 3 : Nat) : Int) = 4 * (i : Int) + 3 by omega]; exact p5⟩
        rw [if_pos hq, if_pos hq] at hTk
        have hm2 := mr h2 f2
        have IH := ih (i + 1) (rup h2 147 (fup (h2 147) 16 (((4 * i + 3 : Nat) : Int) + 1))) (by omega) ⟨fun a a1 a2 => by rw [rup_n a1]; exact hm2.1 a a1 a2, fun j j1 j2 j3 j4 j5 j6 => by rw [rup_s, fup_n j3]; exact hm2.2.1 j j1 j2 j3 j4 j5 j6, by rw [rup_s, fup_n (by omega)]; exact hm2.2.2⟩ (by rw [rup_s, fup_s]; omega) (by rw [rup_s, fup_n (by omega)]; exact m17 h2 f2) (by omega) (by rw [rup_s, fup_n (by omega), c5]; omega) (fun i' hi' => by
          rw [rup_n (by omega)]
          by_cases z : i' = i
          · subst z; exact ⟨c8, c9, c10⟩
          · rw [c7 _ (by omega), c7 _ (by omega), c7 _ (by omega)]; exact hrd i' (by omega))
        generalize rup h2 147 (fup (h2 147) 16 (((4 * i + 3 : Nat) : Int) + 1)) = h9 at hTk IH
        refine R_istore_n dX12_passengers_37 (Nat.le_of_ble_eq_true rfl) (?_ : RR _ _ _ _ 38 [_, _, _, _, _, _] _ _ _)
        refine R_iload_n dX12_passengers_38 rfl (?_ : RR _ _ _ _ 39 _ _ _ _)
        refine R_if_eq (t := 55) dX12_passengers_39 rfl (fun c39 => ?_) (fun c39 => ?_)
        · exfalso; omega
        refine R_aload_n dX12_passengers_42 rfl (?_ : RR _ _ _ _ 43 _ _ _ _)
        refine R_bipush dX12_passengers_43 rfl (?_ : RR _ _ _ _ 45 _ _ _ _)
        refine R_cVi1 dX12_passengers_45 mvX12_takes mlX12_182 (by decide) (by decide) (Nat.le_of_ble_eq_true rfl) (Nat.le_of_ble_eq_true rfl) (hTk) (?_ : RR _ _ _ _ 48 _ _ _ _)
        refine R_if_eq (t := 55) dX12_passengers_48 rfl (fun c48 => ?_) (fun c48 => ?_)
        · exfalso; omega
        refine R_iconst dX12_passengers_51 (?_ : RR _ _ _ _ 52 _ _ _ _)
        refine R_goto (t := 56) dX12_passengers_52 rfl (?_ : RR _ _ _ _ 56 _ _ _ _)
        refine R_istore_n dX12_passengers_56 (Nat.le_of_ble_eq_true rfl) (?_ : RR _ _ _ _ 57 [_, _, _, _, _, _] _ _ _)
        refine R_goto (t := 29) dX12_passengers_57 rfl (?_ : RR _ _ _ _ 29 _ _ _ _)
        exact IH
    refine R_iload_n dX12_passengers_29 rfl (?_ : RR _ _ _ _ 30 _ _ _ _)
    refine R_if_eq (t := 60) dX12_passengers_30 rfl (fun c30 => ?_) (fun c30 => ?_)
    · exfalso; omega
    refine R_aload_n dX12_passengers_33 rfl (?_ : RR _ _ _ _ 34 _ _ _ _)
    refine R_qV0 dX12_passengers_34 mvX12_readsPassenger mlX12_224 (by decide) (by decide) (Nat.le_of_ble_eq_true rfl) (Nat.le_of_ble_eq_true rfl) (hT) (fun r9 g9 hq9 => (?_ : RR _ _ _ _ 37 _ _ _ _))
    obtain ⟨h5, rfl, hf5, hc5⟩ := hq9
    exact K34 h5 _ hf5 hc5
end MP3
