/-! coaches that come -/
section CCO
variable {k : Nat} {h h1 h2 h3 h4 : Nat → Int → Int} {sem : Sem} {H np nc len n : Nat} {X X' : Cx} {f : Int → Int}
/-- the row with one coach more: at halt z, or (z = -1) at the train's end -/
def coA (f : Int → Int) (c len : Nat) (z : Int) : Int → Int := fup (fup f (2 + 2 * (c : Int)) (if z = -1 then f 0 else z)) (2 + 2 * (c : Int) + 1) (if z = -1 then (len : Int) else -1)
theorem coA_n {c : Nat} {z i : Int} (h1 : i ≠ 2 + 2 * (c : Int)) (h2 : i ≠ 2 + 2 * (c : Int) + 1) : coA f c len z i = f i := by
  unfold coA
  rw [fup_n h2, fup_n h1]
theorem coA_P {c : Nat} {z : Int} : mP (coA f c len z) c = if z = -1 then (len : Int) else -1 := fup_s
theorem coA_A {c : Nat} {z : Int} : mA (coA f c len z) c = if z = -1 then f 0 else z := by
  show coA f c len z (2 + 2 * (c : Int)) = _
  unfold coA
  rw [fup_n (by omega), fup_s]
theorem coA_mP {c : Nat} {z d : Int} (hd : d ≠ c) : mP (coA f c len z) d = mP f d := coA_n (by omega) (by omega)
theorem coA_mA {c : Nat} {z d : Int} (hd : d ≠ c) : mA (coA f c len z) d = mA f d := by
  show coA f c len z (2 + 2 * d + 0) = f (2 + 2 * d + 0)
  exact coA_n (by omega) (by omega)
def coL (z : Int) (len : Nat) : Nat := if z = -1 then len + 1 else len
theorem coA_Cpl {z : Int} (hc : Cpl X H h 14 f len) (h6 : xC X < 6) (hX : xC X' = xC X + 1) (hP : xP X' = xP X) (hW : xW X' = xW X) (hz : z = -1 ∨ (0 ≤ z ∧ z < H)) (e1 : ∀ j : Int, j ≠ 2 → j ≠ 3 → h1 14 j = h 14 j) (e2 : h1 14 2 = xC X + 1) (e3 : h1 14 3 = coL z len) (e4 : h1 15 = if z = -1 then fup (h 15) len (xC X) else h 15) (e5 : h1 16 = fup (h 16) (xC X) (if z = -1 then (len : Int) else -1)) (e6 : h1 17 = if z = -1 then h 17 else fup (h 17) (xC X) z) (e7 : h1 18 = h 18) : Cpl X' H h1 14 (coA f (xC X) len z) (coL z len) := by
  obtain ⟨⟨f0, f1, f2, f3, f4, f5⟩, g1, g2, g3, g4, g5, g6, g7⟩ := hc
  have n0 : coA f (xC X) len z 0 = f 0 := coA_n (by omega) (by omega)
  have n1 : coA f (xC X) len z 1 = f 1 := coA_n (by omega) (by omega)
  have mS' : ∀ p : Nat, mS (coA f (xC X) len z) p = mS f p := fun p => coA_n (by omega) (by omega)
  have g5 : ∀ c : Nat, c < xC X → h 16 c = mP f c := g5
  have g6 : ∀ c : Nat, c < xC X → mP f c = -1 → h 17 c = mA f c := g6
  have g7 : ∀ p : Nat, p < xP X → h 18 p = mS f p := g7
  have f3 : ∀ j : Nat, j < len → 0 ≤ h 15 j ∧ h 15 j < xC X ∧ mP f (h 15 j) = j := f3
  have f4 : ∀ c : Nat, c < xC X → (mP f c = -1 ∧ 0 ≤ mA f c ∧ mA f c < H) ∨ (0 ≤ mP f c ∧ mP f c < len ∧ h 15 (mP f c) = c) := f4
  unfold Cpl fOK
  rw [hX, hP, hW]
  refine ⟨⟨?_, ?_, ?_, fun j hj => ?_, fun c hc => ?_, fun p hp => ?_⟩, ?_, ?_, ?_, e3, fun c hc => ?_, fun c hc => ?_, fun p hp => ?_⟩
  · rw [n0]; exact f0
  · rw [n1]; exact f1
  · unfold coL; split <;> omega
  · show 0 ≤ h1 15 j ∧ h1 15 j < ((xC X + 1 : Nat) : Int) ∧ mP _ (h1 15 j) = j
    rw [e4]
    unfold coL at hj
    by_cases q : z = -1
    · rw [if_pos q] at hj ⊢
      by_cases y : j = len
      · rw [y, fup_s, coA_P, if_pos q]; omega
      · rw [fup_n (by omega)]
        have := f3 j (by omega)
        rw [coA_mP (by omega)]; omega
    · rw [if_neg q] at hj ⊢
      have := f3 j (by omega)
      rw [coA_mP (by omega)]; omega
  · show _ ∨ (_ ∧ _ ∧ h1 15 _ = _)
    by_cases y : c = xC X
    · rw [y, coA_P, coA_A, e4]
      unfold coL
      by_cases q : z = -1
      · rw [if_pos q, if_pos q, if_pos q, if_pos q, fup_s]; right; omega
      · rw [if_neg q, if_neg q, if_neg q, if_neg q]; left; omega
    · rw [coA_mP (by omega), coA_mA (by omega), e4]
      have := f4 c (by omega)
      rcases this with u | u
      · exact Or.inl u
      · right
        unfold coL
        by_cases q : z = -1
        · rw [if_pos q, if_pos q, fup_n (by omega)]; omega
        · rw [if_neg q, if_neg q]; exact u
  · rw [mS' p]
    have := f5 p hp
    rcases this with u | ⟨u1, u2, u3⟩
    · exact Or.inl u
    · right
      refine ⟨u1, by omega, ?_⟩
      unfold halS at u3 ⊢
      rw [coA_mP (by omega), coA_mA (by omega), n0]
      exact u3
  · rw [n0, e1 0 (by omega) (by omega)]; exact g1
  · rw [n1, e1 1 (by omega) (by omega)]; exact g2
  · rw [e2]; omega
  · show h1 16 c = _
    rw [e5]
    by_cases y : c = xC X
    · rw [y, fup_s, coA_P]
    · rw [fup_n (by omega), coA_mP (by omega)]; exact g5 c (by omega)
  · intro hm
    show h1 17 c = _
    rw [e6]
    by_cases y : c = xC X
    · rw [y] at hm ⊢
      rw [coA_P] at hm
      by_cases q : z = -1
      · rw [if_pos q] at hm; omega
      · rw [if_neg q, coA_A, if_neg q, fup_s]
    · rw [coA_mP (by omega)] at hm
      rw [coA_mA (by omega)]
      by_cases q : z = -1
      · rw [if_pos q]; exact g6 c (by omega) hm
      · rw [if_neg q, fup_n (by omega)]; exact g6 c (by omega) hm
  · show h1 18 p = _
    rw [e7, mS' p]; exact g7 p hp
/-- the sign at a place, as a coach -/
def coZ (s : Int → Int) (i : Nat) : Int := if s i = 43 then -1 else s i - 97
def coG (s : Int → Int) (H nc : Nat) (i : Nat) : Prop := (s i = 43 ∨ (97 ≤ s i ∧ s i < 97 + (H : Int))) ∧ nc + i < 6
def coF (s f : Int → Int) (nc len : Nat) : Nat → (Int → Int) × Nat
  | 0 => (f, len)
  | i + 1 => (coA (coF s f nc len i).1 (nc + i) (coF s f nc len i).2 (coZ s i), coL (coZ s i) (coF s f nc len i).2)
theorem coF_len {s f : Int → Int} : ∀ i : Nat, (coF s f nc len i).2 ≤ len + i
  | 0 => Nat.le_refl _
  | i + 1 => by
    have : (coF s f nc len i).2 ≤ len + i := coF_len i
    show coL _ (coF s f nc len i).2 ≤ _
    unfold coL
    split <;> omega
theorem coF_oor {s f : Int → Int} : ∀ i : Nat, nc + i ≤ 6 → oor (coF s f nc len i).1 f
  | 0, _ => fun _ _ => rfl
  | i + 1, hi => fun j q => by
    show coA (coF s f nc len i).1 (nc + i) _ _ j = _
    rw [coA_n (by omega) (by omega)]
    exact coF_oor i (by omega) j q
theorem coF_1 {s f : Int → Int} : ∀ i : Nat, (coF s f nc len i).1 1 = f 1
  | 0 => rfl
  | i + 1 => by
    show coA (coF s f nc len i).1 (nc + i) _ _ 1 = _
    rw [coA_n (by omega) (by omega)]
    exact coF_1 i
theorem T_X11_checkCoaches {r : Int} {s : Int → Int} (h1n : h 1 1 = n) (hn80 : n ≤ 80) (hs2 : ∀ i : Nat, i < n → h 2 i = s i ∧ 0 ≤ s i ∧ s i ≤ 255) (hH : h 3 0 = H) (hH9 : H ≤ 9) (hnc : h 14 2 = nc) (h6 : nc ≤ 6) (hr : (r = n ∧ ∀ i, i < n → coG s H nc i) ∨ ∃ i : Nat, i < n ∧ ¬ coG s H nc i ∧ (∀ j, j < i → coG s H nc j) ∧ r = -1 - i) : MT mX11_checkCoaches 2 [pR 0] h (some (pI r)) (rup h 1 (fup (h 1) 2 n)) := by
  refine MT.of (fun Q hQ => (?_ : RR mX11_checkCoaches _ _ _ _ [pR 0, pU, pU] _ _ _))
  obtain ⟨h9, h9e⟩ : ∃ h9, h9 = rup h 1 (fup (h 1) 2 n) := ⟨_, rfl⟩
  rw [← h9e] at hQ
  have g1 : h9 1 1 = n := by rw [h9e, rup_s, fup_n (by omega)]; exact h1n
  have g2 : h9 1 2 = n := by rw [h9e, rup_s, fup_s]
  have g3 : h9 3 0 = H := by rw [h9e, rup_n (by omega)]; exact hH
  have g14 : h9 14 2 = nc := by rw [h9e, rup_n (by omega)]; exact hnc
  have gs : ∀ i : Nat, i < n → signAt h9 i = s i := fun i hi => by
    unfold signAt
    rw [g2, if_pos (by omega), h9e, rup_n (by omega)]
    exact (hs2 i hi).1
  have L : ∀ (j i : Nat) (w2 : PV), i + j = n → (∀ j, j < i → coG s H nc j) → RR mX11_checkCoaches 2 0 0 11 [pR 0, pI i, w2] [] (shp0, rf0, h9) Q := by
    intro j
    induction j with
    | zero =>
      intro i w2 hi hg
      obtain rfl : i = n := by omega
      have hrn : r = i := by
        rcases hr with u | ⟨i', i1, i2, i3, i4⟩
        · exact u.1
        · exact absurd (hg i' i1) i2
      rw [hrn] at hQ
      refine R_iload_n dX11_checkCoaches_11 rfl (?_ : RR _ _ _ _ 12 _ _ _ _)
      refine R_aload_n dX11_checkCoaches_12 rfl (?_ : RR _ _ _ _ 13 _ _ _ _)
      refine R_getr dX11_checkCoaches_13 flX11_10 cok_11 rfl (by decide) (?_ : RR _ _ _ _ 16 _ _ _ _)
      refine R_geti (z := 1) dX11_checkCoaches_16 flX11_91 cok_7 rfl (by decide) rfl (fun q16 => (?_ : RR _ _ _ _ 19 _ _ _ _))
      rw [g1] at q16 ⊢
      refine R_icmp_ge (t := 90) dX11_checkCoaches_19 rfl (fun c19 => ?_) (fun c19 => ?_)
      rotate_left
      · exfalso; omega
      refine R_aload_n dX11_checkCoaches_90 rfl (?_ : RR _ _ _ _ 91 _ _ _ _)
      refine R_getr dX11_checkCoaches_91 flX11_10 cok_11 rfl (by decide) (?_ : RR _ _ _ _ 94 _ _ _ _)
      refine R_geti (z := 1) dX11_checkCoaches_94 flX11_91 cok_7 rfl (by decide) rfl (fun q94 => (?_ : RR _ _ _ _ 97 _ _ _ _))
      rw [g1] at q94 ⊢
      exact R_ireturn dX11_checkCoaches_97 trivial hQ
    | succ j ih =>
      intro i w2 hi hg
      have hsi := gs i (by omega)
      have hsb := (hs2 i (by omega)).2
      have hnum := T_X7_numberAt (h := h9) (p := i) (f := 97) (m := H) (by rw [hsi]; omega)
      unfold numAt at hnum
      rw [hsi] at hnum
      by_cases q : coG s H nc i
      · have IH := fun w2 => ih (i + 1) w2 (by omega) (fun j hj => by
          by_cases z : j = i
          · rw [z]; exact q
          · exact hg j (by omega))
        obtain ⟨q1, q2⟩ := q
        by_cases y : s i = 43
        · refine R_iload_n dX11_checkCoaches_11 rfl (?_ : RR _ _ _ _ 12 _ _ _ _)
          refine R_aload_n dX11_checkCoaches_12 rfl (?_ : RR _ _ _ _ 13 _ _ _ _)
          refine R_getr dX11_checkCoaches_13 flX11_10 cok_11 rfl (by decide) (?_ : RR _ _ _ _ 16 _ _ _ _)
          refine R_geti (z := 1) dX11_checkCoaches_16 flX11_91 cok_7 rfl (by decide) rfl (fun q16 => (?_ : RR _ _ _ _ 19 _ _ _ _))
          rw [g1] at q16 ⊢
          refine R_icmp_ge (t := 90) dX11_checkCoaches_19 rfl (fun c19 => ?_) (fun c19 => ?_)
          · exfalso; omega
          refine R_aload_n dX11_checkCoaches_22 rfl (?_ : RR _ _ _ _ 23 _ _ _ _)
          refine R_getr dX11_checkCoaches_23 flX11_10 cok_11 rfl (by decide) (?_ : RR _ _ _ _ 26 _ _ _ _)
          refine R_iload_n dX11_checkCoaches_26 rfl (?_ : RR _ _ _ _ 27 _ _ _ _)
          refine R_cVi1 dX11_checkCoaches_27 mvX7_at mlX11_436 (by decide) (by decide) (Nat.le_of_ble_eq_true rfl) (Nat.le_of_ble_eq_true rfl) (T_X7_at) (?_ : RR _ _ _ _ 30 _ _ _ _)
          rw [hsi]
          refine R_bipush dX11_checkCoaches_30 rfl (?_ : RR _ _ _ _ 32 _ _ _ _)
          refine R_icmp_eq (t := 56) dX11_checkCoaches_32 rfl (fun c32 => ?_) (fun c32 => ?_)
          rotate_left
          · exfalso; omega
          refine R_iconst dX11_checkCoaches_56 (?_ : RR _ _ _ _ 57 _ _ _ _)
          refine R_goto (t := 61) dX11_checkCoaches_57 rfl (?_ : RR _ _ _ _ 61 _ _ _ _)
          refine R_istore_n dX11_checkCoaches_61 (Nat.le_of_ble_eq_true rfl) (?_ : RR _ _ _ _ 62 [_, _, _] _ _ _)
          refine R_iload_n dX11_checkCoaches_62 rfl (?_ : RR _ _ _ _ 63 _ _ _ _)
          refine R_if_eq (t := 80) dX11_checkCoaches_63 rfl (fun c63 => ?_) (fun c63 => ?_)
          · exfalso; omega
          refine R_aload_n dX11_checkCoaches_66 rfl (?_ : RR _ _ _ _ 67 _ _ _ _)
          refine R_getr dX11_checkCoaches_67 flX11_36 cok_11 rfl (by decide) (?_ : RR _ _ _ _ 70 _ _ _ _)
          refine R_geti (z := 2) dX11_checkCoaches_70 flX11_349 cok_9 rfl (by decide) rfl (fun q70 => (?_ : RR _ _ _ _ 73 _ _ _ _))
          rw [g14] at q70 ⊢
          refine R_iload_n dX11_checkCoaches_73 rfl (?_ : RR _ _ _ _ 74 _ _ _ _)
          refine R_iadd dX11_checkCoaches_74 (?_ : RR _ _ _ _ 75 _ _ _ _)
          refine R_bipush dX11_checkCoaches_75 rfl (?_ : RR _ _ _ _ 77 _ _ _ _)
          refine R_icmp_lt (t := 84) dX11_checkCoaches_77 rfl (fun c77 => ?_) (fun c77 => ?_)
          rotate_left
          · exfalso; omega
          refine R_iinc dX11_checkCoaches_84 rfl (Nat.le_of_ble_eq_true rfl) (?_ : RR _ _ _ _ 87 [_, _, _] _ _ _)
          refine R_goto (t := 11) dX11_checkCoaches_87 rfl (?_ : RR _ _ _ _ 11 _ _ _ _)
          exact IH _
        · rw [if_pos (by omega)] at hnum
          refine R_iload_n dX11_checkCoaches_11 rfl (?_ : RR _ _ _ _ 12 _ _ _ _)
          refine R_aload_n dX11_checkCoaches_12 rfl (?_ : RR _ _ _ _ 13 _ _ _ _)
          refine R_getr dX11_checkCoaches_13 flX11_10 cok_11 rfl (by decide) (?_ : RR _ _ _ _ 16 _ _ _ _)
          refine R_geti (z := 1) dX11_checkCoaches_16 flX11_91 cok_7 rfl (by decide) rfl (fun q16 => (?_ : RR _ _ _ _ 19 _ _ _ _))
          rw [g1] at q16 ⊢
          refine R_icmp_ge (t := 90) dX11_checkCoaches_19 rfl (fun c19 => ?_) (fun c19 => ?_)
          · exfalso; omega
          refine R_aload_n dX11_checkCoaches_22 rfl (?_ : RR _ _ _ _ 23 _ _ _ _)
          refine R_getr dX11_checkCoaches_23 flX11_10 cok_11 rfl (by decide) (?_ : RR _ _ _ _ 26 _ _ _ _)
          refine R_iload_n dX11_checkCoaches_26 rfl (?_ : RR _ _ _ _ 27 _ _ _ _)
          refine R_cVi1 dX11_checkCoaches_27 mvX7_at mlX11_436 (by decide) (by decide) (Nat.le_of_ble_eq_true rfl) (Nat.le_of_ble_eq_true rfl) (T_X7_at) (?_ : RR _ _ _ _ 30 _ _ _ _)
          rw [hsi]
          refine R_bipush dX11_checkCoaches_30 rfl (?_ : RR _ _ _ _ 32 _ _ _ _)
          refine R_icmp_eq (t := 56) dX11_checkCoaches_32 rfl (fun c32 => ?_) (fun c32 => ?_)
          · exfalso; omega
          refine R_aload_n dX11_checkCoaches_35 rfl (?_ : RR _ _ _ _ 36 _ _ _ _)
          refine R_getr dX11_checkCoaches_36 flX11_10 cok_11 rfl (by decide) (?_ : RR _ _ _ _ 39 _ _ _ _)
          refine R_iload_n dX11_checkCoaches_39 rfl (?_ : RR _ _ _ _ 40 _ _ _ _)
          refine R_bipush dX11_checkCoaches_40 rfl (?_ : RR _ _ _ _ 42 _ _ _ _)
          refine R_aload_n dX11_checkCoaches_42 rfl (?_ : RR _ _ _ _ 43 _ _ _ _)
          refine R_getr dX11_checkCoaches_43 flX11_19 cok_11 rfl (by decide) (?_ : RR _ _ _ _ 46 _ _ _ _)
          refine R_geti (z := 0) dX11_checkCoaches_46 flX11_129 cok_0 rfl (by decide) rfl (fun q46 => (?_ : RR _ _ _ _ 49 _ _ _ _))
          rw [g3] at q46 ⊢
          refine R_cVi3 dX11_checkCoaches_49 mvX7_numberAt mlX11_132 (by decide) (by decide) (Nat.le_of_ble_eq_true rfl) (Nat.le_of_ble_eq_true rfl) (hnum) (?_ : RR _ _ _ _ 52 _ _ _ _)
          refine R_iconst dX11_checkCoaches_52 (?_ : RR _ _ _ _ 53 _ _ _ _)
          refine R_icmp_eq (t := 60) dX11_checkCoaches_53 rfl (fun c53 => ?_) (fun c53 => ?_)
          · exfalso; omega
          refine R_iconst dX11_checkCoaches_56 (?_ : RR _ _ _ _ 57 _ _ _ _)
          refine R_goto (t := 61) dX11_checkCoaches_57 rfl (?_ : RR _ _ _ _ 61 _ _ _ _)
          refine R_istore_n dX11_checkCoaches_61 (Nat.le_of_ble_eq_true rfl) (?_ : RR _ _ _ _ 62 [_, _, _] _ _ _)
          refine R_iload_n dX11_checkCoaches_62 rfl (?_ : RR _ _ _ _ 63 _ _ _ _)
          refine R_if_eq (t := 80) dX11_checkCoaches_63 rfl (fun c63 => ?_) (fun c63 => ?_)
          · exfalso; omega
          refine R_aload_n dX11_checkCoaches_66 rfl (?_ : RR _ _ _ _ 67 _ _ _ _)
          refine R_getr dX11_checkCoaches_67 flX11_36 cok_11 rfl (by decide) (?_ : RR _ _ _ _ 70 _ _ _ _)
          refine R_geti (z := 2) dX11_checkCoaches_70 flX11_349 cok_9 rfl (by decide) rfl (fun q70 => (?_ : RR _ _ _ _ 73 _ _ _ _))
          rw [g14] at q70 ⊢
          refine R_iload_n dX11_checkCoaches_73 rfl (?_ : RR _ _ _ _ 74 _ _ _ _)
          refine R_iadd dX11_checkCoaches_74 (?_ : RR _ _ _ _ 75 _ _ _ _)
          refine R_bipush dX11_checkCoaches_75 rfl (?_ : RR _ _ _ _ 77 _ _ _ _)
          refine R_icmp_lt (t := 84) dX11_checkCoaches_77 rfl (fun c77 => ?_) (fun c77 => ?_)
          rotate_left
          · exfalso; omega
          refine R_iinc dX11_checkCoaches_84 rfl (Nat.le_of_ble_eq_true rfl) (?_ : RR _ _ _ _ 87 [_, _, _] _ _ _)
          refine R_goto (t := 11) dX11_checkCoaches_87 rfl (?_ : RR _ _ _ _ 11 _ _ _ _)
          exact IH _
      · have hri : r = -1 - i := by
          rcases hr with u | ⟨i', i1, i2, i3, i4⟩
          · exact absurd (u.2 i (by omega)) q
          · have : i' = i := by
              by_cases z : i' < i
              · exact absurd (hg i' z) i2
              · by_cases z2 : i < i'
                · exact absurd (i3 i z2) q
                · omega
            rw [this] at i4; exact i4
        rw [hri] at hQ
        by_cases y : s i = 43
        · have q2 : ¬ nc + i < 6 := fun z => q ⟨Or.inl y, z⟩
          refine R_iload_n dX11_checkCoaches_11 rfl (?_ : RR _ _ _ _ 12 _ _ _ _)
          refine R_aload_n dX11_checkCoaches_12 rfl (?_ : RR _ _ _ _ 13 _ _ _ _)
          refine R_getr dX11_checkCoaches_13 flX11_10 cok_11 rfl (by decide) (?_ : RR _ _ _ _ 16 _ _ _ _)
          refine R_geti (z := 1) dX11_checkCoaches_16 flX11_91 cok_7 rfl (by decide) rfl (fun q16 => (?_ : RR _ _ _ _ 19 _ _ _ _))
          rw [g1] at q16 ⊢
          refine R_icmp_ge (t := 90) dX11_checkCoaches_19 rfl (fun c19 => ?_) (fun c19 => ?_)
          · exfalso; omega
          refine R_aload_n dX11_checkCoaches_22 rfl (?_ : RR _ _ _ _ 23 _ _ _ _)
          refine R_getr dX11_checkCoaches_23 flX11_10 cok_11 rfl (by decide) (?_ : RR _ _ _ _ 26 _ _ _ _)
          refine R_iload_n dX11_checkCoaches_26 rfl (?_ : RR _ _ _ _ 27 _ _ _ _)
          refine R_cVi1 dX11_checkCoaches_27 mvX7_at mlX11_436 (by decide) (by decide) (Nat.le_of_ble_eq_true rfl) (Nat.le_of_ble_eq_true rfl) (T_X7_at) (?_ : RR _ _ _ _ 30 _ _ _ _)
          rw [hsi]
          refine R_bipush dX11_checkCoaches_30 rfl (?_ : RR _ _ _ _ 32 _ _ _ _)
          refine R_icmp_eq (t := 56) dX11_checkCoaches_32 rfl (fun c32 => ?_) (fun c32 => ?_)
          rotate_left
          · exfalso; omega
          refine R_iconst dX11_checkCoaches_56 (?_ : RR _ _ _ _ 57 _ _ _ _)
          refine R_goto (t := 61) dX11_checkCoaches_57 rfl (?_ : RR _ _ _ _ 61 _ _ _ _)
          refine R_istore_n dX11_checkCoaches_61 (Nat.le_of_ble_eq_true rfl) (?_ : RR _ _ _ _ 62 [_, _, _] _ _ _)
          refine R_iload_n dX11_checkCoaches_62 rfl (?_ : RR _ _ _ _ 63 _ _ _ _)
          refine R_if_eq (t := 80) dX11_checkCoaches_63 rfl (fun c63 => ?_) (fun c63 => ?_)
          · exfalso; omega
          refine R_aload_n dX11_checkCoaches_66 rfl (?_ : RR _ _ _ _ 67 _ _ _ _)
          refine R_getr dX11_checkCoaches_67 flX11_36 cok_11 rfl (by decide) (?_ : RR _ _ _ _ 70 _ _ _ _)
          refine R_geti (z := 2) dX11_checkCoaches_70 flX11_349 cok_9 rfl (by decide) rfl (fun q70 => (?_ : RR _ _ _ _ 73 _ _ _ _))
          rw [g14] at q70 ⊢
          refine R_iload_n dX11_checkCoaches_73 rfl (?_ : RR _ _ _ _ 74 _ _ _ _)
          refine R_iadd dX11_checkCoaches_74 (?_ : RR _ _ _ _ 75 _ _ _ _)
          refine R_bipush dX11_checkCoaches_75 rfl (?_ : RR _ _ _ _ 77 _ _ _ _)
          refine R_icmp_lt (t := 84) dX11_checkCoaches_77 rfl (fun c77 => ?_) (fun c77 => ?_)
          · exfalso; omega
          refine R_iconst dX11_checkCoaches_80 (?_ : RR _ _ _ _ 81 _ _ _ _)
          refine R_iload_n dX11_checkCoaches_81 rfl (?_ : RR _ _ _ _ 82 _ _ _ _)
          refine R_isub dX11_checkCoaches_82 (?_ : RR _ _ _ _ 83 _ _ _ _)
          exact R_ireturn dX11_checkCoaches_83 trivial hQ
        · by_cases u : 97 ≤ s i ∧ s i < 97 + (H : Int)
          · have q2 : ¬ nc + i < 6 := fun z => q ⟨Or.inr u, z⟩
            rw [if_pos (by omega)] at hnum
            refine R_iload_n dX11_checkCoaches_11 rfl (?_ : RR _ _ _ _ 12 _ _ _ _)
            refine R_aload_n dX11_checkCoaches_12 rfl (?_ : RR _ _ _ _ 13 _ _ _ _)
            refine R_getr dX11_checkCoaches_13 flX11_10 cok_11 rfl (by decide) (?_ : RR _ _ _ _ 16 _ _ _ _)
            refine R_geti (z := 1) dX11_checkCoaches_16 flX11_91 cok_7 rfl (by decide) rfl (fun q16 => (?_ : RR _ _ _ _ 19 _ _ _ _))
            rw [g1] at q16 ⊢
            refine R_icmp_ge (t := 90) dX11_checkCoaches_19 rfl (fun c19 => ?_) (fun c19 => ?_)
            · exfalso; omega
            refine R_aload_n dX11_checkCoaches_22 rfl (?_ : RR _ _ _ _ 23 _ _ _ _)
            refine R_getr dX11_checkCoaches_23 flX11_10 cok_11 rfl (by decide) (?_ : RR _ _ _ _ 26 _ _ _ _)
            refine R_iload_n dX11_checkCoaches_26 rfl (?_ : RR _ _ _ _ 27 _ _ _ _)
            refine R_cVi1 dX11_checkCoaches_27 mvX7_at mlX11_436 (by decide) (by decide) (Nat.le_of_ble_eq_true rfl) (Nat.le_of_ble_eq_true rfl) (T_X7_at) (?_ : RR _ _ _ _ 30 _ _ _ _)
            rw [hsi]
            refine R_bipush dX11_checkCoaches_30 rfl (?_ : RR _ _ _ _ 32 _ _ _ _)
            refine R_icmp_eq (t := 56) dX11_checkCoaches_32 rfl (fun c32 => ?_) (fun c32 => ?_)
            · exfalso; omega
            refine R_aload_n dX11_checkCoaches_35 rfl (?_ : RR _ _ _ _ 36 _ _ _ _)
            refine R_getr dX11_checkCoaches_36 flX11_10 cok_11 rfl (by decide) (?_ : RR _ _ _ _ 39 _ _ _ _)
            refine R_iload_n dX11_checkCoaches_39 rfl (?_ : RR _ _ _ _ 40 _ _ _ _)
            refine R_bipush dX11_checkCoaches_40 rfl (?_ : RR _ _ _ _ 42 _ _ _ _)
            refine R_aload_n dX11_checkCoaches_42 rfl (?_ : RR _ _ _ _ 43 _ _ _ _)
            refine R_getr dX11_checkCoaches_43 flX11_19 cok_11 rfl (by decide) (?_ : RR _ _ _ _ 46 _ _ _ _)
            refine R_geti (z := 0) dX11_checkCoaches_46 flX11_129 cok_0 rfl (by decide) rfl (fun q46 => (?_ : RR _ _ _ _ 49 _ _ _ _))
            rw [g3] at q46 ⊢
            refine R_cVi3 dX11_checkCoaches_49 mvX7_numberAt mlX11_132 (by decide) (by decide) (Nat.le_of_ble_eq_true rfl) (Nat.le_of_ble_eq_true rfl) (hnum) (?_ : RR _ _ _ _ 52 _ _ _ _)
            refine R_iconst dX11_checkCoaches_52 (?_ : RR _ _ _ _ 53 _ _ _ _)
            refine R_icmp_eq (t := 60) dX11_checkCoaches_53 rfl (fun c53 => ?_) (fun c53 => ?_)
            · exfalso; omega
            refine R_iconst dX11_checkCoaches_56 (?_ : RR _ _ _ _ 57 _ _ _ _)
            refine R_goto (t := 61) dX11_checkCoaches_57 rfl (?_ : RR _ _ _ _ 61 _ _ _ _)
            refine R_istore_n dX11_checkCoaches_61 (Nat.le_of_ble_eq_true rfl) (?_ : RR _ _ _ _ 62 [_, _, _] _ _ _)
            refine R_iload_n dX11_checkCoaches_62 rfl (?_ : RR _ _ _ _ 63 _ _ _ _)
            refine R_if_eq (t := 80) dX11_checkCoaches_63 rfl (fun c63 => ?_) (fun c63 => ?_)
            · exfalso; omega
            refine R_aload_n dX11_checkCoaches_66 rfl (?_ : RR _ _ _ _ 67 _ _ _ _)
            refine R_getr dX11_checkCoaches_67 flX11_36 cok_11 rfl (by decide) (?_ : RR _ _ _ _ 70 _ _ _ _)
            refine R_geti (z := 2) dX11_checkCoaches_70 flX11_349 cok_9 rfl (by decide) rfl (fun q70 => (?_ : RR _ _ _ _ 73 _ _ _ _))
            rw [g14] at q70 ⊢
            refine R_iload_n dX11_checkCoaches_73 rfl (?_ : RR _ _ _ _ 74 _ _ _ _)
            refine R_iadd dX11_checkCoaches_74 (?_ : RR _ _ _ _ 75 _ _ _ _)
            refine R_bipush dX11_checkCoaches_75 rfl (?_ : RR _ _ _ _ 77 _ _ _ _)
            refine R_icmp_lt (t := 84) dX11_checkCoaches_77 rfl (fun c77 => ?_) (fun c77 => ?_)
            · exfalso; omega
            refine R_iconst dX11_checkCoaches_80 (?_ : RR _ _ _ _ 81 _ _ _ _)
            refine R_iload_n dX11_checkCoaches_81 rfl (?_ : RR _ _ _ _ 82 _ _ _ _)
            refine R_isub dX11_checkCoaches_82 (?_ : RR _ _ _ _ 83 _ _ _ _)
            exact R_ireturn dX11_checkCoaches_83 trivial hQ
          · rw [if_neg (by omega)] at hnum
            refine R_iload_n dX11_checkCoaches_11 rfl (?_ : RR _ _ _ _ 12 _ _ _ _)
            refine R_aload_n dX11_checkCoaches_12 rfl (?_ : RR _ _ _ _ 13 _ _ _ _)
            refine R_getr dX11_checkCoaches_13 flX11_10 cok_11 rfl (by decide) (?_ : RR _ _ _ _ 16 _ _ _ _)
            refine R_geti (z := 1) dX11_checkCoaches_16 flX11_91 cok_7 rfl (by decide) rfl (fun q16 => (?_ : RR _ _ _ _ 19 _ _ _ _))
            rw [g1] at q16 ⊢
            refine R_icmp_ge (t := 90) dX11_checkCoaches_19 rfl (fun c19 => ?_) (fun c19 => ?_)
            · exfalso; omega
            refine R_aload_n dX11_checkCoaches_22 rfl (?_ : RR _ _ _ _ 23 _ _ _ _)
            refine R_getr dX11_checkCoaches_23 flX11_10 cok_11 rfl (by decide) (?_ : RR _ _ _ _ 26 _ _ _ _)
            refine R_iload_n dX11_checkCoaches_26 rfl (?_ : RR _ _ _ _ 27 _ _ _ _)
            refine R_cVi1 dX11_checkCoaches_27 mvX7_at mlX11_436 (by decide) (by decide) (Nat.le_of_ble_eq_true rfl) (Nat.le_of_ble_eq_true rfl) (T_X7_at) (?_ : RR _ _ _ _ 30 _ _ _ _)
            rw [hsi]
            refine R_bipush dX11_checkCoaches_30 rfl (?_ : RR _ _ _ _ 32 _ _ _ _)
            refine R_icmp_eq (t := 56) dX11_checkCoaches_32 rfl (fun c32 => ?_) (fun c32 => ?_)
            · exfalso; omega
            refine R_aload_n dX11_checkCoaches_35 rfl (?_ : RR _ _ _ _ 36 _ _ _ _)
            refine R_getr dX11_checkCoaches_36 flX11_10 cok_11 rfl (by decide) (?_ : RR _ _ _ _ 39 _ _ _ _)
            refine R_iload_n dX11_checkCoaches_39 rfl (?_ : RR _ _ _ _ 40 _ _ _ _)
            refine R_bipush dX11_checkCoaches_40 rfl (?_ : RR _ _ _ _ 42 _ _ _ _)
            refine R_aload_n dX11_checkCoaches_42 rfl (?_ : RR _ _ _ _ 43 _ _ _ _)
            refine R_getr dX11_checkCoaches_43 flX11_19 cok_11 rfl (by decide) (?_ : RR _ _ _ _ 46 _ _ _ _)
            refine R_geti (z := 0) dX11_checkCoaches_46 flX11_129 cok_0 rfl (by decide) rfl (fun q46 => (?_ : RR _ _ _ _ 49 _ _ _ _))
            rw [g3] at q46 ⊢
            refine R_cVi3 dX11_checkCoaches_49 mvX7_numberAt mlX11_132 (by decide) (by decide) (Nat.le_of_ble_eq_true rfl) (Nat.le_of_ble_eq_true rfl) (hnum) (?_ : RR _ _ _ _ 52 _ _ _ _)
            refine R_iconst dX11_checkCoaches_52 (?_ : RR _ _ _ _ 53 _ _ _ _)
            refine R_icmp_eq (t := 60) dX11_checkCoaches_53 rfl (fun c53 => ?_) (fun c53 => ?_)
            rotate_left
            · exfalso; omega
            refine R_iconst dX11_checkCoaches_60 (?_ : RR _ _ _ _ 61 _ _ _ _)
            refine R_istore_n dX11_checkCoaches_61 (Nat.le_of_ble_eq_true rfl) (?_ : RR _ _ _ _ 62 [_, _, _] _ _ _)
            refine R_iload_n dX11_checkCoaches_62 rfl (?_ : RR _ _ _ _ 63 _ _ _ _)
            refine R_if_eq (t := 80) dX11_checkCoaches_63 rfl (fun c63 => ?_) (fun c63 => ?_)
            rotate_left
            · exfalso; omega
            refine R_iconst dX11_checkCoaches_80 (?_ : RR _ _ _ _ 81 _ _ _ _)
            refine R_iload_n dX11_checkCoaches_81 rfl (?_ : RR _ _ _ _ 82 _ _ _ _)
            refine R_isub dX11_checkCoaches_82 (?_ : RR _ _ _ _ 83 _ _ _ _)
            exact R_ireturn dX11_checkCoaches_83 trivial hQ
  have L0 := fun w2 => L n 0 w2 (by omega) (fun j hj => by omega)
  refine R_aload_n dX11_checkCoaches_0 rfl (?_ : RR _ _ _ _ 1 _ _ _ _)
  refine R_getr dX11_checkCoaches_1 flX11_10 cok_11 rfl (by decide) (?_ : RR _ _ _ _ 4 _ _ _ _)
  refine R_bipush dX11_checkCoaches_4 rfl (?_ : RR _ _ _ _ 6 _ _ _ _)
  refine R_cVv1 dX11_checkCoaches_6 mvX7_boundBy mlX11_99 (by decide) (by decide) (Nat.le_of_ble_eq_true rfl) (Nat.le_of_ble_eq_true rfl) (T_X7_boundBy) (?_ : RR _ _ _ _ 9 _ _ _ _)
  rw [h1n, show min (n : Int) 80 = n by omega, ← h9e]
  refine R_iconst dX11_checkCoaches_9 (?_ : RR _ _ _ _ 10 _ _ _ _)
  refine R_istore_n dX11_checkCoaches_10 (Nat.le_of_ble_eq_true rfl) (?_ : RR _ _ _ _ 11 [_, _, _] _ _ _)
  exact L0 _
end CCO
