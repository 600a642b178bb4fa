section RU7
variable {h h1 h2 h3 h4 : Nat → Int → Int} {N d p b l m n : Nat} {σ : Int → Int} {v : (Int → Int) → Int} {u : Bool}
theorem T_X12_codes {c : Int} (hl : h 147 24 = l) (hl80 : l < 80) (hc : r32 c) : MT mX12_codes 0 [pR 147, pI c] h none (rup (rup h 147 (fup (h 147) 24 ((l : Int) + 1))) 159 (fup (h 159) l c)) := by
  refine MT.of (fun Q hQ => (?_ : RR mX12_codes _ _ _ _ [pR 147, pI c] _ _ _))
  refine R_aload_n dX12_codes_0 rfl (?_ : RR _ _ _ _ 1 _ _ _ _)
  refine R_getr dX12_codes_1 flX12_48 cok_12 rfl (by decide) (?_ : RR _ _ _ _ 4 _ _ _ _)
  refine R_aload_n dX12_codes_4 rfl (?_ : RR _ _ _ _ 5 _ _ _ _)
  refine R_geti (z := 24) dX12_codes_5 flX12_230 cok_12 rfl (by decide) rfl (fun q5 => (?_ : RR _ _ _ _ 8 _ _ _ _))
  try simp (disch := omega) only [rup_rup, rup_sort, rupS_def, rup_s, rup_n, fup_fup, fup_s, fup_n, hl] at q5 ⊢
  refine R_iload_n dX12_codes_8 rfl (?_ : RR _ _ _ _ 9 _ _ _ _)
  refine R_iast dX12_codes_9 (?_ : RR _ _ _ _ 10 _ _ _ _)
  try simp (disch := omega) only [rup_rup, rup_sort, rupS_def, rup_s, rup_n, fup_fup, fup_s, fup_n, hl]
  refine R_aload_n dX12_codes_10 rfl (?_ : RR _ _ _ _ 11 _ _ _ _)
  refine R_dup dX12_codes_11 (fun _ => rfl) (?_ : RR _ _ _ _ 12 _ _ _ _)
  refine R_geti (z := 24) dX12_codes_12 flX12_230 cok_12 rfl (by decide) rfl (fun q12 => (?_ : RR _ _ _ _ 15 _ _ _ _))
  try simp (disch := omega) only [rup_rup, rup_sort, rupS_def, rup_s, rup_n, fup_fup, fup_s, fup_n, hl] at q12 ⊢
  refine R_iconst dX12_codes_15 (?_ : RR _ _ _ _ 16 _ _ _ _)
  refine R_iadd dX12_codes_16 (?_ : RR _ _ _ _ 17 _ _ _ _)
  refine R_puti (zk := 24) dX12_codes_17 flX12_230 cok_12 (by decide) (fun q hq => by cases hq; rfl) rfl (?_ : RR _ _ _ _ 20 _ _ _ _)
  try simp (disch := omega) only [rup_rup, rup_sort, rupS_def, rup_s, rup_n, fup_fup, fup_s, fup_n, hl]
  exact R_return dX12_codes_20 trivial hQ
theorem T_number3 (hp : h 147 16 = p) (hb : h 147 17 = b) (hpb : p ≤ b) (hb40 : b ≤ 40) (hσ : ∀ p : Nat, p < b → h 156 p = σ p ∧ 0 ≤ σ p ∧ σ p ≤ 255) (hσn : ∀ p : Nat, b ≤ p → σ p = -1) (hd : dgt (σ p)) : MT mX12_number 2 [pR 147, pI 3] h (some (pI (nuV σ p))) (rup h 147 (fup (h 147) 16 ((p : Int) + nuL σ p))) := by
  refine MT.of (fun Q hQ => (?_ : RR mX12_number _ _ _ _ [pR 147, pI 3, pU, pU] _ _ _))
  have c1 : ((p + 1 : Nat) : Int) = (p : Int) + 1 := by omega
  have c2 : ((p + 2 : Nat) : Int) = (p : Int) + 2 := by omega
  have c3 : ((p + 3 : Nat) : Int) = (p : Int) + 3 := by omega
  have lt : ∀ q : Nat, dgt (σ q) → q < b := fun q hq => by
    by_cases z : q < b
    · exact z
    · have := hσn q (by omega); unfold dgt at hq; omega
  have I : ∀ (q : Nat) (g : Nat → Int → Int), g = rup h 147 (fup (h 147) 16 (q : Int)) → q ≤ b → MT mX12_isDigit 1 [pR 147] g (some (pI (if 48 ≤ σ q ∧ σ q ≤ 57 then 1 else 0))) g ∧ g 147 16 = q ∧ g 156 = h 156 ∧ rup g 147 (fup (g 147) 16 ((q : Int) + 1)) = rup h 147 (fup (h 147) 16 ((q + 1 : Nat) : Int)) := fun q g hg hq => by
    have g16 : g 147 16 = q := by rw [hg, rup_s, fup_s]
    have g156 : g 156 = h 156 := by rw [hg, rup_n (by omega)]
    exact ⟨T_X12_isDigit g16 (by rw [hg, rup_s, fup_n (by omega)]; exact hb) hq (by omega) (by rw [g156]; exact hσ) hσn, g16, g156, by rw [hg, rup_s, rup_rup, fup_fup]; rfl⟩
  have g0 : h = rup h 147 (fup (h 147) 16 (p : Int)) := by rw [← hp, fup_self, rup_self]
  /- one digit -/
  have S : ∀ (q i : Nat) (z : Int) (g : Nat → Int → Int), g = rup h 147 (fup (h 147) 16 (q : Int)) → dgt (σ q) → i ≤ 2 → 0 ≤ z → z ≤ 99 → RR mX12_number 2 0 0 13 [pR 147, pI 3, pI (10 * z + σ q - 48), pI ((i : Int) + 1)] [] (shp0, rf0, rup h 147 (fup (h 147) 16 ((q + 1 : Nat) : Int))) Q → RR mX12_number 2 0 0 13 [pR 147, pI 3, pI z, pI i] [] (shp0, rf0, g) Q := by
    intro q i z g hg hd i2 z0 z9 K
    obtain ⟨hT, g16, g156, ge⟩ := I q g hg (Nat.le_of_lt (lt q hd))
    have hs := hσ q (lt q hd)
    have hqb := lt q hd
    rw [if_pos hd] at hT
    have v16 : g 156 q = σ q := by rw [g156]; exact hs.1
    unfold dgt at hd
    rw [← ge, ← v16] at K
    rw [← v16] at hd
    clear hQ I hg ge
    refine R_iload_n dX12_number_13 rfl (?_ : RR _ _ _ _ 14 _ _ _ _)
    refine R_iload_n dX12_number_14 rfl (?_ : RR _ _ _ _ 15 _ _ _ _)
    refine R_icmp_ge (t := 59) dX12_number_15 rfl (fun c15 => ?_) (fun c15 => ?_)
    · exfalso; omega
    refine R_aload_n dX12_number_18 rfl (?_ : RR _ _ _ _ 19 _ _ _ _)
    refine R_cVi0 dX12_number_19 mvX12_isDigit mlX12_178 (by decide) (by decide) (Nat.le_of_ble_eq_true rfl) (Nat.le_of_ble_eq_true rfl) (hT) (?_ : RR _ _ _ _ 22 _ _ _ _)
    refine R_if_eq (t := 59) dX12_number_22 rfl (fun c22 => ?_) (fun c22 => ?_)
    · exfalso; omega
    refine R_bipush dX12_number_25 rfl (?_ : RR _ _ _ _ 27 _ _ _ _)
    refine R_iload_n dX12_number_27 rfl (?_ : RR _ _ _ _ 28 _ _ _ _)
    refine R_imul dX12_number_28 (?_ : RR _ _ _ _ 29 _ _ _ _)
    refine R_aload_n dX12_number_29 rfl (?_ : RR _ _ _ _ 30 _ _ _ _)
    refine R_getr dX12_number_30 flX12_39 cok_12 rfl (by decide) (?_ : RR _ _ _ _ 33 _ _ _ _)
    refine R_aload_n dX12_number_33 rfl (?_ : RR _ _ _ _ 34 _ _ _ _)
    refine R_geti (z := 16) dX12_number_34 flX12_151 cok_12 rfl (by decide) rfl (fun q34 => (?_ : RR _ _ _ _ 37 _ _ _ _))
    rw [g16] at q34 ⊢
    refine R_iald dX12_number_37 (fun q37 => (?_ : RR _ _ _ _ 38 _ _ _ _))
    refine R_iadd dX12_number_38 (?_ : RR _ _ _ _ 39 _ _ _ _)
    refine R_bipush dX12_number_39 rfl (?_ : RR _ _ _ _ 41 _ _ _ _)
    refine R_isub dX12_number_41 (?_ : RR _ _ _ _ 42 _ _ _ _)
    refine R_istore_n dX12_number_42 (Nat.le_of_ble_eq_true rfl) (?_ : RR _ _ _ _ 43 [_, _, _, _] _ _ _)
    refine R_aload_n dX12_number_43 rfl (?_ : RR _ _ _ _ 44 _ _ _ _)
    refine R_dup dX12_number_44 (fun _ => rfl) (?_ : RR _ _ _ _ 45 _ _ _ _)
    refine R_geti (z := 16) dX12_number_45 flX12_151 cok_12 rfl (by decide) rfl (fun q45 => (?_ : RR _ _ _ _ 48 _ _ _ _))
    rw [g16] at q45 ⊢
    refine R_iconst dX12_number_48 (?_ : RR _ _ _ _ 49 _ _ _ _)
    refine R_iadd dX12_number_49 (?_ : RR _ _ _ _ 50 _ _ _ _)
    refine R_puti (zk := 16) dX12_number_50 flX12_151 cok_12 (by decide) (fun q hq => by cases hq; rfl) rfl (?_ : RR _ _ _ _ 53 _ _ _ _)
    refine R_iinc dX12_number_53 rfl (Nat.le_of_ble_eq_true rfl) (?_ : RR _ _ _ _ 56 [_, _, _, _] _ _ _)
    refine R_goto (t := 13) dX12_number_56 rfl (?_ : RR _ _ _ _ 13 _ _ _ _)
    exact K
  have X : ∀ (q i : Nat) (z : Int) (g : Nat → Int → Int), g = rup h 147 (fup (h 147) 16 (q : Int)) → q ≤ b → ¬ dgt (σ q) → i ≤ 2 → r32 z → Q (some (pI z)) (shp0, rf0, g) → RR mX12_number 2 0 0 13 [pR 147, pI 3, pI z, pI i] [] (shp0, rf0, g) Q := by
    intro q i z g hg hq hd i2 hz hQ
    obtain ⟨hT, -, -, -⟩ := I q g hg hq
    rw [if_neg hd] at hT
    clear I
    refine R_iload_n dX12_number_13 rfl (?_ : RR _ _ _ _ 14 _ _ _ _)
    refine R_iload_n dX12_number_14 rfl (?_ : RR _ _ _ _ 15 _ _ _ _)
    refine R_icmp_ge (t := 59) dX12_number_15 rfl (fun c15 => ?_) (fun c15 => ?_)
    · exfalso; omega
    refine R_aload_n dX12_number_18 rfl (?_ : RR _ _ _ _ 19 _ _ _ _)
    refine R_cVi0 dX12_number_19 mvX12_isDigit mlX12_178 (by decide) (by decide) (Nat.le_of_ble_eq_true rfl) (Nat.le_of_ble_eq_true rfl) (hT) (?_ : RR _ _ _ _ 22 _ _ _ _)
    refine R_if_eq (t := 59) dX12_number_22 rfl (fun c22 => ?_) (fun c22 => ?_)
    rotate_left
    · exfalso; omega
    refine R_iload_n dX12_number_59 rfl (?_ : RR _ _ _ _ 60 _ _ _ _)
    exact R_ireturn dX12_number_60 trivial hQ
  have h0 := (I p h g0 hpb).1
  rw [if_pos hd] at h0
  have hb0 := hσ p (lt p hd)
  have K13 : RR mX12_number 2 0 0 13 [pR 147, pI 3, pI 0, pI ((0 : Nat) : Int)] [] (shp0, rf0, h) Q := by
    refine S p 0 0 h g0 hd (by omega) (by omega) (by omega) ?_
    have hb1 := lt p hd
    by_cases d1 : dgt (σ ((p + 1 : Nat) : Int))
    · refine S (p + 1) 1 (10 * 0 + σ p - 48) _ rfl d1 (by omega) (by unfold dgt at hd; omega) (by unfold dgt at hd; omega) ?_
      by_cases d2 : dgt (σ ((p + 2 : Nat) : Int))
      · refine S (p + 2) 2 (10 * (10 * 0 + σ p - 48) + σ ((p + 1 : Nat) : Int) - 48) _ rfl d2 (by omega) (by unfold dgt at hd d1; omega) (by unfold dgt at hd d1; omega) ?_
        have e1 : nuL σ p = 3 := by unfold nuL; rw [← c1, ← c2, if_pos d1, if_pos d2]
        have e2 : nuV σ p = 10 * (10 * (10 * 0 + σ p - 48) + σ ((p + 1 : Nat) : Int) - 48) + σ ((p + 2 : Nat) : Int) - 48 := by unfold nuV; rw [← c1, ← c2, if_pos d1, if_pos d2]; omega
        rw [e1, e2, show (p : Int) + ((3 : Nat) : Int) = ((p + 2 + 1 : Nat) : Int) by omega] at hQ
        clear S X I
        generalize 10 * (10 * (10 * 0 + σ p - 48) + σ ((p + 1 : Nat) : Int) - 48) + σ ((p + 2 : Nat) : Int) - 48 = z at *
        show RR mX12_number 2 0 0 13 [pR 147, pI 3, pI z, pI (2 + 1)] [] _ _
        refine R_iload_n dX12_number_13 rfl (?_ : RR _ _ _ _ 14 _ _ _ _)
        refine R_iload_n dX12_number_14 rfl (?_ : RR _ _ _ _ 15 _ _ _ _)
        refine R_icmp_ge (t := 59) dX12_number_15 rfl (fun c15 => ?_) (fun c15 => ?_)
        rotate_left
        · exfalso; omega
        refine R_iload_n dX12_number_59 rfl (?_ : RR _ _ _ _ 60 _ _ _ _)
        exact R_ireturn dX12_number_60 trivial hQ
      · have e1 : nuL σ p = 2 := by unfold nuL; rw [← c1, ← c2, if_pos d1, if_neg d2]
        have e2 : nuV σ p = 10 * (10 * 0 + σ p - 48) + σ ((p + 1 : Nat) : Int) - 48 := by unfold nuV; rw [← c1, ← c2, if_pos d1, if_neg d2]; omega
        rw [e1, e2, show (p : Int) + ((2 : Nat) : Int) = ((p + 1 + 1 : Nat) : Int) by omega] at hQ
        have hb2 := lt (p + 1) d1
        exact X (p + 2) 2 _ _ rfl (by omega) d2 (by omega) (by unfold dgt at hd d1; omega) hQ
    · have e1 : nuL σ p = 1 := by unfold nuL; rw [← c1, if_neg d1]
      have e2 : nuV σ p = 10 * 0 + σ p - 48 := by unfold nuV; rw [← c1, if_neg d1]; omega
      rw [e1, e2, show (p : Int) + ((1 : Nat) : Int) = ((p + 1 : Nat) : Int) by omega] at hQ
      exact X (p + 1) 1 _ _ rfl (by omega) d1 (by omega) (by unfold dgt at hd; omega) hQ
  have K13 : RR mX12_number 2 0 0 13 [pR 147, pI 3, pI 0, pI 0] [] (shp0, rf0, h) Q := K13
  clear S X I hQ g0
  refine R_aload_n dX12_number_0 rfl (?_ : RR _ _ _ _ 1 _ _ _ _)
  refine R_cVi0 dX12_number_1 mvX12_isDigit mlX12_178 (by decide) (by decide) (Nat.le_of_ble_eq_true rfl) (Nat.le_of_ble_eq_true rfl) (h0) (?_ : RR _ _ _ _ 4 _ _ _ _)
  refine R_if_ne (t := 9) dX12_number_4 rfl (fun c4 => ?_) (fun c4 => ?_)
  rotate_left
  · exfalso; omega
  refine R_iconst dX12_number_9 (?_ : RR _ _ _ _ 10 _ _ _ _)
  refine R_istore_n dX12_number_10 (Nat.le_of_ble_eq_true rfl) (?_ : RR _ _ _ _ 11 [_, _, _, _] _ _ _)
  refine R_iconst dX12_number_11 (?_ : RR _ _ _ _ 12 _ _ _ _)
  refine R_istore_n dX12_number_12 (Nat.le_of_ble_eq_true rfl) (?_ : RR _ _ _ _ 13 [_, _, _, _] _ _ _)
  exact K13
/-- the frame of the reference's reading -/
def mqrF (h h1 : Nat → Int → Int) (l : Nat) : Prop := (∀ a, a ≠ 147 → a ≠ 159 → h1 a = h a) ∧ (∀ j : Int, j ≠ 16 → j ≠ 18 → j ≠ 24 → h1 147 j = h 147 j) ∧ ∀ j : Int, j < l → h1 159 j = h 159 j
theorem mqrF_tr {l2 : Nat} (a : mqrF h h1 l) (b : mqrF h1 h2 l2) (hl : l ≤ l2) : mqrF h h2 l := ⟨fun x x1 x2 => by rw [b.1 x x1 x2]; exact a.1 x x1 x2, fun j j1 j2 j3 => by rw [b.2.1 j j1 j2 j3]; exact a.2.1 j j1 j2 j3, fun j hj => by rw [b.2.2 j (by omega)]; exact a.2.2 j hj⟩
theorem mqrF_rf : mqrF h h l := ⟨fun _ _ _ => rfl, fun _ _ _ _ => rfl, fun _ _ => rfl⟩
def mqrS (h : Nat → Int → Int) (p l d b : Nat) : Prop := h 147 16 = p ∧ h 147 24 = l ∧ h 147 18 = d ∧ h 147 17 = b
def mqrT (σ : Int → Int) (b : Nat) (h : Nat → Int → Int) : Prop := ∀ p : Nat, p < b → h 156 p = σ p ∧ 0 ≤ σ p ∧ σ p ≤ 255
def mLP (x : RV) (p l d b : Nat) (h : Nat → Int → Int) (r' : Option PV) (g' : PH) : Prop := ∃ (h2 : Nat → Int → Int) (k : Nat), g' = (shp0, rf0, h2) ∧ mqrF h h2 l ∧ h2 147 16 = (x.1 : Int) ∧ h2 147 24 = ((l + k : Nat) : Int) ∧ h2 147 17 = b ∧ k + p ≤ x.1 ∧ ((x.2.1 = false ∧ r' = some (pI 0)) ∨ (x.2.1 = true ∧ r' = some (pI 1) ∧ h2 147 18 = d ∧ SgM (h2 159) l k x.2.2.1))
theorem mLP_z {x : RV} {r' : Option PV} {g' : PH} (hc : mLP x p l d b h r' g') : ∃ z : Int, (z = 0 ∨ z = 1) ∧ r' = some (pI z) := by
  obtain ⟨h6, k, rfl, f6, i6, l6, b6, kb, ⟨o6, rfl⟩ | ⟨o6, rfl, kk⟩⟩ := hc
  · exact ⟨0, Or.inl rfl, rfl⟩
  · exact ⟨1, Or.inr rfl, rfl⟩
def mLv (σ : Int → Int) (b N : Nat) : Prop := ∀ (m d p l : Nat) (u : Bool) (v : (Int → Int) → Int) (h : Nat → Int → Int), m ≤ 3 → d ≤ 4 → p ≤ b → l ≤ p → rpM m p ≤ N → mqrT σ b h → mqrS h p l d b → RR mX12_readsRank (2 * N + 8) 0 0 0 (pm_ent [pR 147, pI m] 4) [] (shp0, rf0, h) (mLP (rp σ N m d p v u) p l d b h)
def mTh (σ : Int → Int) (b N : Nat) : Prop := ∀ (d p l : Nat) (u : Bool) (v : (Int → Int) → Int) (h : Nat → Int → Int), d ≤ 4 → p ≤ b → l ≤ p → rpM 3 p ≤ N → mqrT σ b h → mqrS h p l d b → RR mX12_readsThing (2 * N + 7) 0 0 0 (pm_ent [pR 147] 2) [] (shp0, rf0, h) (mLP (rp σ N 3 d p v u) p l d b h)
end RU7
