section MFE
variable {h h0 h1 h2 : Nat → Int → Int} {W R F : Int → Int} {G H : Nat} {en : Int} {st : Nat → Bool}
/-- what is held as the best so far, and what a part adds to it -/
def cmb (far : Int) (P : List Int) (b : Int) (L : List Int) (r : Int × List Int) : Int × List Int := if r.1 < 100000 ∧ far + r.1 < b then (far + r.1, P ++ r.2) else (b, L)
theorem cmb_s {far D b x : Int} {P L : List Int} {q r : Int × List Int} (hD : 0 ≤ D ∧ D < 1000) (hq : (0 ≤ q.1 ∧ q.1 < 20000) ∨ q.1 = 100000) (hr : r.1 ≤ 100000) : cmb (far + D) (P ++ [x]) (cmb far P b L r).1 (cmb far P b L r).2 q = cmb far P b L (if D + q.1 < r.1 then (D + q.1, x :: q.2) else r) := by
  by_cases q1 : q.1 < 100000
  · by_cases z : D + q.1 < r.1
    · rw [if_pos z]
      unfold cmb
      dsimp only
      by_cases y : far + (D + q.1) < b
      · rw [if_pos (show D + q.1 < 100000 ∧ far + (D + q.1) < b by omega)]
        rw [if_pos ⟨q1, by split <;> (dsimp only; omega)⟩]
        rw [Int.add_assoc, List.append_assoc]
        rfl
      · rw [if_neg (show ¬ (D + q.1 < 100000 ∧ far + (D + q.1) < b) by omega)]
        rw [if_neg (show ¬ (r.1 < 100000 ∧ far + r.1 < b) by omega)]
        dsimp only
        rw [if_neg (by omega)]
    · rw [if_neg z]
      unfold cmb
      by_cases y : r.1 < 100000 ∧ far + r.1 < b
      · rw [if_pos y]
        dsimp only
        rw [if_neg (by omega)]
      · rw [if_neg y]
        dsimp only
        rw [if_neg (by omega)]
  · rw [if_neg (by omega)]
    show (if q.1 < 100000 ∧ _ then _ else _) = _
    rw [if_neg (fun w => q1 w.1)]
theorem cmb_b {far b : Int} {P L : List Int} {r : Int × List Int} (hb : b ≤ 1000000) : (cmb far P b L r).1 ≤ 1000000 := by
  unfold cmb
  split
  · dsimp only; omega
  · exact hb
theorem cmb_0 {far b : Int} {P L : List Int} : cmb far P b L (100000, []) = (b, L) := if_neg (fun z => absurd z.1 (by decide))
def ftE (h h1 : Nat → Int → Int) : Prop := (∀ a, a ≠ 147 → a ≠ 167 → a ≠ 168 → h1 a = h a) ∧ ∀ j : Int, j ≠ 37 → j ≠ 38 → h1 147 j = h 147 j
theorem ftE_rf : ftE h h := ⟨fun _ _ _ _ => rfl, fun _ _ _ => rfl⟩
theorem ftE_tr (a : ftE h h1) (b : ftE h1 h2) : ftE h h2 := ⟨fun x x1 x2 x3 => (b.1 x x1 x2 x3).trans (a.1 x x1 x2 x3), fun j j1 j2 => (b.2 j j1 j2).trans (a.2 j j1 j2)⟩
def prP (P : List Int) (h : Nat → Int → Int) : Prop := ∀ k : Nat, k < P.length → h 167 k = P.getD k 0 ∧ 0 ≤ P.getD k 0 ∧ P.getD k 0 ≤ 8
def bsP (b : Int) (L : List Int) (h : Nat → Int → Int) : Prop := h 147 38 = b ∧ (b < 1000000 → h 147 37 = (L.length : Int) ∧ ∀ k : Nat, k < L.length → h 168 k = L.getD k 0 ∧ 0 ≤ L.getD k 0 ∧ L.getD k 0 ≤ 8)
def relS (H : Nat) (st : Nat → Bool) (M S : Nat) : Prop := S < 4096 ∧ ∀ c, S.testBit c = (decide (c < H) && st c && M.testBit (cG st c))
theorem cG_inj {a b : Nat} (ha : st a = true) (hb : st b = true) (e : cG st a = cG st b) : a = b := by
  by_cases q : a < b
  · have := cG_t ha q; omega
  · by_cases q2 : b < a
    · have := cG_t hb q2; omega
    · omega
theorem relS_oth {M S c : Nat} (hr : relS H st M S) (hM : M < 4096) (hc : st c = true) : relS H st (oth M (cG st c)) (oth S c) := by
  refine ⟨oth_lt, fun i => ?_⟩
  rw [oth_bit hr.1, oth_bit hM, hr.2 i]
  cases q1 : decide (i < H)
  · rfl
  · cases q2 : st i
    · rfl
    · cases q3 : M.testBit (cG st i)
      · rfl
      · simp only [Bool.true_and]
        by_cases z : i = c
        · subst z; simp
        · have : cG st i ≠ cG st c := fun w => z (cG_inj q2 hc w)
          simp [z, this]
theorem relS_0 {S : Nat} (hr : relS H st 0 S) : S = 0 := by
  apply Nat.eq_of_testBit_eq
  intro i
  rw [hr.2 i, Nat.zero_testBit, Nat.zero_testBit, Bool.and_false]
theorem relS_1 {M S : Nat} {p0 : Int → Int} (hr : relS H st M S) (hM : M ≠ 0) (hMG : ∀ g, M.testBit g = true → g < cG st H) : S ≠ 0 := fun z => by
  have : ∃ g, M.testBit g = true := by
    refine Classical.byContradiction (fun w => hM ?_)
    apply Nat.eq_of_testBit_eq
    intro i
    rw [Nat.zero_testBit]
    cases q : M.testBit i
    · rfl
    · exact absurd ⟨i, q⟩ w
  obtain ⟨g, hg⟩ := this
  obtain ⟨c, c1, c2, c3, c4⟩ := ptR_p (st := st) (p0 := p0) H g (hMG g hg)
  have h1 := hr.2 c
  rw [z, Nat.zero_testBit, c2, c3, hg, decide_eq_true c1] at h1
  simp at h1
theorem othI2 {M g : Nat} (hM : M < 4096) (hg : g ≤ 9) : iAnd (M : Int) (iXor ((2 ^ g : Nat) : Int) (-1)) = ((oth M g : Nat) : Int) :=
  iAndN (a := M) (b := 2 ^ g) (n := 12) hM (by omega) (Nat.lt_of_le_of_lt (Nat.pow_le_pow_right (by omega) hg) (by decide))
/-- all goals are behind -/
theorem FT_0 {d i : Nat} {far b : Int} {P L : List Int} (h151 : h1 151 = F) (hF : farB F) (hR : 0 ≤ R i ∧ R i < 9) (hen : 0 ≤ en ∧ en < 9) (hE : toE W R en i = nds F (R i * 9 + en)) (hP6 : P.length ≤ 6) (hfar : 0 ≤ far ∧ far ≤ 1000 * P.length) (hb : b ≤ 1000000 ∧ -1000000 ≤ b) (hp : prP P h1) (hbs : bsP b L h1) : RR mX12_fetches (d + 1) 0 0 0 (pm_ent [pR 147, pI (R i), pI 0, pI P.length, pI far, pI en] 7) [] (shp0, rf0, h1) (fun r' g' => r' = none ∧ ∃ h2, g' = (shp0, rf0, h2) ∧ ftE h1 h2 ∧ (∀ k : Nat, k < P.length → h2 167 k = h1 167 k) ∧ bsP (cmb far P b L (toE W R en i, [])).1 (cmb far P b L (toE W R en i, [])).2 h2) := by
  show RR _ _ _ _ _ [pR 147, pI (R i), pI 0, pI P.length, pI far, pI en, pU] _ _ _
  suffices hS : ∀ Q : Option PV → PH → Prop, (∀ h2, ftE h1 h2 → (∀ k : Nat, k < P.length → h2 167 k = h1 167 k) → bsP (cmb far P b L (toE W R en i, [])).1 (cmb far P b L (toE W R en i, [])).2 h2 → Q none (shp0, rf0, h2)) → RR mX12_fetches (d + 1) 0 0 0 [pR 147, pI (R i), pI 0, pI P.length, pI far, pI en, pU] [] (shp0, rf0, h1) Q from hS _ (fun h2 q1 q2 q3 => ⟨rfl, h2, rfl, q1, q2, q3⟩)
  intro Q hQ
  have hfb := hF (R i * 9 + en) (by omega) (by omega)
  have e38 := hbs.1
  have hT : MT mX12_farOf 0 [pR 147, pI (R i), pI en] h1 (some (pI (F (R i * 9 + en)))) h1 := by
    rw [← h151]
    exact T_X12_farOf
  unfold nds at hE
  by_cases z : far + F (R i * 9 + en) < b
  · rw [if_neg (by omega)] at hE
    have hcm : cmb far P b L (toE W R en i, []) = (far + F (R i * 9 + en), P) := by
      unfold cmb
      rw [hE, if_pos (by dsimp only; omega), List.append_nil]
    rw [hcm] at hQ
    have LL : ∀ (j m : Nat) (h2 : Nat → Int → Int), m + j = P.length → ftE h1 h2 → h2 167 = h1 167 → h2 147 38 = far + F (R i * 9 + en) → h2 147 37 = (P.length : Int) → (∀ m' : Nat, m' < m → h2 168 m' = P.getD m' 0) → RR mX12_fetches (d + 1) 0 0 43 [pR 147, pI (R i), pI 0, pI P.length, pI far, pI en, pI m] [] (shp0, rf0, h2) Q := by
      intro j
      induction j with
      | zero =>
        intro m h2 hm hf e167 e1 e2 e3
        obtain rfl : m = P.length := by omega
        have hq := hQ h2 hf (fun _ _ => by rw [e167]) ⟨e1, fun _ => ⟨e2, fun m' hm' => ⟨e3 m' hm', (hp m' hm').2⟩⟩⟩
        refine R_iload dX12_fetches_43 rfl (?_ : RR _ _ _ _ 45 _ _ _ _)
        refine R_iload_n dX12_fetches_45 rfl (?_ : RR _ _ _ _ 46 _ _ _ _)
        refine R_icmp_ge (t := 69) dX12_fetches_46 rfl (fun c46 => ?_) (fun c46 => ?_)
        rotate_left
        · exfalso; omega
        exact R_return dX12_fetches_69 trivial hq
      | succ j ih =>
        intro m h2 hm hf e167 e1 e2 e3
        obtain ⟨p1, p2, p3⟩ := hp m (by omega)
        have e168 : h2 167 m = P.getD m 0 := by rw [e167]; exact p1
        have IH := ih (m + 1) (rup h2 168 (fup (h2 168) m (P.getD m 0))) (by omega) (ftE_tr hf ⟨fun a a1 a2 a3 => rup_n a3, fun j j1 j2 => by rw [rup_n (by omega)]⟩) (by rw [rup_n (by omega)]; exact e167) (by rw [rup_n (by omega)]; exact e1) (by rw [rup_n (by omega)]; exact e2) (fun m' hm' => by
          rw [rup_s]
          by_cases w : m' = m
          · rw [w, fup_s]
          · rw [fup_n (by omega)]; exact e3 m' (by omega))
        generalize P.getD m 0 = x at e168 IH p2 p3
        refine R_iload dX12_fetches_43 rfl (?_ : RR _ _ _ _ 45 _ _ _ _)
        refine R_iload_n dX12_fetches_45 rfl (?_ : RR _ _ _ _ 46 _ _ _ _)
        refine R_icmp_ge (t := 69) dX12_fetches_46 rfl (fun c46 => ?_) (fun c46 => ?_)
        · exfalso; omega
        refine R_aload_n dX12_fetches_49 rfl (?_ : RR _ _ _ _ 50 _ _ _ _)
        refine R_getr dX12_fetches_50 flX12_75 cok_12 rfl (by decide) (?_ : RR _ _ _ _ 53 _ _ _ _)
        refine R_iload dX12_fetches_53 rfl (?_ : RR _ _ _ _ 55 _ _ _ _)
        refine R_aload_n dX12_fetches_55 rfl (?_ : RR _ _ _ _ 56 _ _ _ _)
        refine R_getr dX12_fetches_56 flX12_72 cok_12 rfl (by decide) (?_ : RR _ _ _ _ 59 _ _ _ _)
        refine R_iload dX12_fetches_59 rfl (?_ : RR _ _ _ _ 61 _ _ _ _)
        refine R_iald dX12_fetches_61 (fun q61 => (?_ : RR _ _ _ _ 62 _ _ _ _))
        rw [e168] at q61 ⊢
        refine R_iast dX12_fetches_62 (?_ : RR _ _ _ _ 63 _ _ _ _)
        refine R_iinc dX12_fetches_63 rfl (Nat.le_of_ble_eq_true rfl) (?_ : RR _ _ _ _ 66 [_, _, _, _, _, _, _] _ _ _)
        refine R_goto (t := 43) dX12_fetches_66 rfl (?_ : RR _ _ _ _ 43 _ _ _ _)
        exact IH
    obtain ⟨h9, h9e⟩ : ∃ h9, h9 = rup h1 147 (fup (fup (h1 147) 38 (far + F (R i * 9 + en))) 37 P.length) := ⟨_, rfl⟩
    have L0 := LL P.length 0 h9 (by omega) ⟨fun a a1 a2 a3 => by rw [h9e, rup_n a1], fun j j1 j2 => by rw [h9e, rup_s, fup_n j1, fup_n j2]⟩ (by rw [h9e, rup_n (by omega)]) (by rw [h9e, rup_s, fup_n (by omega), fup_s]) (by rw [h9e, rup_s, fup_s]) (fun m' hm' => by omega)
    generalize P.length = pl at *
    refine R_iload_n dX12_fetches_0 rfl (?_ : RR _ _ _ _ 1 _ _ _ _)
    refine R_if_ne (t := 70) dX12_fetches_1 rfl (fun c1 => ?_) (fun c1 => ?_)
    · exfalso; omega
    refine R_iload dX12_fetches_4 rfl (?_ : RR _ _ _ _ 6 _ _ _ _)
    refine R_aload_n dX12_fetches_6 rfl (?_ : RR _ _ _ _ 7 _ _ _ _)
    refine R_iload_n dX12_fetches_7 rfl (?_ : RR _ _ _ _ 8 _ _ _ _)
    refine R_iload dX12_fetches_8 rfl (?_ : RR _ _ _ _ 10 _ _ _ _)
    refine R_cVi2 dX12_fetches_10 mvX12_farOf mlX12_145 (by decide) (by omega) (Nat.le_of_ble_eq_true rfl) (Nat.le_of_ble_eq_true rfl) (hT) (?_ : RR _ _ _ _ 13 _ _ _ _)
    refine R_iadd dX12_fetches_13 (?_ : RR _ _ _ _ 14 _ _ _ _)
    refine R_aload_n dX12_fetches_14 rfl (?_ : RR _ _ _ _ 15 _ _ _ _)
    refine R_geti (z := 38) dX12_fetches_15 flX12_432 cok_12 rfl (by decide) rfl (fun q15 => (?_ : RR _ _ _ _ 18 _ _ _ _))
    rw [e38] at q15 ⊢
    refine R_icmp_ge (t := 69) dX12_fetches_18 rfl (fun c18 => ?_) (fun c18 => ?_)
    · exfalso; omega
    refine R_aload_n dX12_fetches_21 rfl (?_ : RR _ _ _ _ 22 _ _ _ _)
    refine R_iload dX12_fetches_22 rfl (?_ : RR _ _ _ _ 24 _ _ _ _)
    refine R_aload_n dX12_fetches_24 rfl (?_ : RR _ _ _ _ 25 _ _ _ _)
    refine R_iload_n dX12_fetches_25 rfl (?_ : RR _ _ _ _ 26 _ _ _ _)
    refine R_iload dX12_fetches_26 rfl (?_ : RR _ _ _ _ 28 _ _ _ _)
    refine R_cVi2 dX12_fetches_28 mvX12_farOf mlX12_145 (by decide) (by omega) (Nat.le_of_ble_eq_true rfl) (Nat.le_of_ble_eq_true rfl) (hT) (?_ : RR _ _ _ _ 31 _ _ _ _)
    refine R_iadd dX12_fetches_31 (?_ : RR _ _ _ _ 32 _ _ _ _)
    refine R_puti (zk := 38) dX12_fetches_32 flX12_432 cok_12 (by decide) (fun q hq => by cases hq; rfl) rfl (?_ : RR _ _ _ _ 35 _ _ _ _)
    refine R_aload_n dX12_fetches_35 rfl (?_ : RR _ _ _ _ 36 _ _ _ _)
    refine R_iload_n dX12_fetches_36 rfl (?_ : RR _ _ _ _ 37 _ _ _ _)
    refine R_puti (zk := 37) dX12_fetches_37 flX12_435 cok_12 (by decide) (fun q hq => by cases hq; rfl) rfl (?_ : RR _ _ _ _ 40 _ _ _ _)
    simp only [rup_rup, rup_s]
    rw [← h9e]
    refine R_iconst dX12_fetches_40 (?_ : RR _ _ _ _ 41 _ _ _ _)
    refine R_istore dX12_fetches_41 (Nat.le_of_ble_eq_true rfl) (?_ : RR _ _ _ _ 43 [_, _, _, _, _, _, _] _ _ _)
    exact L0
  · have hcm : cmb far P b L (toE W R en i, []) = (b, L) := by
      unfold cmb
      rw [if_neg]
      intro w
      rw [hE] at w
      dsimp only at w
      split at w <;> omega
    rw [hcm] at hQ
    have hq := hQ h1 ftE_rf (fun _ _ => rfl) hbs
    refine R_iload_n dX12_fetches_0 rfl (?_ : RR _ _ _ _ 1 _ _ _ _)
    refine R_if_ne (t := 70) dX12_fetches_1 rfl (fun c1 => ?_) (fun c1 => ?_)
    · exfalso; omega
    refine R_iload dX12_fetches_4 rfl (?_ : RR _ _ _ _ 6 _ _ _ _)
    refine R_aload_n dX12_fetches_6 rfl (?_ : RR _ _ _ _ 7 _ _ _ _)
    refine R_iload_n dX12_fetches_7 rfl (?_ : RR _ _ _ _ 8 _ _ _ _)
    refine R_iload dX12_fetches_8 rfl (?_ : RR _ _ _ _ 10 _ _ _ _)
    refine R_cVi2 dX12_fetches_10 mvX12_farOf mlX12_145 (by decide) (by omega) (Nat.le_of_ble_eq_true rfl) (Nat.le_of_ble_eq_true rfl) (hT) (?_ : RR _ _ _ _ 13 _ _ _ _)
    refine R_iadd dX12_fetches_13 (?_ : RR _ _ _ _ 14 _ _ _ _)
    refine R_aload_n dX12_fetches_14 rfl (?_ : RR _ _ _ _ 15 _ _ _ _)
    refine R_geti (z := 38) dX12_fetches_15 flX12_432 cok_12 rfl (by decide) rfl (fun q15 => (?_ : RR _ _ _ _ 18 _ _ _ _))
    rw [e38] at q15 ⊢
    refine R_icmp_ge (t := 69) dX12_fetches_18 rfl (fun c18 => ?_) (fun c18 => ?_)
    rotate_left
    · exfalso; omega
    exact R_return dX12_fetches_69 trivial hq
end MFE
