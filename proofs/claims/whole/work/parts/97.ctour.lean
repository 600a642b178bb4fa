section CTO
variable {h h1 h2 : Nat → Int → Int} {W R : Int → Int} {G : Nat} {en : Int}
def toD (W R : Int → Int) (i g : Nat) : Int := W (R i * 9 + R g)
def toE (W R : Int → Int) (en : Int) (i : Nat) : Int := W (R i * 9 + en)
abbrev toS (W R : Int → Int) (G : Nat) (en : Int) : Nat → Nat → Nat → Int × List Int := sp (toD W R) (toE W R en) (fun g => R g) G
/-- what the tour's rows hold -/
def toH (W R : Int → Int) (G : Nat) (h : Nat → Int → Int) : Prop := h 6 = W ∧ h 142 1 = G ∧ h 143 = R
theorem othI {M g : Nat} (hM : M < 64) (hg : g ≤ 9) : iAnd (M : Int) (iXor ((2 ^ g : Nat) : Int) (-1)) = ((oth M g : Nat) : Int) :=
  iAndN (a := M) (b := 2 ^ g) (n := 12) (Nat.lt_trans hM (by decide)) (by omega) (Nat.lt_of_le_of_lt (Nat.pow_le_pow_right (by omega) hg) (by decide))
theorem T_X8_minutesBy {M i g : Nat} {z : Int} (hh : toH W R G h) (hW : bnd W) (hR : ∀ g : Nat, g ≤ G → 0 ≤ R g ∧ R g < 9) (hG : G ≤ 6) (hM : M < 64) (hi : i ≤ G) (hg : g < G) (hz : h 144 (oth M g * 7 + g) = z) (hzb : 0 ≤ z ∧ z ≤ 100000) (hol : oth M g < 64) : MT mX8_minutesBy 1 [pR 142, pR 3, pI M, pI i, pI g] h (some (pI (toD W R i g + z))) h := by
  refine MT.of (fun Q hQ => (?_ : RR mX8_minutesBy _ _ _ _ [pR 142, pR 3, pI M, pI i, pI g] _ _ _))
  have n3 := isNet_3
  obtain ⟨e6, e1, e3⟩ := hh
  have r1 := hR i (by omega)
  have r2 := hR g (by omega)
  have wb := hW (R i * 9 + R g) (by omega) (by omega)
  have hsh := iShl_one g (by omega)
  have hand : iAnd (M : Int) (iXor ((2 ^ g : Nat) : Int) (-1)) = ((oth M g : Nat) : Int) := othI hM (by omega)
  generalize 2 ^ g = B at hsh hand
  generalize oth M g = O at hand hz hol
  unfold toD at hQ
  refine R_aload_n dX8_minutesBy_0 rfl (?_ : RR _ _ _ _ 1 _ _ _ _)
  refine R_aload_n dX8_minutesBy_1 rfl (?_ : RR _ _ _ _ 2 _ _ _ _)
  refine R_getr dX8_minutesBy_2 flX8_11 cok_8 rfl (by decide) (?_ : RR _ _ _ _ 5 _ _ _ _)
  refine R_iload_n dX8_minutesBy_5 rfl (?_ : RR _ _ _ _ 6 _ _ _ _)
  refine R_iald dX8_minutesBy_6 (fun q6 => (?_ : RR _ _ _ _ 7 _ _ _ _))
  rw [e3] at q6 ⊢
  refine R_aload_n dX8_minutesBy_7 rfl (?_ : RR _ _ _ _ 8 _ _ _ _)
  refine R_getr dX8_minutesBy_8 flX8_11 cok_8 rfl (by decide) (?_ : RR _ _ _ _ 11 _ _ _ _)
  refine R_iload dX8_minutesBy_11 rfl (?_ : RR _ _ _ _ 13 _ _ _ _)
  refine R_iald dX8_minutesBy_13 (fun q13 => (?_ : RR _ _ _ _ 14 _ _ _ _))
  rw [e3] at q13 ⊢
  refine R_cVi2 dX8_minutesBy_14 mvX0_between mlX8_36 (by decide) (by decide) (Nat.le_of_ble_eq_true rfl) (Nat.le_of_ble_eq_true rfl) (T_X0_between) (?_ : RR _ _ _ _ 17 _ _ _ _)
  rw [show h (3 + 3) = W from e6]
  refine R_aload_n dX8_minutesBy_17 rfl (?_ : RR _ _ _ _ 18 _ _ _ _)
  refine R_getr dX8_minutesBy_18 flX8_15 cok_8 rfl (by decide) (?_ : RR _ _ _ _ 21 _ _ _ _)
  refine R_iload_n dX8_minutesBy_21 rfl (?_ : RR _ _ _ _ 22 _ _ _ _)
  refine R_iconst dX8_minutesBy_22 (?_ : RR _ _ _ _ 23 _ _ _ _)
  refine R_iload dX8_minutesBy_23 rfl (?_ : RR _ _ _ _ 25 _ _ _ _)
  refine R_ishl dX8_minutesBy_25 (?_ : RR _ _ _ _ 26 _ _ _ _)
  rw [hsh]
  refine R_iconst dX8_minutesBy_26 (?_ : RR _ _ _ _ 27 _ _ _ _)
  refine R_ixor dX8_minutesBy_27 (?_ : RR _ _ _ _ 28 _ _ _ _)
  refine R_iand dX8_minutesBy_28 (?_ : RR _ _ _ _ 29 _ _ _ _)
  rw [hand]
  refine R_bipush dX8_minutesBy_29 rfl (?_ : RR _ _ _ _ 31 _ _ _ _)
  refine R_imul dX8_minutesBy_31 (?_ : RR _ _ _ _ 32 _ _ _ _)
  refine R_iload dX8_minutesBy_32 rfl (?_ : RR _ _ _ _ 34 _ _ _ _)
  refine R_iadd dX8_minutesBy_34 (?_ : RR _ _ _ _ 35 _ _ _ _)
  refine R_iald dX8_minutesBy_35 (fun q35 => (?_ : RR _ _ _ _ 36 _ _ _ _))
  rw [hz] at q35 ⊢
  refine R_iadd dX8_minutesBy_36 (?_ : RR _ _ _ _ 37 _ _ _ _)
  exact R_ireturn dX8_minutesBy_37 trivial hQ
theorem T_X8_fewestBy {M i : Nat} {q : Nat → Int × List Int} {y : Nat → Int} (hh : toH W R G h) (hW : bnd W) (hR : ∀ g : Nat, g ≤ G → 0 ≤ R g ∧ R g < 9) (hG : G ≤ 6) (hM : M < 64) (hi : i ≤ G) (hq : ∀ g, g < G → M.testBit g = true → h 144 (oth M g * 7 + g) = (q g).1 ∧ (0 ≤ (q g).1 ∧ (q g).1 ≤ 100000) ∧ oth M g < 64) : MT mX8_fewestBy 2 [pR 142, pR 3, pI M, pI i] h (some (pI (it (spF (toD W R) M i q y) (100000, []) G).1)) h := by
  refine MT.of (fun Q hQ => (?_ : RR mX8_fewestBy _ _ _ _ [pR 142, pR 3, pI M, pI i, pU, pU] _ _ _))
  have e1 := hh.2.1
  have L : ∀ (j g : Nat), g + j = G → RR mX8_fewestBy 2 0 0 7 [pR 142, pR 3, pI M, pI i, pI (it (spF (toD W R) M i q y) (100000, []) g).1, pI g] [] (shp0, rf0, h) Q := by
    intro j
    induction j with
    | zero =>
      intro g hg
      obtain rfl : g = G := by omega
      have hb : r32 (it (spF (toD W R) M i q y) (100000, []) g).1 := by
        have := (sp_I (D := toD W R) (M := M) (i := i) (q := q) (y := y) g).1
        rcases this with u | ⟨g', g1, g2, g3, g4⟩
        · rw [u]; decide
        · have h1 := (hq g' g1 g2).2.1
          have r1 := hR i (by omega)
          have r2 := hR g' (by omega)
          have wb := hW (R i * 9 + R g') (by omega) (by omega)
          rw [g3]
          unfold toD
          exact ⟨by dsimp only; omega, by dsimp only; omega⟩
      refine R_iload dX8_fewestBy_7 rfl (?_ : RR _ _ _ _ 9 _ _ _ _)
      refine R_aload_n dX8_fewestBy_9 rfl (?_ : RR _ _ _ _ 10 _ _ _ _)
      refine R_geti (z := 1) dX8_fewestBy_10 flX8_18 cok_8 rfl (by decide) rfl (fun q10 => (?_ : RR _ _ _ _ 13 _ _ _ _))
      rw [e1] at q10 ⊢
      refine R_icmp_ge (t := 48) dX8_fewestBy_13 rfl (fun c13 => ?_) (fun c13 => ?_)
      rotate_left
      · exfalso; omega
      refine R_iload dX8_fewestBy_48 rfl (?_ : RR _ _ _ _ 50 _ _ _ _)
      exact R_ireturn dX8_fewestBy_50 trivial hQ
    | succ j ih =>
      intro g hg
      have IH := ih (g + 1) (by omega)
      rw [show it (spF (toD W R) M i q y) (100000, []) (g + 1) = spF (toD W R) M i q y g (it (spF (toD W R) M i q y) (100000, []) g) from rfl] at IH
      have hI := (sp_I (D := toD W R) (M := M) (i := i) (q := q) (y := y) g)
      have r1 := hR i (by omega)
      have hb : 0 ≤ (it (spF (toD W R) M i q y) (100000, []) g).1 := by
        rcases hI.1 with u | ⟨g', g1, g2, g3, g4⟩
        · rw [u]; decide
        · have h1 := (hq g' (by omega) g2).2.1
          have r2 := hR g' (by omega)
          have wb := hW (R i * 9 + R g') (by omega) (by omega)
          rw [g3]
          unfold toD
          dsimp only; omega
      have hI2 := hI.2.1
      generalize it (spF (toD W R) M i q y) (100000, []) g = s at hI2 hb IH ⊢
      have hbit := iBit (s := M) (i := g) (by omega) (by omega)
      by_cases z : M.testBit g = true
      · rw [if_pos z] at hbit
        obtain ⟨q1, q2, q3⟩ := hq g (by omega) z
        have hT := T_X8_minutesBy hh hW hR hG hM hi (show g < G by omega) q1 q2 q3
        have r2 := hR g (by omega)
        have wb := hW (R i * 9 + R g) (by omega) (by omega)
        have wb : 0 ≤ toD W R i g ∧ toD W R i g ≤ 100000 := wb
        rw [show (spF (toD W R) M i q y g s).1 = min s.1 (toD W R i g + (q g).1) by
          unfold spF
          by_cases u : toD W R i g + (q g).1 < s.1
          · rw [if_pos ⟨z, u⟩]; dsimp only; omega
          · rw [if_neg (fun w => u w.2)]; omega] at IH
        refine R_iload dX8_fewestBy_7 rfl (?_ : RR _ _ _ _ 9 _ _ _ _)
        refine R_aload_n dX8_fewestBy_9 rfl (?_ : RR _ _ _ _ 10 _ _ _ _)
        refine R_geti (z := 1) dX8_fewestBy_10 flX8_18 cok_8 rfl (by decide) rfl (fun q10 => (?_ : RR _ _ _ _ 13 _ _ _ _))
        rw [e1] at q10 ⊢
        refine R_icmp_ge (t := 48) dX8_fewestBy_13 rfl (fun c13 => ?_) (fun c13 => ?_)
        · exfalso; omega
        refine R_iload_n dX8_fewestBy_16 rfl (?_ : RR _ _ _ _ 17 _ _ _ _)
        refine R_iload dX8_fewestBy_17 rfl (?_ : RR _ _ _ _ 19 _ _ _ _)
        refine R_ishr dX8_fewestBy_19 (?_ : RR _ _ _ _ 20 _ _ _ _)
        refine R_iconst dX8_fewestBy_20 (?_ : RR _ _ _ _ 21 _ _ _ _)
        refine R_iand dX8_fewestBy_21 (?_ : RR _ _ _ _ 22 _ _ _ _)
        rw [hbit]
        refine R_iconst dX8_fewestBy_22 (?_ : RR _ _ _ _ 23 _ _ _ _)
        refine R_icmp_ne (t := 42) dX8_fewestBy_23 rfl (fun c23 => ?_) (fun c23 => ?_)
        · exfalso; omega
        refine R_iload dX8_fewestBy_26 rfl (?_ : RR _ _ _ _ 28 _ _ _ _)
        refine R_aload_n dX8_fewestBy_28 rfl (?_ : RR _ _ _ _ 29 _ _ _ _)
        refine R_aload_n dX8_fewestBy_29 rfl (?_ : RR _ _ _ _ 30 _ _ _ _)
        refine R_iload_n dX8_fewestBy_30 rfl (?_ : RR _ _ _ _ 31 _ _ _ _)
        refine R_iload_n dX8_fewestBy_31 rfl (?_ : RR _ _ _ _ 32 _ _ _ _)
        refine R_iload dX8_fewestBy_32 rfl (?_ : RR _ _ _ _ 34 _ _ _ _)
        refine R_cVi4 dX8_fewestBy_34 mvX8_minutesBy mlX8_45 (by decide) (by decide) (Nat.le_of_ble_eq_true rfl) (Nat.le_of_ble_eq_true rfl) (hT) (?_ : RR _ _ _ _ 37 _ _ _ _)
        refine R_min dX8_fewestBy_37 mmX8_49 (by decide) (Nat.le_of_ble_eq_true rfl) (?_ : RR _ _ _ _ 40 _ _ _ _)
        refine R_istore dX8_fewestBy_40 (Nat.le_of_ble_eq_true rfl) (?_ : RR _ _ _ _ 42 [_, _, _, _, _, _] _ _ _)
        refine R_iinc dX8_fewestBy_42 rfl (Nat.le_of_ble_eq_true rfl) (?_ : RR _ _ _ _ 45 [_, _, _, _, _, _] _ _ _)
        refine R_goto (t := 7) dX8_fewestBy_45 rfl (?_ : RR _ _ _ _ 7 _ _ _ _)
        exact IH
      · rw [if_neg z] at hbit
        rw [show spF (toD W R) M i q y g s = s by unfold spF; rw [if_neg (fun w => z w.1)]] at IH
        refine R_iload dX8_fewestBy_7 rfl (?_ : RR _ _ _ _ 9 _ _ _ _)
        refine R_aload_n dX8_fewestBy_9 rfl (?_ : RR _ _ _ _ 10 _ _ _ _)
        refine R_geti (z := 1) dX8_fewestBy_10 flX8_18 cok_8 rfl (by decide) rfl (fun q10 => (?_ : RR _ _ _ _ 13 _ _ _ _))
        rw [e1] at q10 ⊢
        refine R_icmp_ge (t := 48) dX8_fewestBy_13 rfl (fun c13 => ?_) (fun c13 => ?_)
        · exfalso; omega
        refine R_iload_n dX8_fewestBy_16 rfl (?_ : RR _ _ _ _ 17 _ _ _ _)
        refine R_iload dX8_fewestBy_17 rfl (?_ : RR _ _ _ _ 19 _ _ _ _)
        refine R_ishr dX8_fewestBy_19 (?_ : RR _ _ _ _ 20 _ _ _ _)
        refine R_iconst dX8_fewestBy_20 (?_ : RR _ _ _ _ 21 _ _ _ _)
        refine R_iand dX8_fewestBy_21 (?_ : RR _ _ _ _ 22 _ _ _ _)
        rw [hbit]
        refine R_iconst dX8_fewestBy_22 (?_ : RR _ _ _ _ 23 _ _ _ _)
        refine R_icmp_ne (t := 42) dX8_fewestBy_23 rfl (fun c23 => ?_) (fun c23 => ?_)
        rotate_left
        · exfalso; omega
        refine R_iinc dX8_fewestBy_42 rfl (Nat.le_of_ble_eq_true rfl) (?_ : RR _ _ _ _ 45 [_, _, _, _, _, _] _ _ _)
        refine R_goto (t := 7) dX8_fewestBy_45 rfl (?_ : RR _ _ _ _ 7 _ _ _ _)
        exact IH
  refine R_ldc (z := 100000) dX8_fewestBy_0 kwX8_44 (?_ : RR _ _ _ _ 2 _ _ _ _)
  refine R_istore dX8_fewestBy_2 (Nat.le_of_ble_eq_true rfl) (?_ : RR _ _ _ _ 4 [_, _, _, _, _, _] _ _ _)
  refine R_iconst dX8_fewestBy_4 (?_ : RR _ _ _ _ 5 _ _ _ _)
  refine R_istore dX8_fewestBy_5 (Nat.le_of_ble_eq_true rfl) (?_ : RR _ _ _ _ 7 [_, _, _, _, _, _] _ _ _)
  exact L G 0 (by omega)
def tdF (h h1 : Nat → Int → Int) : Prop := ∀ a, a ≠ 142 → a ≠ 143 → a ≠ 144 → h1 a = h a
def tbP (W R : Int → Int) (G : Nat) (en : Int) (f : Int → Int) (M : Nat) : Prop := ∀ M' : Nat, M' < M → ∀ i : Nat, i ≤ G → f (M' * 7 + i) = (toS W R G en (pop 12 M') M' i).1
theorem oth_less {M g : Nat} (hM : M < 4096) (hg : M.testBit g = true) : oth M g < M := by
  have h1 : sub2 (oth M g) M := fun i hi => by
    rw [oth_bit hM] at hi
    simp only [Bool.and_eq_true] at hi
    exact hi.1
  have h2 := sub2_le h1
  have h3 : oth M g ≠ M := fun z => by
    have := oth_bit (p := g) (i := g) hM
    rw [z, hg] at this
    simp at this
  omega
theorem pop_pos {M : Nat} (hM : M < 4096) (h1 : 1 ≤ M) : ∃ n, pop 12 M = n + 1 := by
  cases q : pop 12 M with
  | zero => have := pop_z 12 M hM q; omega
  | succ n => exact ⟨n, rfl⟩
theorem PL_129 {Q : Option PV → PH → Prop} {M n : Nat} (hW : bnd W) (hR : ∀ g : Nat, g ≤ G → 0 ≤ R g ∧ R g < 9) (hG : G ≤ 6) (hM : M < 64) (hn : pop 12 M = n + 1) (hb : ∀ (n M i : Nat), n ≤ 12 → i ≤ G → 0 ≤ (toS W R G en n M i).1 ∧ (toS W R G en n M i).1 ≤ 100000) (KK : ∀ (h2 : Nat → Int → Int) (w5 : PV), tdF h h2 → toH W R G h2 → tbP W R G en (h2 144) (M + 1) → RR mX8_plan 3 0 0 115 [pR 142, pR 3, pR 14, pI en, pI ((M : Int) + 1), w5] [] (shp0, rf0, h2) Q) : ∀ (j i : Nat) (h1 : Nat → Int → Int), i + j = G + 1 → tdF h h1 → toH W R G h1 → tbP W R G en (h1 144) M → (∀ i' : Nat, i' < i → h1 144 (M * 7 + i') = (toS W R G en (n + 1) M i').1) → RR mX8_plan 3 0 0 129 [pR 142, pR 3, pR 14, pI en, pI M, pI i] [] (shp0, rf0, h1) Q := by
  intro j
  induction j with
  | zero =>
    intro i h1 hi hf hh ht hrow
    obtain rfl : i = G + 1 := by omega
    have e1 := hh.2.1
    have K := fun w5 => KK h1 w5 hf hh (fun M' hM' i' hi' => by
      by_cases z : M' = M
      · subst z; rw [hn]; exact hrow i' (by omega)
      · exact ht M' (by omega) i' hi')
    refine R_iload dX8_plan_129 rfl (?_ : RR _ _ _ _ 131 _ _ _ _)
    refine R_aload_n dX8_plan_131 rfl (?_ : RR _ _ _ _ 132 _ _ _ _)
    refine R_geti (z := 1) dX8_plan_132 flX8_18 cok_8 rfl (by decide) rfl (fun q132 => (?_ : RR _ _ _ _ 135 _ _ _ _))
    rw [e1] at q132 ⊢
    refine R_icmp_gt (t := 166) dX8_plan_135 rfl (fun c135 => ?_) (fun c135 => ?_)
    rotate_left
    · exfalso; omega
    refine R_iinc dX8_plan_166 rfl (Nat.le_of_ble_eq_true rfl) (?_ : RR _ _ _ _ 169 [_, _, _, _, _, _] _ _ _)
    refine R_goto (t := 115) dX8_plan_169 rfl (?_ : RR _ _ _ _ 115 _ _ _ _)
    exact K _
  | succ j ih =>
    intro i h1 hi hf hh ht hrow
    have e1 := hh.2.1
    have hT := T_X8_fewestBy (M := M) (i := i) (q := fun g => toS W R G en n (oth M g) g) (y := fun g => R g) hh hW hR hG hM (by omega) (fun g hg hz => by
      have hl := oth_less (show M < 4096 by omega) hz
      have hp := pop_oth (show M < 4096 by omega) hz
      have := ht (oth M g) hl g (by omega)
      rw [show pop 12 (oth M g) = n by omega] at this
      exact ⟨this, hb n (oth M g) g (by have := pop_le 12 M; omega) (by omega), by omega⟩)
    rw [show it (spF (toD W R) M i (fun g => toS W R G en n (oth M g) g) (fun g => R g)) (100000, []) G = toS W R G en (n + 1) M i from rfl] at hT
    have hv := hb (n + 1) M i (by have := pop_le 12 M; omega) (by omega)
    generalize hz : (toS W R G en (n + 1) M i).1 = z at hT hv
    have IH := ih (i + 1) (rup h1 144 (fup (h1 144) (M * 7 + i) z)) (by omega) (fun a a1 a2 a3 => by rw [rup_n a3]; exact hf a a1 a2 a3) ⟨by rw [rup_n (by omega)]; exact hh.1, by rw [rup_n (by omega)]; exact hh.2.1, by rw [rup_n (by omega)]; exact hh.2.2⟩ (fun M' hM' i' hi' => by rw [rup_s, fup_n (by omega)]; exact ht M' hM' i' hi') (fun i' hi' => by
      rw [rup_s]
      by_cases w : i' = i
      · subst w; rw [fup_s]; exact hz.symm
      · rw [fup_n (by omega)]; exact hrow i' (by omega))
    refine R_iload dX8_plan_129 rfl (?_ : RR _ _ _ _ 131 _ _ _ _)
    refine R_aload_n dX8_plan_131 rfl (?_ : RR _ _ _ _ 132 _ _ _ _)
    refine R_geti (z := 1) dX8_plan_132 flX8_18 cok_8 rfl (by decide) rfl (fun q132 => (?_ : RR _ _ _ _ 135 _ _ _ _))
    rw [e1] at q132 ⊢
    refine R_icmp_gt (t := 166) dX8_plan_135 rfl (fun c135 => ?_) (fun c135 => ?_)
    · exfalso; omega
    refine R_aload_n dX8_plan_138 rfl (?_ : RR _ _ _ _ 139 _ _ _ _)
    refine R_getr dX8_plan_139 flX8_15 cok_8 rfl (by decide) (?_ : RR _ _ _ _ 142 _ _ _ _)
    refine R_iload dX8_plan_142 rfl (?_ : RR _ _ _ _ 144 _ _ _ _)
    refine R_bipush dX8_plan_144 rfl (?_ : RR _ _ _ _ 146 _ _ _ _)
    refine R_imul dX8_plan_146 (?_ : RR _ _ _ _ 147 _ _ _ _)
    refine R_iload dX8_plan_147 rfl (?_ : RR _ _ _ _ 149 _ _ _ _)
    refine R_iadd dX8_plan_149 (?_ : RR _ _ _ _ 150 _ _ _ _)
    refine R_aload_n dX8_plan_150 rfl (?_ : RR _ _ _ _ 151 _ _ _ _)
    refine R_aload_n dX8_plan_151 rfl (?_ : RR _ _ _ _ 152 _ _ _ _)
    refine R_iload dX8_plan_152 rfl (?_ : RR _ _ _ _ 154 _ _ _ _)
    refine R_iload dX8_plan_154 rfl (?_ : RR _ _ _ _ 156 _ _ _ _)
    refine R_cVi3 dX8_plan_156 mvX8_fewestBy mlX8_40 (by decide) (by decide) (Nat.le_of_ble_eq_true rfl) (Nat.le_of_ble_eq_true rfl) (hT) (?_ : RR _ _ _ _ 159 _ _ _ _)
    refine R_iast dX8_plan_159 (?_ : RR _ _ _ _ 160 _ _ _ _)
    refine R_iinc dX8_plan_160 rfl (Nat.le_of_ble_eq_true rfl) (?_ : RR _ _ _ _ 163 [_, _, _, _, _, _] _ _ _)
    refine R_goto (t := 129) dX8_plan_163 rfl (?_ : RR _ _ _ _ 129 _ _ _ _)
    exact IH
theorem PL_115 {Q : Option PV → PH → Prop} {K : Nat} (hW : bnd W) (hR : ∀ g : Nat, g ≤ G → 0 ≤ R g ∧ R g < 9) (hG : G ≤ 6) (hK : K = 2 ^ G) (hK64 : K ≤ 64) (hb : ∀ (n M i : Nat), n ≤ 12 → i ≤ G → 0 ≤ (toS W R G en n M i).1 ∧ (toS W R G en n M i).1 ≤ 100000) (KK : ∀ (h2 : Nat → Int → Int), tdF h h2 → toH W R G h2 → tbP W R G en (h2 144) K → Q none (shp0, rf0, h2)) : ∀ (j M : Nat) (h1 : Nat → Int → Int) (w5 : PV), 1 ≤ M → M + j = K → tdF h h1 → toH W R G h1 → tbP W R G en (h1 144) M → RR mX8_plan 3 0 0 115 [pR 142, pR 3, pR 14, pI en, pI M, w5] [] (shp0, rf0, h1) Q := by
  have hsh := iShl_one G (by omega)
  rw [← hK] at hsh
  intro j
  induction j with
  | zero =>
    intro M h1 w5 hM1 hM hf hh ht
    obtain rfl : M = K := by omega
    have e1 := hh.2.1
    have hq := KK h1 hf hh ht
    refine R_iload dX8_plan_115 rfl (?_ : RR _ _ _ _ 117 _ _ _ _)
    refine R_iconst dX8_plan_117 (?_ : RR _ _ _ _ 118 _ _ _ _)
    refine R_aload_n dX8_plan_118 rfl (?_ : RR _ _ _ _ 119 _ _ _ _)
    refine R_geti (z := 1) dX8_plan_119 flX8_18 cok_8 rfl (by decide) rfl (fun q119 => (?_ : RR _ _ _ _ 122 _ _ _ _))
    rw [e1] at q119 ⊢
    refine R_ishl dX8_plan_122 (?_ : RR _ _ _ _ 123 _ _ _ _)
    rw [hsh]
    refine R_icmp_ge (t := 172) dX8_plan_123 rfl (fun c123 => ?_) (fun c123 => ?_)
    rotate_left
    · exfalso; omega
    exact R_return dX8_plan_172 trivial hq
  | succ j ih =>
    intro M h1 w5 hM1 hM hf hh ht
    have e1 := hh.2.1
    obtain ⟨n, hn⟩ := pop_pos (show M < 4096 by omega) hM1
    have K2 := PL_129 (h := h) (Q := Q) hW hR hG (show M < 64 by omega) hn hb (fun h2 w5 f2 t2 p2 => ih (M + 1) h2 w5 (by omega) (by omega) f2 t2 p2) (G + 1) 0 h1 (by omega) hf hh ht (fun i' hi' => by omega)
    refine R_iload dX8_plan_115 rfl (?_ : RR _ _ _ _ 117 _ _ _ _)
    refine R_iconst dX8_plan_117 (?_ : RR _ _ _ _ 118 _ _ _ _)
    refine R_aload_n dX8_plan_118 rfl (?_ : RR _ _ _ _ 119 _ _ _ _)
    refine R_geti (z := 1) dX8_plan_119 flX8_18 cok_8 rfl (by decide) rfl (fun q119 => (?_ : RR _ _ _ _ 122 _ _ _ _))
    rw [e1] at q119 ⊢
    refine R_ishl dX8_plan_122 (?_ : RR _ _ _ _ 123 _ _ _ _)
    rw [hsh]
    refine R_icmp_ge (t := 172) dX8_plan_123 rfl (fun c123 => ?_) (fun c123 => ?_)
    · exfalso; omega
    refine R_iconst dX8_plan_126 (?_ : RR _ _ _ _ 127 _ _ _ _)
    refine R_istore dX8_plan_127 (Nat.le_of_ble_eq_true rfl) (?_ : RR _ _ _ _ 129 [_, _, _, _, _, _] _ _ _)
    exact K2
theorem PL_78 {Q : Option PV → PH → Prop} (hen : 0 ≤ en ∧ en < 9) (hW : bnd W) (hR : ∀ g : Nat, g ≤ G → 0 ≤ R g ∧ R g < 9) (hG : G ≤ 6) (KK : ∀ (h2 : Nat → Int → Int) (w4 w5 : PV), tdF h h2 → toH W R G h2 → tbP W R G en (h2 144) 1 → RR mX8_plan 3 0 0 112 [pR 142, pR 3, pR 14, pI en, pI ((G + 1 : Nat) : Int), pU] [] (shp0, rf0, h2) Q) : ∀ (j i : Nat) (h1 : Nat → Int → Int), i + j = G + 1 → tdF h h1 → toH W R G h1 → (∀ i' : Nat, i' < i → h1 144 i' = toE W R en i') → RR mX8_plan 3 0 0 78 [pR 142, pR 3, pR 14, pI en, pI i, pU] [] (shp0, rf0, h1) Q := by
  have n3 := isNet_3
  intro j
  induction j with
  | zero =>
    intro i h1 hi hf hh ht
    obtain rfl : i = G + 1 := by omega
    have e1 := hh.2.1
    have K := KK h1 pU pU hf hh (fun M' hM' i' hi' => by
      obtain rfl : M' = 0 := by omega
      rw [pop_0, show ((0 : Nat) : Int) * 7 + (i' : Int) = i' by omega]
      exact ht i' (by omega))
    refine R_iload dX8_plan_78 rfl (?_ : RR _ _ _ _ 80 _ _ _ _)
    refine R_aload_n dX8_plan_80 rfl (?_ : RR _ _ _ _ 81 _ _ _ _)
    refine R_geti (z := 1) dX8_plan_81 flX8_18 cok_8 rfl (by decide) rfl (fun q81 => (?_ : RR _ _ _ _ 84 _ _ _ _))
    rw [e1] at q81 ⊢
    refine R_icmp_gt (t := 112) dX8_plan_84 rfl (fun c84 => ?_) (fun c84 => ?_)
    rotate_left
    · exfalso; omega
    exact K
  | succ j ih =>
    intro i h1 hi hf hh ht
    obtain ⟨e6, e1, e3⟩ := id hh
    have r1 := hR i (by omega)
    have wb := hW (R i * 9 + en) (by omega) (by omega)
    have IH := ih (i + 1) (rup h1 144 (fup (h1 144) i (W (R i * 9 + en)))) (by omega) (fun a a1 a2 a3 => by rw [rup_n a3]; exact hf a a1 a2 a3) ⟨by rw [rup_n (by omega)]; exact hh.1, by rw [rup_n (by omega)]; exact hh.2.1, by rw [rup_n (by omega)]; exact hh.2.2⟩ (fun i' hi' => by
      rw [rup_s]
      by_cases w : i' = i
      · subst w; rw [fup_s]; rfl
      · rw [fup_n (by omega)]; exact ht i' (by omega))
    refine R_iload dX8_plan_78 rfl (?_ : RR _ _ _ _ 80 _ _ _ _)
    refine R_aload_n dX8_plan_80 rfl (?_ : RR _ _ _ _ 81 _ _ _ _)
    refine R_geti (z := 1) dX8_plan_81 flX8_18 cok_8 rfl (by decide) rfl (fun q81 => (?_ : RR _ _ _ _ 84 _ _ _ _))
    rw [e1] at q81 ⊢
    refine R_icmp_gt (t := 112) dX8_plan_84 rfl (fun c84 => ?_) (fun c84 => ?_)
    · exfalso; omega
    refine R_aload_n dX8_plan_87 rfl (?_ : RR _ _ _ _ 88 _ _ _ _)
    refine R_getr dX8_plan_88 flX8_15 cok_8 rfl (by decide) (?_ : RR _ _ _ _ 91 _ _ _ _)
    refine R_iload dX8_plan_91 rfl (?_ : RR _ _ _ _ 93 _ _ _ _)
    refine R_aload_n dX8_plan_93 rfl (?_ : RR _ _ _ _ 94 _ _ _ _)
    refine R_aload_n dX8_plan_94 rfl (?_ : RR _ _ _ _ 95 _ _ _ _)
    refine R_getr dX8_plan_95 flX8_11 cok_8 rfl (by decide) (?_ : RR _ _ _ _ 98 _ _ _ _)
    refine R_iload dX8_plan_98 rfl (?_ : RR _ _ _ _ 100 _ _ _ _)
    refine R_iald dX8_plan_100 (fun q100 => (?_ : RR _ _ _ _ 101 _ _ _ _))
    rw [e3] at q100 ⊢
    refine R_iload_n dX8_plan_101 rfl (?_ : RR _ _ _ _ 102 _ _ _ _)
    refine R_cVi2 dX8_plan_102 mvX0_between mlX8_36 (by decide) (by decide) (Nat.le_of_ble_eq_true rfl) (Nat.le_of_ble_eq_true rfl) (T_X0_between) (?_ : RR _ _ _ _ 105 _ _ _ _)
    rw [show h1 (3 + 3) = W from e6]
    refine R_iast dX8_plan_105 (?_ : RR _ _ _ _ 106 _ _ _ _)
    refine R_iinc dX8_plan_106 rfl (Nat.le_of_ble_eq_true rfl) (?_ : RR _ _ _ _ 109 [_, _, _, _, _, _] _ _ _)
    refine R_goto (t := 78) dX8_plan_109 rfl (?_ : RR _ _ _ _ 78 _ _ _ _)
    exact IH
theorem C_plan {H nc : Nat} {st : Nat → Bool} {K : Nat} (hen : 0 ≤ en ∧ en < 9) (hH : h 3 0 = H) (hH9 : H ≤ 9) (hnc : h 14 2 = nc) (h6 : nc ≤ 6) (hst : ∀ c : Nat, c < H → (bset (fun j => decide (h (14 + 2) j = -1 ∧ h (14 + 3) j = (c : Int))) nc ≠ 0 ↔ st c = true)) (hs6 : cG st H ≤ 6) (hGe : G = cG st H) (hRe : R = fup (ptR st (h 143) H) G (h 14 0)) (he0 : 0 ≤ h 14 0 ∧ h 14 0 < 9) (hWe : h 6 = W) (hW : bnd W) (hK : K = 2 ^ G) (hb : ∀ (n M i : Nat), n ≤ 12 → i ≤ G → 0 ≤ (toS W R G en n M i).1 ∧ (toS W R G en n M i).1 ≤ 100000) : RR mX8_plan 3 0 0 0 (pm_ent [pR 142, pR 3, pR 14, pI en] 6) [] (shp0, rf0, h) (fun r' g' => r' = none ∧ ∃ h2, g' = (shp0, rf0, h2) ∧ tdF h h2 ∧ toH W R G h2 ∧ tbP W R G en (h2 144) K) := by
  have t14 := isTr_14
  have hG : G ≤ 6 := by omega
  have hK64 : K ≤ 64 := by rw [hK]; exact Nat.pow_le_pow_right (n := 2) (by omega) hG
  have hR : ∀ g : Nat, g ≤ G → 0 ≤ R g ∧ R g < 9 := fun g hg => by
    rw [hRe]
    by_cases z : g = G
    · rw [z, fup_s]; exact he0
    · rw [fup_n (by omega)]
      obtain ⟨c, c1, c2, c3, c4⟩ := ptR_p (st := st) (p0 := h 143) H g (by omega)
      rw [c4]; omega
  show RR _ _ _ _ _ [pR 142, pR 3, pR 14, pI en, pU, pU] _ _ _
  suffices hS : ∀ Q : Option PV → PH → Prop, (∀ h2, tdF h h2 → toH W R G h2 → tbP W R G en (h2 144) K → Q none (shp0, rf0, h2)) → RR mX8_plan 3 0 0 0 [pR 142, pR 3, pR 14, pI en, pU, pU] [] (shp0, rf0, h) Q from hS _ (fun h2 q1 q2 q3 => ⟨rfl, h2, rfl, q1, q2, q3⟩)
  intro Q hQ
  have K115 := PL_115 (h := h) (Q := Q) hW hR hG hK hK64 hb hQ
  have K1 : 1 ≤ K := by rw [hK]; exact Nat.pow_pos (by omega)
  have K112 : ∀ (h2 : Nat → Int → Int) (w4 w5 : PV), tdF h h2 → toH W R G h2 → tbP W R G en (h2 144) 1 → RR mX8_plan 3 0 0 112 [pR 142, pR 3, pR 14, pI en, pI ((G + 1 : Nat) : Int), pU] [] (shp0, rf0, h2) Q := by
    intro h2 w4 w5 f2 t2 p2
    have KK := K115 (K - 1) 1 h2 pU (by omega) (by omega) f2 t2 p2
    refine R_iconst dX8_plan_112 (?_ : RR _ _ _ _ 113 _ _ _ _)
    refine R_istore dX8_plan_113 (Nat.le_of_ble_eq_true rfl) (?_ : RR _ _ _ _ 115 [_, _, _, _, _, _] _ _ _)
    exact KK
  have K78 := PL_78 (h := h) (Q := Q) hen hW hR hG K112 (G + 1) 0
  have L : ∀ (j c : Nat) (h1 : Nat → Int → Int), c + j = H → tdF h h1 → h1 142 1 = cG st c → h1 143 = ptR st (h 143) c → RR mX8_plan 3 0 0 8 [pR 142, pR 3, pR 14, pI en, pI c, pU] [] (shp0, rf0, h1) Q := by
    intro j
    induction j with
    | zero =>
      intro c h1 hc hf e1 e3
      obtain rfl : c = H := by omega
      have g3 : h1 3 0 = c := by rw [hf 3 (by omega) (by omega) (by omega)]; exact hH
      have g14 : h1 14 0 = h 14 0 := by rw [hf 14 (by omega) (by omega) (by omega)]
      rw [← hGe] at e1
      have KK := K78 (rup h1 143 (fup (h1 143) G (h 14 0))) (by omega) (fun a a1 a2 a3 => by rw [rup_n a2]; exact hf a a1 a2 a3) ⟨by rw [rup_n (by omega), hf 6 (by omega) (by omega) (by omega)]; exact hWe, by rw [rup_n (by omega)]; exact e1, by rw [rup_s, e3]; exact hRe.symm⟩ (fun i' hi' => by omega)
      refine R_iload dX8_plan_8 rfl (?_ : RR _ _ _ _ 10 _ _ _ _)
      refine R_aload_n dX8_plan_10 rfl (?_ : RR _ _ _ _ 11 _ _ _ _)
      refine R_geti (z := 0) dX8_plan_11 flX8_22 cok_0 rfl (by decide) rfl (fun q11 => (?_ : RR _ _ _ _ 14 _ _ _ _))
      rw [g3] at q11 ⊢
      refine R_icmp_ge (t := 62) dX8_plan_14 rfl (fun c14 => ?_) (fun c14 => ?_)
      rotate_left
      · exfalso; omega
      refine R_aload_n dX8_plan_62 rfl (?_ : RR _ _ _ _ 63 _ _ _ _)
      refine R_getr dX8_plan_63 flX8_11 cok_8 rfl (by decide) (?_ : RR _ _ _ _ 66 _ _ _ _)
      refine R_aload_n dX8_plan_66 rfl (?_ : RR _ _ _ _ 67 _ _ _ _)
      refine R_geti (z := 1) dX8_plan_67 flX8_18 cok_8 rfl (by decide) rfl (fun q67 => (?_ : RR _ _ _ _ 70 _ _ _ _))
      rw [e1] at q67 ⊢
      refine R_aload_n dX8_plan_70 rfl (?_ : RR _ _ _ _ 71 _ _ _ _)
      refine R_geti (z := 0) dX8_plan_71 flX8_33 cok_9 rfl (by decide) rfl (fun q71 => (?_ : RR _ _ _ _ 74 _ _ _ _))
      rw [g14] at q71 ⊢
      refine R_iast dX8_plan_74 (?_ : RR _ _ _ _ 75 _ _ _ _)
      refine R_iconst dX8_plan_75 (?_ : RR _ _ _ _ 76 _ _ _ _)
      refine R_istore dX8_plan_76 (Nat.le_of_ble_eq_true rfl) (?_ : RR _ _ _ _ 78 [_, _, _, _, _, _] _ _ _)
      exact KK
    | succ j ih =>
      intro c h1 hc hf e1 e3
      have g3 : h1 3 0 = H := by rw [hf 3 (by omega) (by omega) (by omega)]; exact hH
      have hT := T_X9_standingAt (t := 14) (n := nc) (c := (c : Int)) (h := h1) (by rw [hf 14 (by omega) (by omega) (by omega)]; exact hnc)
      rw [hf (14 + 2) (by omega) (by omega) (by omega), hf (14 + 3) (by omega) (by omega) (by omega)] at hT
      have hb0 := bset_31 (P := fun j => decide (h (14 + 2) j = -1 ∧ h (14 + 3) j = (c : Int))) (n := nc) (by omega)
      have hsc := hst c (by omega)
      generalize bset (fun j => decide (h (14 + 2) j = -1 ∧ h (14 + 3) j = (c : Int))) nc = B at hT hsc hb0
      have eP : ptR st (h 143) (c + 1) = if st c then fup (ptR st (h 143) c) (cG st c) c else ptR st (h 143) c := rfl
      have eC : cG st (c + 1) = cG st c + (if st c then 1 else 0) := rfl
      have hmo := cG_mono (st := st) (show c ≤ H by omega)
      by_cases z : st c = true
      · have hB := hsc.mpr z
        have hc5 := cG_t z (show c < H by omega)
        rw [z] at eP eC
        have IH := ih (c + 1) (rup (rup h1 143 (fup (h1 143) (cG st c) c)) 142 (fup (h1 142) 1 ((cG st c : Int) + 1))) (by omega) (fun a a1 a2 a3 => by rw [rup_n a1, rup_n a2]; exact hf a a1 a2 a3) (by rw [rup_s, fup_s, eC]; simp) (by rw [rup_n (by omega), rup_s, e3, eP]; simp)
        refine R_iload dX8_plan_8 rfl (?_ : RR _ _ _ _ 10 _ _ _ _)
        refine R_aload_n dX8_plan_10 rfl (?_ : RR _ _ _ _ 11 _ _ _ _)
        refine R_geti (z := 0) dX8_plan_11 flX8_22 cok_0 rfl (by decide) rfl (fun q11 => (?_ : RR _ _ _ _ 14 _ _ _ _))
        rw [g3] at q11 ⊢
        refine R_icmp_ge (t := 62) dX8_plan_14 rfl (fun c14 => ?_) (fun c14 => ?_)
        · exfalso; omega
        refine R_aload_n dX8_plan_17 rfl (?_ : RR _ _ _ _ 18 _ _ _ _)
        refine R_iload dX8_plan_18 rfl (?_ : RR _ _ _ _ 20 _ _ _ _)
        refine R_cVi1 dX8_plan_20 mvX9_standingAt mlX8_27 (by decide) (by decide) (Nat.le_of_ble_eq_true rfl) (Nat.le_of_ble_eq_true rfl) (hT) (?_ : RR _ _ _ _ 23 _ _ _ _)
        refine R_if_eq (t := 56) dX8_plan_23 rfl (fun c23 => ?_) (fun c23 => ?_)
        · exfalso; omega
        refine R_aload_n dX8_plan_26 rfl (?_ : RR _ _ _ _ 27 _ _ _ _)
        refine R_geti (z := 1) dX8_plan_27 flX8_18 cok_8 rfl (by decide) rfl (fun q27 => (?_ : RR _ _ _ _ 30 _ _ _ _))
        rw [e1] at q27 ⊢
        refine R_bipush dX8_plan_30 rfl (?_ : RR _ _ _ _ 32 _ _ _ _)
        refine R_icmp_ge (t := 56) dX8_plan_32 rfl (fun c32 => ?_) (fun c32 => ?_)
        · exfalso; omega
        refine R_aload_n dX8_plan_35 rfl (?_ : RR _ _ _ _ 36 _ _ _ _)
        refine R_getr dX8_plan_36 flX8_11 cok_8 rfl (by decide) (?_ : RR _ _ _ _ 39 _ _ _ _)
        refine R_aload_n dX8_plan_39 rfl (?_ : RR _ _ _ _ 40 _ _ _ _)
        refine R_geti (z := 1) dX8_plan_40 flX8_18 cok_8 rfl (by decide) rfl (fun q40 => (?_ : RR _ _ _ _ 43 _ _ _ _))
        rw [e1] at q40 ⊢
        refine R_iload dX8_plan_43 rfl (?_ : RR _ _ _ _ 45 _ _ _ _)
        refine R_iast dX8_plan_45 (?_ : RR _ _ _ _ 46 _ _ _ _)
        refine R_aload_n dX8_plan_46 rfl (?_ : RR _ _ _ _ 47 _ _ _ _)
        refine R_dup dX8_plan_47 (fun _ => rfl) (?_ : RR _ _ _ _ 48 _ _ _ _)
        refine R_geti (z := 1) dX8_plan_48 flX8_18 cok_8 rfl (by decide) rfl (fun q48 => (?_ : RR _ _ _ _ 51 _ _ _ _))
        simp (disch := omega) only [rup_n, e1] at q48 ⊢
        refine R_iconst dX8_plan_51 (?_ : RR _ _ _ _ 52 _ _ _ _)
        refine R_iadd dX8_plan_52 (?_ : RR _ _ _ _ 53 _ _ _ _)
        refine R_puti (zk := 1) dX8_plan_53 flX8_18 cok_8 (by decide) (fun q hq => by cases hq; rfl) rfl (?_ : RR _ _ _ _ 56 _ _ _ _)
        simp (disch := omega) only [rup_n]
        refine R_iinc dX8_plan_56 rfl (Nat.le_of_ble_eq_true rfl) (?_ : RR _ _ _ _ 59 [_, _, _, _, _, _] _ _ _)
        refine R_goto (t := 8) dX8_plan_59 rfl (?_ : RR _ _ _ _ 8 _ _ _ _)
        exact IH
      · have hB : B = 0 := Decidable.byContradiction (fun w => z (hsc.mp w))
        rw [show st c = false by simpa using z] at eP eC
        have IH := ih (c + 1) h1 (by omega) hf (by rw [e1, eC]; simp) (by rw [e3, eP]; simp)
        refine R_iload dX8_plan_8 rfl (?_ : RR _ _ _ _ 10 _ _ _ _)
        refine R_aload_n dX8_plan_10 rfl (?_ : RR _ _ _ _ 11 _ _ _ _)
        refine R_geti (z := 0) dX8_plan_11 flX8_22 cok_0 rfl (by decide) rfl (fun q11 => (?_ : RR _ _ _ _ 14 _ _ _ _))
        rw [g3] at q11 ⊢
        refine R_icmp_ge (t := 62) dX8_plan_14 rfl (fun c14 => ?_) (fun c14 => ?_)
        · exfalso; omega
        refine R_aload_n dX8_plan_17 rfl (?_ : RR _ _ _ _ 18 _ _ _ _)
        refine R_iload dX8_plan_18 rfl (?_ : RR _ _ _ _ 20 _ _ _ _)
        refine R_cVi1 dX8_plan_20 mvX9_standingAt mlX8_27 (by decide) (by decide) (Nat.le_of_ble_eq_true rfl) (Nat.le_of_ble_eq_true rfl) (hT) (?_ : RR _ _ _ _ 23 _ _ _ _)
        refine R_if_eq (t := 56) dX8_plan_23 rfl (fun c23 => ?_) (fun c23 => ?_)
        rotate_left
        · exfalso; omega
        refine R_iinc dX8_plan_56 rfl (Nat.le_of_ble_eq_true rfl) (?_ : RR _ _ _ _ 59 [_, _, _, _, _, _] _ _ _)
        refine R_goto (t := 8) dX8_plan_59 rfl (?_ : RR _ _ _ _ 8 _ _ _ _)
        exact IH
  have hf0 : tdF h (rup h 142 (fup (h 142) 1 0)) := fun a a1 a2 a3 => rup_n a1
  have L0 := L H 0 (rup h 142 (fup (h 142) 1 0)) (by omega) hf0 (by rw [rup_s, fup_s]; rfl) (by rw [rup_n (by omega)]; rfl)
  refine R_aload_n dX8_plan_0 rfl (?_ : RR _ _ _ _ 1 _ _ _ _)
  refine R_iconst dX8_plan_1 (?_ : RR _ _ _ _ 2 _ _ _ _)
  refine R_puti (zk := 1) dX8_plan_2 flX8_18 cok_8 (by decide) (fun q hq => by cases hq; rfl) rfl (?_ : RR _ _ _ _ 5 _ _ _ _)
  refine R_iconst dX8_plan_5 (?_ : RR _ _ _ _ 6 _ _ _ _)
  refine R_istore dX8_plan_6 (Nat.le_of_ble_eq_true rfl) (?_ : RR _ _ _ _ 8 [_, _, _, _, _, _] _ _ _)
  exact L0
end CTO
