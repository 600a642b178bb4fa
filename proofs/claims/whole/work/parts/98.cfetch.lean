section CFE
variable {k : Nat} {h h1 h2 h3 : Nat → Int → Int} {sem : Sem} {H np nc len : Nat} {v : Int} {W R : Int → Int} {G : Nat} {en : Int}
theorem T_X8_nextGoal {M i g0 : Nat} {q : Nat → Int × List Int} {T : Int} (hh : toH W R G h) (hW : bnd W) (hR : ∀ g : Nat, g ≤ G → 0 ≤ R g ∧ R g < 9) (hG : G ≤ 6) (hM : M < 64) (hi : i ≤ G) (hq : ∀ g, g < G → M.testBit g = true → h 144 (oth M g * 7 + g) = (q g).1 ∧ (0 ≤ (q g).1 ∧ (q g).1 ≤ 100000) ∧ oth M g < 64) (hT : h 144 (M * 7 + i) = T) (hTb : 0 ≤ T ∧ T ≤ 100000) (hg0 : g0 < G) (hb0 : M.testBit g0 = true) (he : toD W R i g0 + (q g0).1 = T) (hf : ∀ g', g' < g0 → M.testBit g' = true → T < toD W R i g' + (q g').1) : MT mX8_nextGoal 2 [pR 142, pR 3, pI M, pI i] h (some (pI g0)) h := by
  refine MT.of (fun Q hQ => (?_ : RR mX8_nextGoal _ _ _ _ [pR 142, pR 3, pI M, pI i, pU, pU] _ _ _))
  have e1 := hh.2.1
  have L : ∀ (j g : Nat) (w5 : PV), g + j = g0 → RR mX8_nextGoal 2 0 0 3 [pR 142, pR 3, pI M, pI i, pI g, w5] [] (shp0, rf0, h) Q := by
    intro j
    induction j with
    | zero =>
      intro g w5 hg
      obtain rfl : g = g0 := by omega
      have hbit := iBit (s := M) (i := g) (by omega) (by omega)
      rw [if_pos hb0] at hbit
      obtain ⟨q1, q2, q3⟩ := hq g hg0 hb0
      have hm := T_X8_minutesBy hh hW hR hG hM hi hg0 q1 q2 q3
      rw [he] at hm
      refine R_iload dX8_nextGoal_3 rfl (?_ : RR _ _ _ _ 5 _ _ _ _)
      refine R_aload_n dX8_nextGoal_5 rfl (?_ : RR _ _ _ _ 6 _ _ _ _)
      refine R_geti (z := 1) dX8_nextGoal_6 flX8_18 cok_8 rfl (by decide) rfl (fun q6 => (?_ : RR _ _ _ _ 9 _ _ _ _))
      rw [e1] at q6 ⊢
      refine R_icmp_ge (t := 66) dX8_nextGoal_9 rfl (fun c9 => ?_) (fun c9 => ?_)
      · exfalso; omega
      refine R_iload_n dX8_nextGoal_12 rfl (?_ : RR _ _ _ _ 13 _ _ _ _)
      refine R_iload dX8_nextGoal_13 rfl (?_ : RR _ _ _ _ 15 _ _ _ _)
      refine R_ishr dX8_nextGoal_15 (?_ : RR _ _ _ _ 16 _ _ _ _)
      refine R_iconst dX8_nextGoal_16 (?_ : RR _ _ _ _ 17 _ _ _ _)
      refine R_iand dX8_nextGoal_17 (?_ : RR _ _ _ _ 18 _ _ _ _)
      rw [hbit]
      refine R_iconst dX8_nextGoal_18 (?_ : RR _ _ _ _ 19 _ _ _ _)
      refine R_icmp_ne (t := 26) dX8_nextGoal_19 rfl (fun c19 => ?_) (fun c19 => ?_)
      · exfalso; omega
      refine R_iconst dX8_nextGoal_22 (?_ : RR _ _ _ _ 23 _ _ _ _)
      refine R_goto (t := 27) dX8_nextGoal_23 rfl (?_ : RR _ _ _ _ 27 _ _ _ _)
      refine R_istore dX8_nextGoal_27 (Nat.le_of_ble_eq_true rfl) (?_ : RR _ _ _ _ 29 [_, _, _, _, _, _] _ _ _)
      refine R_iload dX8_nextGoal_29 rfl (?_ : RR _ _ _ _ 31 _ _ _ _)
      refine R_if_eq (t := 60) dX8_nextGoal_31 rfl (fun c31 => ?_) (fun c31 => ?_)
      · exfalso; omega
      refine R_aload_n dX8_nextGoal_34 rfl (?_ : RR _ _ _ _ 35 _ _ _ _)
      refine R_aload_n dX8_nextGoal_35 rfl (?_ : RR _ _ _ _ 36 _ _ _ _)
      refine R_iload_n dX8_nextGoal_36 rfl (?_ : RR _ _ _ _ 37 _ _ _ _)
      refine R_iload_n dX8_nextGoal_37 rfl (?_ : RR _ _ _ _ 38 _ _ _ _)
      refine R_iload dX8_nextGoal_38 rfl (?_ : RR _ _ _ _ 40 _ _ _ _)
      refine R_cVi4 dX8_nextGoal_40 mvX8_minutesBy mlX8_45 (by decide) (by decide) (Nat.le_of_ble_eq_true rfl) (Nat.le_of_ble_eq_true rfl) (hm) (?_ : RR _ _ _ _ 43 _ _ _ _)
      refine R_aload_n dX8_nextGoal_43 rfl (?_ : RR _ _ _ _ 44 _ _ _ _)
      refine R_getr dX8_nextGoal_44 flX8_15 cok_8 rfl (by decide) (?_ : RR _ _ _ _ 47 _ _ _ _)
      refine R_iload_n dX8_nextGoal_47 rfl (?_ : RR _ _ _ _ 48 _ _ _ _)
      refine R_bipush dX8_nextGoal_48 rfl (?_ : RR _ _ _ _ 50 _ _ _ _)
      refine R_imul dX8_nextGoal_50 (?_ : RR _ _ _ _ 51 _ _ _ _)
      refine R_iload_n dX8_nextGoal_51 rfl (?_ : RR _ _ _ _ 52 _ _ _ _)
      refine R_iadd dX8_nextGoal_52 (?_ : RR _ _ _ _ 53 _ _ _ _)
      refine R_iald dX8_nextGoal_53 (fun q53 => (?_ : RR _ _ _ _ 54 _ _ _ _))
      rw [hT] at q53 ⊢
      refine R_icmp_ne (t := 60) dX8_nextGoal_54 rfl (fun c54 => ?_) (fun c54 => ?_)
      · exfalso; omega
      refine R_iload dX8_nextGoal_57 rfl (?_ : RR _ _ _ _ 59 _ _ _ _)
      exact R_ireturn dX8_nextGoal_59 trivial hQ
    | succ j ih =>
      intro g w5 hg
      have IH := fun w5 => ih (g + 1) w5 (by omega)
      have hbit := iBit (s := M) (i := g) (by omega) (by omega)
      by_cases z : M.testBit g = true
      · rw [if_pos z] at hbit
        obtain ⟨q1, q2, q3⟩ := hq g (by omega) z
        have hm := T_X8_minutesBy hh hW hR hG hM hi (show g < G by omega) q1 q2 q3
        have hlt := hf g (by omega) z
        have r1 := hR i (by omega)
        have r2 := hR g (by omega)
        have wb : 0 ≤ toD W R i g ∧ toD W R i g ≤ 100000 := hW (R i * 9 + R g) (by omega) (by omega)
        refine R_iload dX8_nextGoal_3 rfl (?_ : RR _ _ _ _ 5 _ _ _ _)
        refine R_aload_n dX8_nextGoal_5 rfl (?_ : RR _ _ _ _ 6 _ _ _ _)
        refine R_geti (z := 1) dX8_nextGoal_6 flX8_18 cok_8 rfl (by decide) rfl (fun q6 => (?_ : RR _ _ _ _ 9 _ _ _ _))
        rw [e1] at q6 ⊢
        refine R_icmp_ge (t := 66) dX8_nextGoal_9 rfl (fun c9 => ?_) (fun c9 => ?_)
        · exfalso; omega
        refine R_iload_n dX8_nextGoal_12 rfl (?_ : RR _ _ _ _ 13 _ _ _ _)
        refine R_iload dX8_nextGoal_13 rfl (?_ : RR _ _ _ _ 15 _ _ _ _)
        refine R_ishr dX8_nextGoal_15 (?_ : RR _ _ _ _ 16 _ _ _ _)
        refine R_iconst dX8_nextGoal_16 (?_ : RR _ _ _ _ 17 _ _ _ _)
        refine R_iand dX8_nextGoal_17 (?_ : RR _ _ _ _ 18 _ _ _ _)
        rw [hbit]
        refine R_iconst dX8_nextGoal_18 (?_ : RR _ _ _ _ 19 _ _ _ _)
        refine R_icmp_ne (t := 26) dX8_nextGoal_19 rfl (fun c19 => ?_) (fun c19 => ?_)
        · exfalso; omega
        refine R_iconst dX8_nextGoal_22 (?_ : RR _ _ _ _ 23 _ _ _ _)
        refine R_goto (t := 27) dX8_nextGoal_23 rfl (?_ : RR _ _ _ _ 27 _ _ _ _)
        refine R_istore dX8_nextGoal_27 (Nat.le_of_ble_eq_true rfl) (?_ : RR _ _ _ _ 29 [_, _, _, _, _, _] _ _ _)
        refine R_iload dX8_nextGoal_29 rfl (?_ : RR _ _ _ _ 31 _ _ _ _)
        refine R_if_eq (t := 60) dX8_nextGoal_31 rfl (fun c31 => ?_) (fun c31 => ?_)
        · exfalso; omega
        refine R_aload_n dX8_nextGoal_34 rfl (?_ : RR _ _ _ _ 35 _ _ _ _)
        refine R_aload_n dX8_nextGoal_35 rfl (?_ : RR _ _ _ _ 36 _ _ _ _)
        refine R_iload_n dX8_nextGoal_36 rfl (?_ : RR _ _ _ _ 37 _ _ _ _)
        refine R_iload_n dX8_nextGoal_37 rfl (?_ : RR _ _ _ _ 38 _ _ _ _)
        refine R_iload dX8_nextGoal_38 rfl (?_ : RR _ _ _ _ 40 _ _ _ _)
        refine R_cVi4 dX8_nextGoal_40 mvX8_minutesBy mlX8_45 (by decide) (by decide) (Nat.le_of_ble_eq_true rfl) (Nat.le_of_ble_eq_true rfl) (hm) (?_ : RR _ _ _ _ 43 _ _ _ _)
        refine R_aload_n dX8_nextGoal_43 rfl (?_ : RR _ _ _ _ 44 _ _ _ _)
        refine R_getr dX8_nextGoal_44 flX8_15 cok_8 rfl (by decide) (?_ : RR _ _ _ _ 47 _ _ _ _)
        refine R_iload_n dX8_nextGoal_47 rfl (?_ : RR _ _ _ _ 48 _ _ _ _)
        refine R_bipush dX8_nextGoal_48 rfl (?_ : RR _ _ _ _ 50 _ _ _ _)
        refine R_imul dX8_nextGoal_50 (?_ : RR _ _ _ _ 51 _ _ _ _)
        refine R_iload_n dX8_nextGoal_51 rfl (?_ : RR _ _ _ _ 52 _ _ _ _)
        refine R_iadd dX8_nextGoal_52 (?_ : RR _ _ _ _ 53 _ _ _ _)
        refine R_iald dX8_nextGoal_53 (fun q53 => (?_ : RR _ _ _ _ 54 _ _ _ _))
        rw [hT] at q53 ⊢
        refine R_icmp_ne (t := 60) dX8_nextGoal_54 rfl (fun c54 => ?_) (fun c54 => ?_)
        rotate_left
        · exfalso; omega
        refine R_iinc dX8_nextGoal_60 rfl (Nat.le_of_ble_eq_true rfl) (?_ : RR _ _ _ _ 63 [_, _, _, _, _, _] _ _ _)
        refine R_goto (t := 3) dX8_nextGoal_63 rfl (?_ : RR _ _ _ _ 3 _ _ _ _)
        exact IH _
      · rw [if_neg z] at hbit
        refine R_iload dX8_nextGoal_3 rfl (?_ : RR _ _ _ _ 5 _ _ _ _)
        refine R_aload_n dX8_nextGoal_5 rfl (?_ : RR _ _ _ _ 6 _ _ _ _)
        refine R_geti (z := 1) dX8_nextGoal_6 flX8_18 cok_8 rfl (by decide) rfl (fun q6 => (?_ : RR _ _ _ _ 9 _ _ _ _))
        rw [e1] at q6 ⊢
        refine R_icmp_ge (t := 66) dX8_nextGoal_9 rfl (fun c9 => ?_) (fun c9 => ?_)
        · exfalso; omega
        refine R_iload_n dX8_nextGoal_12 rfl (?_ : RR _ _ _ _ 13 _ _ _ _)
        refine R_iload dX8_nextGoal_13 rfl (?_ : RR _ _ _ _ 15 _ _ _ _)
        refine R_ishr dX8_nextGoal_15 (?_ : RR _ _ _ _ 16 _ _ _ _)
        refine R_iconst dX8_nextGoal_16 (?_ : RR _ _ _ _ 17 _ _ _ _)
        refine R_iand dX8_nextGoal_17 (?_ : RR _ _ _ _ 18 _ _ _ _)
        rw [hbit]
        refine R_iconst dX8_nextGoal_18 (?_ : RR _ _ _ _ 19 _ _ _ _)
        refine R_icmp_ne (t := 26) dX8_nextGoal_19 rfl (fun c19 => ?_) (fun c19 => ?_)
        rotate_left
        · exfalso; omega
        refine R_iconst dX8_nextGoal_26 (?_ : RR _ _ _ _ 27 _ _ _ _)
        refine R_istore dX8_nextGoal_27 (Nat.le_of_ble_eq_true rfl) (?_ : RR _ _ _ _ 29 [_, _, _, _, _, _] _ _ _)
        refine R_iload dX8_nextGoal_29 rfl (?_ : RR _ _ _ _ 31 _ _ _ _)
        refine R_if_eq (t := 60) dX8_nextGoal_31 rfl (fun c31 => ?_) (fun c31 => ?_)
        rotate_left
        · exfalso; omega
        refine R_iinc dX8_nextGoal_60 rfl (Nat.le_of_ble_eq_true rfl) (?_ : RR _ _ _ _ 63 [_, _, _, _, _, _] _ _ _)
        refine R_goto (t := 3) dX8_nextGoal_63 rfl (?_ : RR _ _ _ _ 3 _ _ _ _)
        exact IH _
  refine R_iconst dX8_nextGoal_0 (?_ : RR _ _ _ _ 1 _ _ _ _)
  refine R_istore dX8_nextGoal_1 (Nat.le_of_ble_eq_true rfl) (?_ : RR _ _ _ _ 3 [_, _, _, _, _, _] _ _ _)
  exact L g0 0 _ (by omega)
theorem toS_b (hD : ∀ i g, i ≤ G → g < G → (0 ≤ toD W R i g ∧ toD W R i g < 1000) ∨ toD W R i g = 100000) (hE : ∀ i, i ≤ G → (0 ≤ toE W R en i ∧ toE W R en i < 1000) ∨ toE W R en i = 100000) : ∀ (n M i : Nat), n ≤ 12 → i ≤ G → (0 ≤ (toS W R G en n M i).1 ∧ (toS W R G en n M i).1 < 1000 * (n + 1) ∧ (toS W R G en n M i).2.length = n) ∨ (toS W R G en n M i).1 = 100000 := sp_b hD hE
/-- the order told -/
theorem toH_tl {L : List Int} (hh : toH W R G h) : toH W R G (tlR h L) := ⟨by rw [tlR_n (by omega) (by omega)]; exact hh.1, by rw [tlR_n (by omega) (by omega)]; exact hh.2.1, by rw [tlR_n (by omega) (by omega)]; exact hh.2.2⟩
theorem TO_18 {Q : Option PV → PH → Prop} {T : List Int} {K : Nat} (hh : toH W R G h) (hW : bnd W) (hR : ∀ g : Nat, g ≤ G → 0 ≤ R g ∧ R g < 9) (hG : G ≤ 6) (hK64 : K ≤ 64) (ht : tbP W R G en (h 144) K) (hD : ∀ i g, i ≤ G → g < G → (0 ≤ toD W R i g ∧ toD W R i g < 1000) ∨ toD W R i g = 100000) (hE : ∀ i, i ≤ G → (0 ≤ toE W R en i ∧ toE W R en i < 1000) ∨ toE W R en i = 100000) (hQ : Q none (shp0, rf0, tlR h T.reverse)) : ∀ (n t M i : Nat) (L : List Int) (w6 : PV), t + n = G → pop 12 M = n → M < K → i ≤ G → L.length = t → L.reverse ++ (toS W R G en n M i).2 = T → (toS W R G en n M i).1 < 100000 → RR mX8_tellOrder 3 0 0 18 [pR 142, pR 3, pR 145, pI M, pI i, pI t, w6] [] (shp0, rf0, tlR h L) Q := by
  intro n
  induction n with
  | zero =>
    intro t M i L w6 ht0 hp hM hi hL hTo hlt
    obtain rfl : t = G := by omega
    have e1 := (toH_tl (L := L) hh).2.1
    have hTo : L.reverse ++ [] = T := hTo
    have hq : Q none (shp0, rf0, tlR h L) := by rw [List.append_nil] at hTo; rw [← hTo, List.reverse_reverse] at hQ; exact hQ
    refine R_iload dX8_tellOrder_18 rfl (?_ : RR _ _ _ _ 20 _ _ _ _)
    refine R_aload_n dX8_tellOrder_20 rfl (?_ : RR _ _ _ _ 21 _ _ _ _)
    refine R_geti (z := 1) dX8_tellOrder_21 flX8_18 cok_8 rfl (by decide) rfl (fun q21 => (?_ : RR _ _ _ _ 24 _ _ _ _))
    rw [e1] at q21 ⊢
    refine R_icmp_ge (t := 74) dX8_tellOrder_24 rfl (fun c24 => ?_) (fun c24 => ?_)
    rotate_left
    · exfalso; omega
    exact R_return dX8_tellOrder_74 trivial hq
  | succ n ih =>
    intro t M i L w6 ht0 hp hM hi hL hTo hlt
    have e1 := (toH_tl (L := L) hh).2.1
    have e3 := (toH_tl (L := L) hh).2.2
    have hb := toS_b hD hE
    have hqv : ∀ g, g < G → M.testBit g = true → tlR h L 144 (oth M g * 7 + g) = (toS W R G en n (oth M g) g).1 ∧ (0 ≤ (toS W R G en n (oth M g) g).1 ∧ (toS W R G en n (oth M g) g).1 ≤ 100000) ∧ oth M g < 64 := fun g hg hz => by
      have hl := oth_less (show M < 4096 by omega) hz
      have hpo := pop_oth (show M < 4096 by omega) hz
      rw [tlR_n (by omega) (by omega)]
      have h1 := ht (oth M g) (by omega) g (by omega)
      rw [show pop 12 (oth M g) = n by omega] at h1
      exact ⟨h1, by have := hb n (oth M g) g (by omega) (by omega); omega, by omega⟩
    have hTT : tlR h L 144 (M * 7 + i) = (toS W R G en (n + 1) M i).1 := by
      rw [tlR_n (by omega) (by omega)]
      have h1 := ht M hM i hi
      rw [hp] at h1
      exact h1
    have hTb : 0 ≤ (toS W R G en (n + 1) M i).1 ∧ (toS W R G en (n + 1) M i).1 ≤ 100000 := by
      have := hb (n + 1) M i (by omega) hi
      omega
    have hI := sp_I (D := toD W R) (M := M) (i := i) (q := fun g => toS W R G en n (oth M g) g) (y := fun g => R g) G
    rw [show it (spF (toD W R) M i (fun g => toS W R G en n (oth M g) g) (fun g => R g)) (100000, []) G = toS W R G en (n + 1) M i from rfl] at hI
    rcases hI.1 with u | ⟨g, g1, g2, g3, g4⟩
    · rw [u] at hlt; exact absurd hlt (by decide)
    · have hl := oth_less (show M < 4096 by omega) g2
      have hpo := pop_oth (show M < 4096 by omega) g2
      have hng := T_X8_nextGoal (q := fun g => toS W R G en n (oth M g) g) (toH_tl (L := L) hh) hW hR hG (show M < 64 by omega) hi hqv hTT hTb g1 g2 (by rw [g3]) g4
      have hdg := hD i g hi g1
      have h2q : (toS W R G en (n + 1) M i).2 = R g :: (toS W R G en n (oth M g) g).2 := by rw [g3]
      have h1q : (toS W R G en (n + 1) M i).1 = toD W R i g + (toS W R G en n (oth M g) g).1 := by rw [g3]
      rw [h2q] at hTo
      have hsh := iShl_one g (by omega)
      have hand : iAnd (M : Int) (iXor ((2 ^ g : Nat) : Int) (-1)) = ((oth M g : Nat) : Int) := othI (by omega) (by omega)
      have r2 := hR g (by omega)
      have IH := fun w6 => ih (t + 1) (oth M g) g (R g :: L) w6 (by omega) (by omega) (by omega) (by omega) (by simp; omega) (by rw [← hTo]; simp) (by omega)
      have hol : oth M g < 64 := by omega
      have hL12 : L.length < 12 := by omega
      clear hb hqv hTT hTb hI g4 g3 hpo hdg h2q h1q hTo ih hD hE ht hlt
      generalize 2 ^ g = B at hsh hand
      generalize oth M g = O at IH hand hol hl
      refine R_iload dX8_tellOrder_18 rfl (?_ : RR _ _ _ _ 20 _ _ _ _)
      refine R_aload_n dX8_tellOrder_20 rfl (?_ : RR _ _ _ _ 21 _ _ _ _)
      refine R_geti (z := 1) dX8_tellOrder_21 flX8_18 cok_8 rfl (by decide) rfl (fun q21 => (?_ : RR _ _ _ _ 24 _ _ _ _))
      rw [e1] at q21 ⊢
      refine R_icmp_ge (t := 74) dX8_tellOrder_24 rfl (fun c24 => ?_) (fun c24 => ?_)
      · exfalso; omega
      refine R_aload_n dX8_tellOrder_27 rfl (?_ : RR _ _ _ _ 28 _ _ _ _)
      refine R_aload_n dX8_tellOrder_28 rfl (?_ : RR _ _ _ _ 29 _ _ _ _)
      refine R_iload_n dX8_tellOrder_29 rfl (?_ : RR _ _ _ _ 30 _ _ _ _)
      refine R_iload dX8_tellOrder_30 rfl (?_ : RR _ _ _ _ 32 _ _ _ _)
      refine R_cVi3 dX8_tellOrder_32 mvX8_nextGoal mlX8_54 (by decide) (by decide) (Nat.le_of_ble_eq_true rfl) (Nat.le_of_ble_eq_true rfl) (hng) (?_ : RR _ _ _ _ 35 _ _ _ _)
      refine R_istore dX8_tellOrder_35 (Nat.le_of_ble_eq_true rfl) (?_ : RR _ _ _ _ 37 [_, _, _, _, _, _, _] _ _ _)
      refine R_iload dX8_tellOrder_37 rfl (?_ : RR _ _ _ _ 39 _ _ _ _)
      refine R_iconst dX8_tellOrder_39 (?_ : RR _ _ _ _ 40 _ _ _ _)
      refine R_icmp_eq (t := 68) dX8_tellOrder_40 rfl (fun c40 => ?_) (fun c40 => ?_)
      · exfalso; omega
      refine R_aload_n dX8_tellOrder_43 rfl (?_ : RR _ _ _ _ 44 _ _ _ _)
      refine R_aload_n dX8_tellOrder_44 rfl (?_ : RR _ _ _ _ 45 _ _ _ _)
      refine R_getr dX8_tellOrder_45 flX8_11 cok_8 rfl (by decide) (?_ : RR _ _ _ _ 48 _ _ _ _)
      refine R_iload dX8_tellOrder_48 rfl (?_ : RR _ _ _ _ 50 _ _ _ _)
      refine R_iald dX8_tellOrder_50 (fun q50 => (?_ : RR _ _ _ _ 51 _ _ _ _))
      rw [e3] at q50 ⊢
      refine R_i2l dX8_tellOrder_51 (by first | assumption | omega) (?_ : RR _ _ _ _ 52 _ _ _ _)
      refine R_cVv1 dX8_tellOrder_52 mvX3_add mlX8_57 (by decide) (by decide) (Nat.le_of_ble_eq_true rfl) (Nat.le_of_ble_eq_true rfl) (T_tla hL12 (by omega)) (?_ : RR _ _ _ _ 55 _ _ _ _)
      refine R_iload_n dX8_tellOrder_55 rfl (?_ : RR _ _ _ _ 56 _ _ _ _)
      refine R_iconst dX8_tellOrder_56 (?_ : RR _ _ _ _ 57 _ _ _ _)
      refine R_iload dX8_tellOrder_57 rfl (?_ : RR _ _ _ _ 59 _ _ _ _)
      refine R_ishl dX8_tellOrder_59 (?_ : RR _ _ _ _ 60 _ _ _ _)
      rw [hsh]
      refine R_iconst dX8_tellOrder_60 (?_ : RR _ _ _ _ 61 _ _ _ _)
      refine R_ixor dX8_tellOrder_61 (?_ : RR _ _ _ _ 62 _ _ _ _)
      refine R_iand dX8_tellOrder_62 (?_ : RR _ _ _ _ 63 _ _ _ _)
      rw [hand]
      refine R_istore_n dX8_tellOrder_63 (Nat.le_of_ble_eq_true rfl) (?_ : RR _ _ _ _ 64 [_, _, _, _, _, _, _] _ _ _)
      refine R_iload dX8_tellOrder_64 rfl (?_ : RR _ _ _ _ 66 _ _ _ _)
      refine R_istore dX8_tellOrder_66 (Nat.le_of_ble_eq_true rfl) (?_ : RR _ _ _ _ 68 [_, _, _, _, _, _, _] _ _ _)
      refine R_iinc dX8_tellOrder_68 rfl (Nat.le_of_ble_eq_true rfl) (?_ : RR _ _ _ _ 71 [_, _, _, _, _, _, _] _ _ _)
      refine R_goto (t := 18) dX8_tellOrder_71 rfl (?_ : RR _ _ _ _ 18 _ _ _ _)
      exact IH _
theorem C_fetch {K : Nat} {st : Nat → Bool} (hen : 0 ≤ en ∧ en < H) (hH : h 3 0 = H) (hH9 : H ≤ 9) (hnc : h 14 2 = nc) (h6 : nc ≤ 6) (hst : ∀ c : Nat, c < H → (bset (fun j => decide (h (14 + 2) j = -1 ∧ h (14 + 3) j = (c : Int))) nc ≠ 0 ↔ st c = true)) (hs6 : cG st H ≤ 6) (hGe : G = cG st H) (hRe : R = fup (ptR st (h 143) H) G (h 14 0)) (he0 : 0 ≤ h 14 0 ∧ h 14 0 < 9) (hWe : h 6 = W) (hW : bnd W) (hK : K = 2 ^ G) (hD : ∀ i g, i ≤ G → g < G → (0 ≤ toD W R i g ∧ toD W R i g < 1000) ∨ toD W R i g = 100000) (hE : ∀ i, i ≤ G → (0 ≤ toE W R en i ∧ toE W R en i < 1000) ∨ toE W R en i = 100000) {F : Int × List Int} (hF : F = toS W R G en G (2 ^ G - 1) G) : RR mX11_fetch 4 0 0 0 (pm_ent [pR 0, pI en] 3) [] (shp0, rf0, h) (cQ h (if F.1 < 100000 then F.1 else -2) (if F.1 < 100000 then some F.2 else none)) := by
  have n3 := isNet_3
  have t14 := isTr_14
  have hG : G ≤ 6 := by omega
  have hb := toS_b hD hE
  have hb2 : ∀ (n M i : Nat), n ≤ 12 → i ≤ G → 0 ≤ (toS W R G en n M i).1 ∧ (toS W R G en n M i).1 ≤ 100000 := fun n M i hn hi => by
    have := hb n M i hn hi
    omega
  have hpl := C_plan (en := en) (by omega) hH hH9 hnc h6 hst hs6 hGe hRe he0 hWe hW hK hb2
  have hpG : pop 12 (2 ^ G - 1) = G := (show ∀ G, G < 7 → pop 12 (2 ^ G - 1) = G by decide) G (by omega)
  have hR : ∀ g : Nat, g ≤ G → 0 ≤ R g ∧ R g < 9 := fun g hg => by
    rw [hRe]
    by_cases z : g = G
    · rw [z, fup_s]; exact he0
    · rw [fup_n (by omega)]
      obtain ⟨c, c1, c2, c3, c4⟩ := ptR_p (st := st) (p0 := h 143) H g (by omega)
      rw [c4]; omega
  have hK64 : K ≤ 64 := by rw [hK]; exact Nat.pow_le_pow_right (n := 2) (by omega) hG
  have hK1 : 1 ≤ K := by rw [hK]; exact Nat.pow_pos (by omega)
  have hFb := hb2 G (2 ^ G - 1) G (by omega) (by omega)
  rw [← hF] at hFb
  have hsh := iShl_one G (by omega)
  rw [← hK] at hsh hpG hF
  show RR _ _ _ _ _ [pR 0, pI en, pU] _ _ _
  have KK : ∀ h2 : Nat → Int → Int, tdF h h2 → toH W R G h2 → tbP W R G en (h2 144) K → RR mX11_fetch 4 0 0 29 [pR 0, pI en, pU] [] (shp0, rf0, h2) (cQ h (if F.1 < 100000 then F.1 else -2) (if F.1 < 100000 then some F.2 else none)) := by
    intro h2 hf hh ht
    have hcq : cqF h h2 := fun a q => hf a (by omega) (by omega) (by omega)
    have e1 := hh.2.1
    have eT : h2 144 (((K - 1 : Nat) : Int) * 7 + G) = F.1 := by
      rw [ht (K - 1) (by omega) G (by omega), hpG, hF]
    have hmin : MT mX8_minutesInAll 0 [pR 142] h2 (some (pI F.1)) h2 := by
      refine MT.of (fun Q hQ => (?_ : RR mX8_minutesInAll _ _ _ _ [pR 142] _ _ _))
      refine R_aload_n dX8_minutesInAll_0 rfl (?_ : RR _ _ _ _ 1 _ _ _ _)
      refine R_getr dX8_minutesInAll_1 flX8_15 cok_8 rfl (by decide) (?_ : RR _ _ _ _ 4 _ _ _ _)
      refine R_iconst dX8_minutesInAll_4 (?_ : RR _ _ _ _ 5 _ _ _ _)
      refine R_aload_n dX8_minutesInAll_5 rfl (?_ : RR _ _ _ _ 6 _ _ _ _)
      refine R_geti (z := 1) dX8_minutesInAll_6 flX8_18 cok_8 rfl (by decide) rfl (fun q6 => (?_ : RR _ _ _ _ 9 _ _ _ _))
      rw [e1] at q6 ⊢
      refine R_ishl dX8_minutesInAll_9 (?_ : RR _ _ _ _ 10 _ _ _ _)
      rw [hsh]
      refine R_iconst dX8_minutesInAll_10 (?_ : RR _ _ _ _ 11 _ _ _ _)
      refine R_isub dX8_minutesInAll_11 (?_ : RR _ _ _ _ 12 _ _ _ _)
      rw [show (K : Int) - 1 = ((K - 1 : Nat) : Int) by omega]
      refine R_bipush dX8_minutesInAll_12 rfl (?_ : RR _ _ _ _ 14 _ _ _ _)
      refine R_imul dX8_minutesInAll_14 (?_ : RR _ _ _ _ 15 _ _ _ _)
      refine R_aload_n dX8_minutesInAll_15 rfl (?_ : RR _ _ _ _ 16 _ _ _ _)
      refine R_geti (z := 1) dX8_minutesInAll_16 flX8_18 cok_8 rfl (by decide) rfl (fun q16 => (?_ : RR _ _ _ _ 19 _ _ _ _))
      rw [e1] at q16 ⊢
      refine R_iadd dX8_minutesInAll_19 (?_ : RR _ _ _ _ 20 _ _ _ _)
      refine R_iald dX8_minutesInAll_20 (fun q20 => (?_ : RR _ _ _ _ 21 _ _ _ _))
      rw [eT] at q20 ⊢
      exact R_ireturn dX8_minutesInAll_21 trivial hQ
    by_cases z : F.1 < 100000
    · rw [if_pos z, if_pos z]
      have hto : MT mX8_tellOrder 3 [pR 142, pR 3, pR 145] (tlR h2 []) none (tlR h2 F.2.reverse) := by
        refine MT.of (fun Q hQ => (?_ : RR mX8_tellOrder _ _ _ _ [pR 142, pR 3, pR 145, pU, pU, pU, pU] _ _ _))
        have e1t := (toH_tl (L := []) hh).2.1
        have K18 := fun w6 => TO_18 (Q := Q) (T := F.2) hh hW hR hG hK64 ht hD hE hQ G 0 (K - 1) G [] w6 (by omega) hpG (by omega) (by omega) rfl (by rw [hF]; rfl) (by rw [← hF]; exact z)
        refine R_iconst dX8_tellOrder_0 (?_ : RR _ _ _ _ 1 _ _ _ _)
        refine R_aload_n dX8_tellOrder_1 rfl (?_ : RR _ _ _ _ 2 _ _ _ _)
        refine R_geti (z := 1) dX8_tellOrder_2 flX8_18 cok_8 rfl (by decide) rfl (fun q2 => (?_ : RR _ _ _ _ 5 _ _ _ _))
        rw [e1t] at q2 ⊢
        refine R_ishl dX8_tellOrder_5 (?_ : RR _ _ _ _ 6 _ _ _ _)
        rw [hsh]
        refine R_iconst dX8_tellOrder_6 (?_ : RR _ _ _ _ 7 _ _ _ _)
        refine R_isub dX8_tellOrder_7 (?_ : RR _ _ _ _ 8 _ _ _ _)
        rw [show (K : Int) - 1 = ((K - 1 : Nat) : Int) by omega]
        refine R_istore_n dX8_tellOrder_8 (Nat.le_of_ble_eq_true rfl) (?_ : RR _ _ _ _ 9 [_, _, _, _, _, _, _] _ _ _)
        refine R_aload_n dX8_tellOrder_9 rfl (?_ : RR _ _ _ _ 10 _ _ _ _)
        refine R_geti (z := 1) dX8_tellOrder_10 flX8_18 cok_8 rfl (by decide) rfl (fun q10 => (?_ : RR _ _ _ _ 13 _ _ _ _))
        rw [e1t] at q10 ⊢
        refine R_istore dX8_tellOrder_13 (Nat.le_of_ble_eq_true rfl) (?_ : RR _ _ _ _ 15 [_, _, _, _, _, _, _] _ _ _)
        refine R_iconst dX8_tellOrder_15 (?_ : RR _ _ _ _ 16 _ _ _ _)
        refine R_istore dX8_tellOrder_16 (Nat.le_of_ble_eq_true rfl) (?_ : RR _ _ _ _ 18 [_, _, _, _, _, _, _] _ _ _)
        exact K18 _
      refine R_aload_n dX11_fetch_29 rfl (?_ : RR _ _ _ _ 30 _ _ _ _)
      refine R_getr dX11_fetch_30 flX11_80 cok_11 rfl (by decide) (?_ : RR _ _ _ _ 33 _ _ _ _)
      refine R_cVi0 dX11_fetch_33 mvX8_minutesInAll mlX11_362 (by decide) (by decide) (Nat.le_of_ble_eq_true rfl) (Nat.le_of_ble_eq_true rfl) (hmin) (?_ : RR _ _ _ _ 36 _ _ _ _)
      refine R_istore_n dX11_fetch_36 (Nat.le_of_ble_eq_true rfl) (?_ : RR _ _ _ _ 37 [_, _, _] _ _ _)
      refine R_iload_n dX11_fetch_37 rfl (?_ : RR _ _ _ _ 38 _ _ _ _)
      refine R_ldcw (z := 100000) dX11_fetch_38 kwX11_293 (?_ : RR _ _ _ _ 41 _ _ _ _)
      refine R_icmp_lt (t := 47) dX11_fetch_41 rfl (fun c41 => ?_) (fun c41 => ?_)
      rotate_left
      · exfalso; omega
      refine R_aload_n dX11_fetch_47 rfl (?_ : RR _ _ _ _ 48 _ _ _ _)
      refine R_getr dX11_fetch_48 flX11_87 cok_11 rfl (by decide) (?_ : RR _ _ _ _ 51 _ _ _ _)
      refine R_cVv0 dX11_fetch_51 mvX3_clear mlX11_239 (by decide) (by decide) (Nat.le_of_ble_eq_true rfl) (Nat.le_of_ble_eq_true rfl) (T_tlc) (?_ : RR _ _ _ _ 54 _ _ _ _)
      refine R_aload_n dX11_fetch_54 rfl (?_ : RR _ _ _ _ 55 _ _ _ _)
      refine R_getr dX11_fetch_55 flX11_80 cok_11 rfl (by decide) (?_ : RR _ _ _ _ 58 _ _ _ _)
      refine R_aload_n dX11_fetch_58 rfl (?_ : RR _ _ _ _ 59 _ _ _ _)
      refine R_getr dX11_fetch_59 flX11_19 cok_11 rfl (by decide) (?_ : RR _ _ _ _ 62 _ _ _ _)
      refine R_aload_n dX11_fetch_62 rfl (?_ : RR _ _ _ _ 63 _ _ _ _)
      refine R_getr dX11_fetch_63 flX11_87 cok_11 rfl (by decide) (?_ : RR _ _ _ _ 66 _ _ _ _)
      refine R_cVv2 dX11_fetch_66 mvX8_tellOrder mlX11_365 (by decide) (by decide) (Nat.le_of_ble_eq_true rfl) (Nat.le_of_ble_eq_true rfl) (hto) (?_ : RR _ _ _ _ 69 _ _ _ _)
      refine R_iload_n dX11_fetch_69 rfl (?_ : RR _ _ _ _ 70 _ _ _ _)
      exact R_ireturn dX11_fetch_70 trivial (cQ_tl hcq (by simp))
    · rw [if_neg z, if_neg z]
      have hq : cQ h (-2) none (some (pI (-2))) (shp0, rf0, h2) := ⟨h2, rfl, rfl, hcq, hf 145 (by omega) (by omega) (by omega), hf 146 (by omega) (by omega) (by omega)⟩
      refine R_aload_n dX11_fetch_29 rfl (?_ : RR _ _ _ _ 30 _ _ _ _)
      refine R_getr dX11_fetch_30 flX11_80 cok_11 rfl (by decide) (?_ : RR _ _ _ _ 33 _ _ _ _)
      refine R_cVi0 dX11_fetch_33 mvX8_minutesInAll mlX11_362 (by decide) (by decide) (Nat.le_of_ble_eq_true rfl) (Nat.le_of_ble_eq_true rfl) (hmin) (?_ : RR _ _ _ _ 36 _ _ _ _)
      refine R_istore_n dX11_fetch_36 (Nat.le_of_ble_eq_true rfl) (?_ : RR _ _ _ _ 37 [_, _, _] _ _ _)
      refine R_iload_n dX11_fetch_37 rfl (?_ : RR _ _ _ _ 38 _ _ _ _)
      refine R_ldcw (z := 100000) dX11_fetch_38 kwX11_293 (?_ : RR _ _ _ _ 41 _ _ _ _)
      refine R_icmp_lt (t := 47) dX11_fetch_41 rfl (fun c41 => ?_) (fun c41 => ?_)
      · exfalso; omega
      refine R_bipush dX11_fetch_44 rfl (?_ : RR _ _ _ _ 46 _ _ _ _)
      exact R_ireturn dX11_fetch_46 trivial hq
  refine R_aload_n dX11_fetch_0 rfl (?_ : RR _ _ _ _ 1 _ _ _ _)
  refine R_getr dX11_fetch_1 flX11_19 cok_11 rfl (by decide) (?_ : RR _ _ _ _ 4 _ _ _ _)
  refine R_iload_n dX11_fetch_4 rfl (?_ : RR _ _ _ _ 5 _ _ _ _)
  refine R_cVi1 dX11_fetch_5 mvX0_has mlX11_289 (by decide) (by decide) (Nat.le_of_ble_eq_true rfl) (Nat.le_of_ble_eq_true rfl) (T_X0_has) (?_ : RR _ _ _ _ 8 _ _ _ _)
  rw [hH, if_pos (by omega)]
  refine R_if_ne (t := 13) dX11_fetch_8 rfl (fun c8 => ?_) (fun c8 => ?_)
  rotate_left
  · exfalso; omega
  refine R_aload_n dX11_fetch_13 rfl (?_ : RR _ _ _ _ 14 _ _ _ _)
  refine R_getr dX11_fetch_14 flX11_80 cok_11 rfl (by decide) (?_ : RR _ _ _ _ 17 _ _ _ _)
  refine R_aload_n dX11_fetch_17 rfl (?_ : RR _ _ _ _ 18 _ _ _ _)
  refine R_getr dX11_fetch_18 flX11_19 cok_11 rfl (by decide) (?_ : RR _ _ _ _ 21 _ _ _ _)
  refine R_aload_n dX11_fetch_21 rfl (?_ : RR _ _ _ _ 22 _ _ _ _)
  refine R_getr dX11_fetch_22 flX11_36 cok_11 rfl (by decide) (?_ : RR _ _ _ _ 25 _ _ _ _)
  refine R_iload_n dX11_fetch_25 rfl (?_ : RR _ _ _ _ 26 _ _ _ _)
  refine R_qV3 dX11_fetch_26 mvX8_plan mlX11_358 (by decide) (by decide) (Nat.le_of_ble_eq_true rfl) (Nat.le_of_ble_eq_true rfl) (hpl) (fun r9 g9 hq9 => (?_ : RR _ _ _ _ 29 _ _ _ _))
  obtain ⟨rfl, h5, rfl, hf5, hh5, ht5⟩ := hq9
  show RR _ _ _ _ _ _ [] _ _
  exact KK h5 hf5 hh5 ht5
end CFE
