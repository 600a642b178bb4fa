/-! by which ways it came: how many, and where it was -/
def rbS (ex w : Int → Int) (e : Int) : Int := if ex e < 0 then 0 else w (ex e)
def wyS (ex : Int → Int) (fit : Int → Int → Bool) (l : Nat) : Nat → Int → Int
  | 0, c => if fit l c then 1 else 0
  | m + 1, c => if fit ((l : Int) - (m + 1 : Nat)) c then rbS ex (wyS ex fit l m) (2 * c) + rbS ex (wyS ex fit l m) (2 * c + 1) else 0
theorem wyS_b {ex : Int → Int} {fit : Int → Int → Bool} {l : Nat} : ∀ (m : Nat) (c : Int), 0 ≤ wyS ex fit l m c ∧ wyS ex fit l m c ≤ ((2 ^ m : Nat) : Int)
  | 0, c => by
    unfold wyS
    split <;> exact ⟨by omega, by show _ ≤ (1 : Int); omega⟩
  | m + 1, c => by
    have hb : ∀ e, 0 ≤ rbS ex (wyS ex fit l m) e ∧ rbS ex (wyS ex fit l m) e ≤ ((2 ^ m : Nat) : Int) := fun e => by
      unfold rbS
      split
      · exact ⟨Int.le_refl _, Int.natCast_nonneg _⟩
      · exact wyS_b m _
    have h1 := hb (2 * c)
    have h2 := hb (2 * c + 1)
    have h3 : ((2 ^ (m + 1) : Nat) : Int) = ((2 ^ m : Nat) : Int) + ((2 ^ m : Nat) : Int) := by rw [Nat.pow_succ]; omega
    unfold wyS
    rw [h3]
    split <;> omega
theorem wyS_4096 {ex : Int → Int} {fit : Int → Int → Bool} {l m : Nat} {c : Int} (hm : m ≤ 12) : 0 ≤ wyS ex fit l m c ∧ wyS ex fit l m c ≤ 4096 := by
  have h1 := wyS_b (ex := ex) (fit := fit) (l := l) m c
  have h2 : 2 ^ m ≤ 2 ^ 12 := Nat.pow_le_pow_right (by omega) hm
  omega
def rcS (ex w : Int → Int) (R : Nat) : Nat → Nat
  | 0 => 0
  | e + 1 => if R.testBit (e / 2) = true ∧ ex e ≠ -1 ∧ 0 < w (ex e) then rcS ex w R e ||| 2 ^ (ex e).toNat else rcS ex w R e
theorem rcS_congr {ex w ex' w' : Int → Int} {R : Nat} : ∀ {n : Nat}, (∀ e : Nat, e < n → ex e = ex' e ∧ (ex' e ≠ -1 → w (ex' e) = w' (ex' e))) → rcS ex w R n = rcS ex' w' R n
  | 0, _ => rfl
  | n + 1, hh => by
    obtain ⟨h1, h2⟩ := hh n (by omega)
    unfold rcS
    rw [rcS_congr (fun e he => hh e (by omega)), h1]
    by_cases q : ex' n = -1
    · rw [if_neg (fun z => z.2.1 q), if_neg (fun z => z.2.1 q)]
    · rw [h2 q]
theorem rcS_lt {ex w : Int → Int} {R H : Nat} : ∀ {n : Nat}, (∀ e : Nat, e < n → ex e = -1 ∨ (0 ≤ ex e ∧ ex e < H)) → rcS ex w R n < 2 ^ H
  | 0, _ => Nat.pow_pos (by omega)
  | n + 1, hh => by
    have h1 := rcS_lt (w := w) (R := R) (n := n) (fun e he => hh e (by omega))
    unfold rcS
    split
    · rename_i q
      have := hh n (by omega)
      exact Nat.or_lt_two_pow h1 (Nat.pow_lt_pow_right (by omega) (by omega))
    · exact h1
/-- where it can have been behind k steps -/
def rcK (ex : Int → Int) (fit : Int → Int → Bool) (l H : Nat) (st : Int) : Nat → Nat
  | 0 => if 0 < wyS ex fit l l st then 2 ^ st.toNat else 0
  | k + 1 => rcS ex (wyS ex fit l (l - (k + 1))) (rcK ex fit l H st k) (2 * H)
theorem rcK_lt {ex mi : Int → Int} {fit : Int → Int → Bool} {l H : Nat} {st : Int} (hE : exK H ex mi) (hs : 0 ≤ st ∧ st < H) : ∀ k, rcK ex fit l H st k < 2 ^ H
  | 0 => by
    unfold rcK
    split
    · exact Nat.pow_lt_pow_right (by omega) (by omega)
    · exact Nat.pow_pos (by omega)
  | k + 1 => rcS_lt (fun e he => by
    have := hE e (by omega) (by omega)
    omega)
section TR
variable {k : Nat} {h h1 h2 h3 h4 : Nat → Int → Int} {sem : Sem} {H np nc len N l : Nat} {v w a b : Int}
theorem T_X6_waysOn1 {n : Nat} {k c : Int} (hl : h 138 1 ≤ k) (hk : r32 k) : MT mX6_waysOn 1 [pR 138, pR n, pI k, pI c] h (some (pI 1)) h := by
  refine MT.of (fun Q hQ => (?_ : RR mX6_waysOn _ _ _ _ [pR 138, pR n, pI k, pI c, pU, pU] _ _ _))
  refine R_iload_n dX6_waysOn_0 rfl (?_ : RR _ _ _ _ 1 _ _ _ _)
  refine R_aload_n dX6_waysOn_1 rfl (?_ : RR _ _ _ _ 2 _ _ _ _)
  refine R_geti (z := 1) dX6_waysOn_2 flX6_25 cok_6 rfl (by decide) rfl (fun q2 => (?_ : RR _ _ _ _ 5 _ _ _ _))
  refine R_icmp_lt (t := 10) dX6_waysOn_5 rfl (fun c5 => ?_) (fun c5 => ?_)
  · exfalso; omega
  refine R_iconst dX6_waysOn_8 (?_ : RR _ _ _ _ 9 _ _ _ _)
  exact R_ireturn dX6_waysOn_9 trivial hQ
theorem T_X6_waysOn2 {n : Nat} {k c : Int} (hE : exB (h (n + 1))) (hl : k < h 138 1) (hk : 0 ≤ k ∧ k ≤ 11) (hc : 0 ≤ c ∧ c ≤ 8) (ht : isNet n := by assumption) : MT mX6_waysOn 1 [pR 138, pR n, pI k, pI c] h (some (pI (0 + rbS (h (n + 1)) (fun d => h 141 ((k + 1) * 9 + d)) (2 * c) + rbS (h (n + 1)) (fun d => h 141 ((k + 1) * 9 + d)) (2 * c + 1)))) h := by
  obtain ⟨t0, t1, t2, t3, t4, t5, t6⟩ := id ht
  refine MT.of (fun Q hQ => (?_ : RR mX6_waysOn _ _ _ _ [pR 138, pR n, pI k, pI c, pU, pU] _ _ _))
  have S : ∀ e sum : Int, 2 * c ≤ e → e < 2 * c + 2 → RR mX6_waysOn 1 0 0 18 [pR 138, pR n, pI k, pI c, pI (sum + rbS (h (n + 1)) (fun d => h 141 ((k + 1) * 9 + d)) e), pI (e + 1)] [] (shp0, rf0, h) Q → RR mX6_waysOn 1 0 0 18 [pR 138, pR n, pI k, pI c, pI sum, pI e] [] (shp0, rf0, h) Q := by
    intro e sum e0 e1 K
    have he := hE e (by omega) (by omega)
    unfold rbS at K
    by_cases q : h (n + 1) e = -1
    · rw [if_pos (by omega)] at K
      refine R_iload dX6_waysOn_18 rfl (?_ : RR _ _ _ _ 20 _ _ _ _)
      refine R_iconst dX6_waysOn_20 (?_ : RR _ _ _ _ 21 _ _ _ _)
      refine R_iload_n dX6_waysOn_21 rfl (?_ : RR _ _ _ _ 22 _ _ _ _)
      refine R_imul dX6_waysOn_22 (?_ : RR _ _ _ _ 23 _ _ _ _)
      refine R_iconst dX6_waysOn_23 (?_ : RR _ _ _ _ 24 _ _ _ _)
      refine R_iadd dX6_waysOn_24 (?_ : RR _ _ _ _ 25 _ _ _ _)
      refine R_icmp_ge (t := 68) dX6_waysOn_25 rfl (fun c25 => ?_) (fun c25 => ?_)
      · exfalso; omega
      refine R_iload dX6_waysOn_28 rfl (?_ : RR _ _ _ _ 30 _ _ _ _)
      refine R_aload_n dX6_waysOn_30 rfl (?_ : RR _ _ _ _ 31 _ _ _ _)
      refine R_getr dX6_waysOn_31 flX6_50 cok_0 rfl (by decide) (?_ : RR _ _ _ _ 34 _ _ _ _)
      refine R_iload dX6_waysOn_34 rfl (?_ : RR _ _ _ _ 36 _ _ _ _)
      refine R_iald dX6_waysOn_36 (fun q36 => (?_ : RR _ _ _ _ 37 _ _ _ _))
      refine R_iconst dX6_waysOn_37 (?_ : RR _ _ _ _ 38 _ _ _ _)
      refine R_icmp_ne (t := 45) dX6_waysOn_38 rfl (fun c38 => ?_) (fun c38 => ?_)
      · exfalso; omega
      refine R_iconst dX6_waysOn_41 (?_ : RR _ _ _ _ 42 _ _ _ _)
      refine R_goto (t := 59) dX6_waysOn_42 rfl (?_ : RR _ _ _ _ 59 _ _ _ _)
      refine R_iadd dX6_waysOn_59 (?_ : RR _ _ _ _ 60 _ _ _ _)
      refine R_istore dX6_waysOn_60 (Nat.le_of_ble_eq_true rfl) (?_ : RR _ _ _ _ 62 [_, _, _, _, _, _] _ _ _)
      refine R_iinc dX6_waysOn_62 rfl (Nat.le_of_ble_eq_true rfl) (?_ : RR _ _ _ _ 65 [_, _, _, _, _, _] _ _ _)
      refine R_goto (t := 18) dX6_waysOn_65 rfl (?_ : RR _ _ _ _ 18 _ _ _ _)
      exact K
    · rw [if_neg (by omega)] at K
      refine R_iload dX6_waysOn_18 rfl (?_ : RR _ _ _ _ 20 _ _ _ _)
      refine R_iconst dX6_waysOn_20 (?_ : RR _ _ _ _ 21 _ _ _ _)
      refine R_iload_n dX6_waysOn_21 rfl (?_ : RR _ _ _ _ 22 _ _ _ _)
      refine R_imul dX6_waysOn_22 (?_ : RR _ _ _ _ 23 _ _ _ _)
      refine R_iconst dX6_waysOn_23 (?_ : RR _ _ _ _ 24 _ _ _ _)
      refine R_iadd dX6_waysOn_24 (?_ : RR _ _ _ _ 25 _ _ _ _)
      refine R_icmp_ge (t := 68) dX6_waysOn_25 rfl (fun c25 => ?_) (fun c25 => ?_)
      · exfalso; omega
      refine R_iload dX6_waysOn_28 rfl (?_ : RR _ _ _ _ 30 _ _ _ _)
      refine R_aload_n dX6_waysOn_30 rfl (?_ : RR _ _ _ _ 31 _ _ _ _)
      refine R_getr dX6_waysOn_31 flX6_50 cok_0 rfl (by decide) (?_ : RR _ _ _ _ 34 _ _ _ _)
      refine R_iload dX6_waysOn_34 rfl (?_ : RR _ _ _ _ 36 _ _ _ _)
      refine R_iald dX6_waysOn_36 (fun q36 => (?_ : RR _ _ _ _ 37 _ _ _ _))
      refine R_iconst dX6_waysOn_37 (?_ : RR _ _ _ _ 38 _ _ _ _)
      refine R_icmp_ne (t := 45) dX6_waysOn_38 rfl (fun c38 => ?_) (fun c38 => ?_)
      rotate_left
      · exfalso; omega
      refine R_aload_n dX6_waysOn_45 rfl (?_ : RR _ _ _ _ 46 _ _ _ _)
      refine R_iload_n dX6_waysOn_46 rfl (?_ : RR _ _ _ _ 47 _ _ _ _)
      refine R_iconst dX6_waysOn_47 (?_ : RR _ _ _ _ 48 _ _ _ _)
      refine R_iadd dX6_waysOn_48 (?_ : RR _ _ _ _ 49 _ _ _ _)
      refine R_aload_n dX6_waysOn_49 rfl (?_ : RR _ _ _ _ 50 _ _ _ _)
      refine R_getr dX6_waysOn_50 flX6_50 cok_0 rfl (by decide) (?_ : RR _ _ _ _ 53 _ _ _ _)
      refine R_iload dX6_waysOn_53 rfl (?_ : RR _ _ _ _ 55 _ _ _ _)
      refine R_iald dX6_waysOn_55 (fun q55 => (?_ : RR _ _ _ _ 56 _ _ _ _))
      refine R_cVi2 dX6_waysOn_56 mvX6_waysFrom mlX6_43 (by decide) (by decide) (Nat.le_of_ble_eq_true rfl) (Nat.le_of_ble_eq_true rfl) (T_X6_waysFrom) (?_ : RR _ _ _ _ 59 _ _ _ _)
      refine R_iadd dX6_waysOn_59 (?_ : RR _ _ _ _ 60 _ _ _ _)
      refine R_istore dX6_waysOn_60 (Nat.le_of_ble_eq_true rfl) (?_ : RR _ _ _ _ 62 [_, _, _, _, _, _] _ _ _)
      refine R_iinc dX6_waysOn_62 rfl (Nat.le_of_ble_eq_true rfl) (?_ : RR _ _ _ _ 65 [_, _, _, _, _, _] _ _ _)
      refine R_goto (t := 18) dX6_waysOn_65 rfl (?_ : RR _ _ _ _ 18 _ _ _ _)
      exact K
  have F : RR mX6_waysOn 1 0 0 18 [pR 138, pR n, pI k, pI c, pI (0 + rbS (h (n + 1)) (fun d => h 141 ((k + 1) * 9 + d)) (2 * c) + rbS (h (n + 1)) (fun d => h 141 ((k + 1) * 9 + d)) (2 * c + 1)), pI (2 * c + 1 + 1)] [] (shp0, rf0, h) Q := by
    refine R_iload dX6_waysOn_18 rfl (?_ : RR _ _ _ _ 20 _ _ _ _)
    refine R_iconst dX6_waysOn_20 (?_ : RR _ _ _ _ 21 _ _ _ _)
    refine R_iload_n dX6_waysOn_21 rfl (?_ : RR _ _ _ _ 22 _ _ _ _)
    refine R_imul dX6_waysOn_22 (?_ : RR _ _ _ _ 23 _ _ _ _)
    refine R_iconst dX6_waysOn_23 (?_ : RR _ _ _ _ 24 _ _ _ _)
    refine R_iadd dX6_waysOn_24 (?_ : RR _ _ _ _ 25 _ _ _ _)
    refine R_icmp_ge (t := 68) dX6_waysOn_25 rfl (fun c25 => ?_) (fun c25 => ?_)
    rotate_left
    · exfalso; omega
    refine R_iload dX6_waysOn_68 rfl (?_ : RR _ _ _ _ 70 _ _ _ _)
    exact R_ireturn dX6_waysOn_70 trivial hQ
  refine R_iload_n dX6_waysOn_0 rfl (?_ : RR _ _ _ _ 1 _ _ _ _)
  refine R_aload_n dX6_waysOn_1 rfl (?_ : RR _ _ _ _ 2 _ _ _ _)
  refine R_geti (z := 1) dX6_waysOn_2 flX6_25 cok_6 rfl (by decide) rfl (fun q2 => (?_ : RR _ _ _ _ 5 _ _ _ _))
  refine R_icmp_lt (t := 10) dX6_waysOn_5 rfl (fun c5 => ?_) (fun c5 => ?_)
  rotate_left
  · exfalso; omega
  refine R_iconst dX6_waysOn_10 (?_ : RR _ _ _ _ 11 _ _ _ _)
  refine R_istore dX6_waysOn_11 (Nat.le_of_ble_eq_true rfl) (?_ : RR _ _ _ _ 13 [_, _, _, _, _, _] _ _ _)
  refine R_iconst dX6_waysOn_13 (?_ : RR _ _ _ _ 14 _ _ _ _)
  refine R_iload_n dX6_waysOn_14 rfl (?_ : RR _ _ _ _ 15 _ _ _ _)
  refine R_imul dX6_waysOn_15 (?_ : RR _ _ _ _ 16 _ _ _ _)
  refine R_istore dX6_waysOn_16 (Nat.le_of_ble_eq_true rfl) (?_ : RR _ _ _ _ 18 [_, _, _, _, _, _] _ _ _)
  exact S (2 * c) 0 (by omega) (by omega) (S (2 * c + 1) _ (by omega) (by omega) F)
theorem pw_9 {a : Int} (ha : 0 ≤ a ∧ a < 9) : iShl 1 a = ((2 ^ a.toNat : Nat) : Int) := by
  obtain ⟨n, rfl⟩ := Int.eq_ofNat_of_zero_le ha.1
  rw [iShl_one n (by omega), Int.toNat_natCast]
theorem T_X6_reachedFrom {n R : Nat} {k : Nat} (hH : h n 0 = H) (hH9 : H ≤ 9) (hE : exB (h (n + 1))) (hR : h 140 k = R) (hR9 : R < 512) (hk : k ≤ 11) (ht : isNet n := by assumption) : MT mX6_reachedFrom 1 [pR 138, pR n, pI k] h (some (pI (rcS (h (n + 1)) (fun d => h 141 (((k : Int) + 1) * 9 + d)) R (2 * H)))) h := by
  obtain ⟨t0, t1, t2, t3, t4, t5, t6⟩ := id ht
  refine MT.of (fun Q hQ => (?_ : RR mX6_reachedFrom _ _ _ _ [pR 138, pR n, pI k, pU, pU, pU] _ _ _))
  obtain ⟨F, hF⟩ : ∃ F, F = rcS (h (n + 1)) (fun d => h 141 (((k : Int) + 1) * 9 + d)) R := ⟨_, rfl⟩
  rw [← hF] at hQ
  have hFl : ∀ e : Nat, e ≤ 2 * H → F e < 2 ^ 9 := fun e he => by
    rw [hF]
    exact rcS_lt (H := 9) (fun i hi => by have := hE i (by omega) (by omega); omega)
  have L : ∀ (j e : Nat) (w5 : PV), e + j = 2 * H → RR mX6_reachedFrom 1 0 0 5 [pR 138, pR n, pI k, pI (F e), pI e, w5] [] (shp0, rf0, h) Q := by
    intro j
    induction j with
    | zero =>
      intro e w5 he
      obtain rfl : e = 2 * H := by omega
      refine R_iload dX6_reachedFrom_5 rfl (?_ : RR _ _ _ _ 7 _ _ _ _)
      refine R_iconst dX6_reachedFrom_7 (?_ : RR _ _ _ _ 8 _ _ _ _)
      refine R_aload_n dX6_reachedFrom_8 rfl (?_ : RR _ _ _ _ 9 _ _ _ _)
      refine R_geti (z := 0) dX6_reachedFrom_9 flX6_34 cok_0 rfl (by decide) rfl (fun q9 => (?_ : RR _ _ _ _ 12 _ _ _ _))
      rw [hH] at q9 ⊢
      refine R_imul dX6_reachedFrom_12 (?_ : RR _ _ _ _ 13 _ _ _ _)
      refine R_icmp_ge (t := 91) dX6_reachedFrom_13 rfl (fun c13 => ?_) (fun c13 => ?_)
      rotate_left
      · exfalso; omega
      refine R_iload_n dX6_reachedFrom_91 rfl (?_ : RR _ _ _ _ 92 _ _ _ _)
      exact R_ireturn dX6_reachedFrom_92 trivial hQ
    | succ j ih =>
      intro e w5 he
      have hx := hE e (by omega) (by omega)
      have hfl := hFl e (by omega)
      have IH := fun w5 => ih (e + 1) w5 (by omega)
      have e9 : F (e + 1) = if R.testBit (e / 2) = true ∧ h (n + 1) e ≠ -1 ∧ 0 < h 141 (((k : Int) + 1) * 9 + h (n + 1) e) then F e ||| 2 ^ (h (n + 1) e).toNat else F e := by rw [hF]; rfl
      rw [e9] at IH
      have ed : (e : Int) / 2 = ((e / 2 : Nat) : Int) := by omega
      have hbit := iBit (s := R) (i := e / 2) (by omega) (by omega)
      by_cases q1 : R.testBit (e / 2) = true
      · rw [if_pos q1] at hbit
        by_cases q2 : h (n + 1) e = -1
        · rw [if_neg (fun z => z.2.1 q2)] at IH
          refine R_iload dX6_reachedFrom_5 rfl (?_ : RR _ _ _ _ 7 _ _ _ _)
          refine R_iconst dX6_reachedFrom_7 (?_ : RR _ _ _ _ 8 _ _ _ _)
          refine R_aload_n dX6_reachedFrom_8 rfl (?_ : RR _ _ _ _ 9 _ _ _ _)
          refine R_geti (z := 0) dX6_reachedFrom_9 flX6_34 cok_0 rfl (by decide) rfl (fun q9 => (?_ : RR _ _ _ _ 12 _ _ _ _))
          rw [hH] at q9 ⊢
          refine R_imul dX6_reachedFrom_12 (?_ : RR _ _ _ _ 13 _ _ _ _)
          refine R_icmp_ge (t := 91) dX6_reachedFrom_13 rfl (fun c13 => ?_) (fun c13 => ?_)
          · exfalso; omega
          refine R_aload_n dX6_reachedFrom_16 rfl (?_ : RR _ _ _ _ 17 _ _ _ _)
          refine R_getr dX6_reachedFrom_17 flX6_15 cok_6 rfl (by decide) (?_ : RR _ _ _ _ 20 _ _ _ _)
          refine R_iload_n dX6_reachedFrom_20 rfl (?_ : RR _ _ _ _ 21 _ _ _ _)
          refine R_iald dX6_reachedFrom_21 (fun q21 => (?_ : RR _ _ _ _ 22 _ _ _ _))
          rw [hR] at q21 ⊢
          refine R_iload dX6_reachedFrom_22 rfl (?_ : RR _ _ _ _ 24 _ _ _ _)
          refine R_iconst dX6_reachedFrom_24 (?_ : RR _ _ _ _ 25 _ _ _ _)
          refine R_idiv dX6_reachedFrom_25 (by omega) (by omega) (?_ : RR _ _ _ _ 26 _ _ _ _)
          rw [iDiv_pos (by omega) (by omega) (by omega) (by omega), ed]
          refine R_ishr dX6_reachedFrom_26 (?_ : RR _ _ _ _ 27 _ _ _ _)
          refine R_iconst dX6_reachedFrom_27 (?_ : RR _ _ _ _ 28 _ _ _ _)
          refine R_iand dX6_reachedFrom_28 (?_ : RR _ _ _ _ 29 _ _ _ _)
          rw [hbit]
          refine R_iconst dX6_reachedFrom_29 (?_ : RR _ _ _ _ 30 _ _ _ _)
          refine R_icmp_ne (t := 37) dX6_reachedFrom_30 rfl (fun c30 => ?_) (fun c30 => ?_)
          · exfalso; omega
          refine R_iconst dX6_reachedFrom_33 (?_ : RR _ _ _ _ 34 _ _ _ _)
          refine R_goto (t := 38) dX6_reachedFrom_34 rfl (?_ : RR _ _ _ _ 38 _ _ _ _)
          refine R_istore dX6_reachedFrom_38 (Nat.le_of_ble_eq_true rfl) (?_ : RR _ _ _ _ 40 [_, _, _, _, _, _] _ _ _)
          refine R_iload dX6_reachedFrom_40 rfl (?_ : RR _ _ _ _ 42 _ _ _ _)
          refine R_if_eq (t := 85) dX6_reachedFrom_42 rfl (fun c42 => ?_) (fun c42 => ?_)
          · exfalso; omega
          refine R_aload_n dX6_reachedFrom_45 rfl (?_ : RR _ _ _ _ 46 _ _ _ _)
          refine R_getr dX6_reachedFrom_46 flX6_50 cok_0 rfl (by decide) (?_ : RR _ _ _ _ 49 _ _ _ _)
          refine R_iload dX6_reachedFrom_49 rfl (?_ : RR _ _ _ _ 51 _ _ _ _)
          refine R_iald dX6_reachedFrom_51 (fun q51 => (?_ : RR _ _ _ _ 52 _ _ _ _))
          refine R_iconst dX6_reachedFrom_52 (?_ : RR _ _ _ _ 53 _ _ _ _)
          refine R_icmp_eq (t := 85) dX6_reachedFrom_53 rfl (fun c53 => ?_) (fun c53 => ?_)
          rotate_left
          · exfalso; omega
          refine R_iinc dX6_reachedFrom_85 rfl (Nat.le_of_ble_eq_true rfl) (?_ : RR _ _ _ _ 88 [_, _, _, _, _, _] _ _ _)
          refine R_goto (t := 5) dX6_reachedFrom_88 rfl (?_ : RR _ _ _ _ 5 _ _ _ _)
          exact IH _
        · by_cases q3 : 0 < h 141 (((k : Int) + 1) * 9 + h (n + 1) e)
          · rw [if_pos ⟨q1, q2, q3⟩] at IH
            have hsh := pw_9 (a := h (n + 1) e) (by omega)
            have hp : 2 ^ (h (n + 1) e).toNat < 2 ^ 9 := Nat.pow_lt_pow_right (by omega) (by omega)
            have hor := iOr_nat (a := F e) (b := 2 ^ (h (n + 1) e).toNat) (by omega) (by omega)
            refine R_iload dX6_reachedFrom_5 rfl (?_ : RR _ _ _ _ 7 _ _ _ _)
            refine R_iconst dX6_reachedFrom_7 (?_ : RR _ _ _ _ 8 _ _ _ _)
            refine R_aload_n dX6_reachedFrom_8 rfl (?_ : RR _ _ _ _ 9 _ _ _ _)
            refine R_geti (z := 0) dX6_reachedFrom_9 flX6_34 cok_0 rfl (by decide) rfl (fun q9 => (?_ : RR _ _ _ _ 12 _ _ _ _))
            rw [hH] at q9 ⊢
            refine R_imul dX6_reachedFrom_12 (?_ : RR _ _ _ _ 13 _ _ _ _)
            refine R_icmp_ge (t := 91) dX6_reachedFrom_13 rfl (fun c13 => ?_) (fun c13 => ?_)
            · exfalso; omega
            refine R_aload_n dX6_reachedFrom_16 rfl (?_ : RR _ _ _ _ 17 _ _ _ _)
            refine R_getr dX6_reachedFrom_17 flX6_15 cok_6 rfl (by decide) (?_ : RR _ _ _ _ 20 _ _ _ _)
            refine R_iload_n dX6_reachedFrom_20 rfl (?_ : RR _ _ _ _ 21 _ _ _ _)
            refine R_iald dX6_reachedFrom_21 (fun q21 => (?_ : RR _ _ _ _ 22 _ _ _ _))
            rw [hR] at q21 ⊢
            refine R_iload dX6_reachedFrom_22 rfl (?_ : RR _ _ _ _ 24 _ _ _ _)
            refine R_iconst dX6_reachedFrom_24 (?_ : RR _ _ _ _ 25 _ _ _ _)
            refine R_idiv dX6_reachedFrom_25 (by omega) (by omega) (?_ : RR _ _ _ _ 26 _ _ _ _)
            rw [iDiv_pos (by omega) (by omega) (by omega) (by omega), ed]
            refine R_ishr dX6_reachedFrom_26 (?_ : RR _ _ _ _ 27 _ _ _ _)
            refine R_iconst dX6_reachedFrom_27 (?_ : RR _ _ _ _ 28 _ _ _ _)
            refine R_iand dX6_reachedFrom_28 (?_ : RR _ _ _ _ 29 _ _ _ _)
            rw [hbit]
            refine R_iconst dX6_reachedFrom_29 (?_ : RR _ _ _ _ 30 _ _ _ _)
            refine R_icmp_ne (t := 37) dX6_reachedFrom_30 rfl (fun c30 => ?_) (fun c30 => ?_)
            · exfalso; omega
            refine R_iconst dX6_reachedFrom_33 (?_ : RR _ _ _ _ 34 _ _ _ _)
            refine R_goto (t := 38) dX6_reachedFrom_34 rfl (?_ : RR _ _ _ _ 38 _ _ _ _)
            refine R_istore dX6_reachedFrom_38 (Nat.le_of_ble_eq_true rfl) (?_ : RR _ _ _ _ 40 [_, _, _, _, _, _] _ _ _)
            refine R_iload dX6_reachedFrom_40 rfl (?_ : RR _ _ _ _ 42 _ _ _ _)
            refine R_if_eq (t := 85) dX6_reachedFrom_42 rfl (fun c42 => ?_) (fun c42 => ?_)
            · exfalso; omega
            refine R_aload_n dX6_reachedFrom_45 rfl (?_ : RR _ _ _ _ 46 _ _ _ _)
            refine R_getr dX6_reachedFrom_46 flX6_50 cok_0 rfl (by decide) (?_ : RR _ _ _ _ 49 _ _ _ _)
            refine R_iload dX6_reachedFrom_49 rfl (?_ : RR _ _ _ _ 51 _ _ _ _)
            refine R_iald dX6_reachedFrom_51 (fun q51 => (?_ : RR _ _ _ _ 52 _ _ _ _))
            refine R_iconst dX6_reachedFrom_52 (?_ : RR _ _ _ _ 53 _ _ _ _)
            refine R_icmp_eq (t := 85) dX6_reachedFrom_53 rfl (fun c53 => ?_) (fun c53 => ?_)
            · exfalso; omega
            refine R_aload_n dX6_reachedFrom_56 rfl (?_ : RR _ _ _ _ 57 _ _ _ _)
            refine R_iload_n dX6_reachedFrom_57 rfl (?_ : RR _ _ _ _ 58 _ _ _ _)
            refine R_iconst dX6_reachedFrom_58 (?_ : RR _ _ _ _ 59 _ _ _ _)
            refine R_iadd dX6_reachedFrom_59 (?_ : RR _ _ _ _ 60 _ _ _ _)
            refine R_aload_n dX6_reachedFrom_60 rfl (?_ : RR _ _ _ _ 61 _ _ _ _)
            refine R_getr dX6_reachedFrom_61 flX6_50 cok_0 rfl (by decide) (?_ : RR _ _ _ _ 64 _ _ _ _)
            refine R_iload dX6_reachedFrom_64 rfl (?_ : RR _ _ _ _ 66 _ _ _ _)
            refine R_iald dX6_reachedFrom_66 (fun q66 => (?_ : RR _ _ _ _ 67 _ _ _ _))
            refine R_nzf (fun hz => ?_)
            have hq67 := nz_i hz (a := 141) (k := 100) (n := 117) rfl (by decide) (((k : Int) + 1) * 9 + h (n + 1) e)
            refine R_cVi2 dX6_reachedFrom_67 mvX6_waysFrom mlX6_43 (by decide) (by decide) (Nat.le_of_ble_eq_true rfl) (Nat.le_of_ble_eq_true rfl) (T_X6_waysFrom) (?_ : RR _ _ _ _ 70 _ _ _ _)
            refine R_if_le (t := 85) dX6_reachedFrom_70 rfl (fun c70 => ?_) (fun c70 => ?_)
            · exfalso; omega
            refine R_iload_n dX6_reachedFrom_73 rfl (?_ : RR _ _ _ _ 74 _ _ _ _)
            refine R_iconst dX6_reachedFrom_74 (?_ : RR _ _ _ _ 75 _ _ _ _)
            refine R_aload_n dX6_reachedFrom_75 rfl (?_ : RR _ _ _ _ 76 _ _ _ _)
            refine R_getr dX6_reachedFrom_76 flX6_50 cok_0 rfl (by decide) (?_ : RR _ _ _ _ 79 _ _ _ _)
            refine R_iload dX6_reachedFrom_79 rfl (?_ : RR _ _ _ _ 81 _ _ _ _)
            refine R_iald dX6_reachedFrom_81 (fun q81 => (?_ : RR _ _ _ _ 82 _ _ _ _))
            refine R_ishl dX6_reachedFrom_82 (?_ : RR _ _ _ _ 83 _ _ _ _)
            refine R_ior dX6_reachedFrom_83 (?_ : RR _ _ _ _ 84 _ _ _ _)
            rw [hsh, hor]
            refine R_istore_n dX6_reachedFrom_84 (Nat.le_of_ble_eq_true rfl) (?_ : RR _ _ _ _ 85 [_, _, _, _, _, _] _ _ _)
            refine R_iinc dX6_reachedFrom_85 rfl (Nat.le_of_ble_eq_true rfl) (?_ : RR _ _ _ _ 88 [_, _, _, _, _, _] _ _ _)
            refine R_goto (t := 5) dX6_reachedFrom_88 rfl (?_ : RR _ _ _ _ 5 _ _ _ _)
            exact IH _
          · rw [if_neg (fun z => q3 z.2.2)] at IH
            refine R_iload dX6_reachedFrom_5 rfl (?_ : RR _ _ _ _ 7 _ _ _ _)
            refine R_iconst dX6_reachedFrom_7 (?_ : RR _ _ _ _ 8 _ _ _ _)
            refine R_aload_n dX6_reachedFrom_8 rfl (?_ : RR _ _ _ _ 9 _ _ _ _)
            refine R_geti (z := 0) dX6_reachedFrom_9 flX6_34 cok_0 rfl (by decide) rfl (fun q9 => (?_ : RR _ _ _ _ 12 _ _ _ _))
            rw [hH] at q9 ⊢
            refine R_imul dX6_reachedFrom_12 (?_ : RR _ _ _ _ 13 _ _ _ _)
            refine R_icmp_ge (t := 91) dX6_reachedFrom_13 rfl (fun c13 => ?_) (fun c13 => ?_)
            · exfalso; omega
            refine R_aload_n dX6_reachedFrom_16 rfl (?_ : RR _ _ _ _ 17 _ _ _ _)
            refine R_getr dX6_reachedFrom_17 flX6_15 cok_6 rfl (by decide) (?_ : RR _ _ _ _ 20 _ _ _ _)
            refine R_iload_n dX6_reachedFrom_20 rfl (?_ : RR _ _ _ _ 21 _ _ _ _)
            refine R_iald dX6_reachedFrom_21 (fun q21 => (?_ : RR _ _ _ _ 22 _ _ _ _))
            rw [hR] at q21 ⊢
            refine R_iload dX6_reachedFrom_22 rfl (?_ : RR _ _ _ _ 24 _ _ _ _)
            refine R_iconst dX6_reachedFrom_24 (?_ : RR _ _ _ _ 25 _ _ _ _)
            refine R_idiv dX6_reachedFrom_25 (by omega) (by omega) (?_ : RR _ _ _ _ 26 _ _ _ _)
            rw [iDiv_pos (by omega) (by omega) (by omega) (by omega), ed]
            refine R_ishr dX6_reachedFrom_26 (?_ : RR _ _ _ _ 27 _ _ _ _)
            refine R_iconst dX6_reachedFrom_27 (?_ : RR _ _ _ _ 28 _ _ _ _)
            refine R_iand dX6_reachedFrom_28 (?_ : RR _ _ _ _ 29 _ _ _ _)
            rw [hbit]
            refine R_iconst dX6_reachedFrom_29 (?_ : RR _ _ _ _ 30 _ _ _ _)
            refine R_icmp_ne (t := 37) dX6_reachedFrom_30 rfl (fun c30 => ?_) (fun c30 => ?_)
            · exfalso; omega
            refine R_iconst dX6_reachedFrom_33 (?_ : RR _ _ _ _ 34 _ _ _ _)
            refine R_goto (t := 38) dX6_reachedFrom_34 rfl (?_ : RR _ _ _ _ 38 _ _ _ _)
            refine R_istore dX6_reachedFrom_38 (Nat.le_of_ble_eq_true rfl) (?_ : RR _ _ _ _ 40 [_, _, _, _, _, _] _ _ _)
            refine R_iload dX6_reachedFrom_40 rfl (?_ : RR _ _ _ _ 42 _ _ _ _)
            refine R_if_eq (t := 85) dX6_reachedFrom_42 rfl (fun c42 => ?_) (fun c42 => ?_)
            · exfalso; omega
            refine R_aload_n dX6_reachedFrom_45 rfl (?_ : RR _ _ _ _ 46 _ _ _ _)
            refine R_getr dX6_reachedFrom_46 flX6_50 cok_0 rfl (by decide) (?_ : RR _ _ _ _ 49 _ _ _ _)
            refine R_iload dX6_reachedFrom_49 rfl (?_ : RR _ _ _ _ 51 _ _ _ _)
            refine R_iald dX6_reachedFrom_51 (fun q51 => (?_ : RR _ _ _ _ 52 _ _ _ _))
            refine R_iconst dX6_reachedFrom_52 (?_ : RR _ _ _ _ 53 _ _ _ _)
            refine R_icmp_eq (t := 85) dX6_reachedFrom_53 rfl (fun c53 => ?_) (fun c53 => ?_)
            · exfalso; omega
            refine R_aload_n dX6_reachedFrom_56 rfl (?_ : RR _ _ _ _ 57 _ _ _ _)
            refine R_iload_n dX6_reachedFrom_57 rfl (?_ : RR _ _ _ _ 58 _ _ _ _)
            refine R_iconst dX6_reachedFrom_58 (?_ : RR _ _ _ _ 59 _ _ _ _)
            refine R_iadd dX6_reachedFrom_59 (?_ : RR _ _ _ _ 60 _ _ _ _)
            refine R_aload_n dX6_reachedFrom_60 rfl (?_ : RR _ _ _ _ 61 _ _ _ _)
            refine R_getr dX6_reachedFrom_61 flX6_50 cok_0 rfl (by decide) (?_ : RR _ _ _ _ 64 _ _ _ _)
            refine R_iload dX6_reachedFrom_64 rfl (?_ : RR _ _ _ _ 66 _ _ _ _)
            refine R_iald dX6_reachedFrom_66 (fun q66 => (?_ : RR _ _ _ _ 67 _ _ _ _))
            refine R_nzf (fun hz => ?_)
            have hq67 := nz_i hz (a := 141) (k := 100) (n := 117) rfl (by decide) (((k : Int) + 1) * 9 + h (n + 1) e)
            refine R_cVi2 dX6_reachedFrom_67 mvX6_waysFrom mlX6_43 (by decide) (by decide) (Nat.le_of_ble_eq_true rfl) (Nat.le_of_ble_eq_true rfl) (T_X6_waysFrom) (?_ : RR _ _ _ _ 70 _ _ _ _)
            refine R_if_le (t := 85) dX6_reachedFrom_70 rfl (fun c70 => ?_) (fun c70 => ?_)
            rotate_left
            · exfalso; omega
            refine R_iinc dX6_reachedFrom_85 rfl (Nat.le_of_ble_eq_true rfl) (?_ : RR _ _ _ _ 88 [_, _, _, _, _, _] _ _ _)
            refine R_goto (t := 5) dX6_reachedFrom_88 rfl (?_ : RR _ _ _ _ 5 _ _ _ _)
            exact IH _
      · rw [if_neg q1] at hbit
        rw [if_neg (fun z => q1 z.1)] at IH
        refine R_iload dX6_reachedFrom_5 rfl (?_ : RR _ _ _ _ 7 _ _ _ _)
        refine R_iconst dX6_reachedFrom_7 (?_ : RR _ _ _ _ 8 _ _ _ _)
        refine R_aload_n dX6_reachedFrom_8 rfl (?_ : RR _ _ _ _ 9 _ _ _ _)
        refine R_geti (z := 0) dX6_reachedFrom_9 flX6_34 cok_0 rfl (by decide) rfl (fun q9 => (?_ : RR _ _ _ _ 12 _ _ _ _))
        rw [hH] at q9 ⊢
        refine R_imul dX6_reachedFrom_12 (?_ : RR _ _ _ _ 13 _ _ _ _)
        refine R_icmp_ge (t := 91) dX6_reachedFrom_13 rfl (fun c13 => ?_) (fun c13 => ?_)
        · exfalso; omega
        refine R_aload_n dX6_reachedFrom_16 rfl (?_ : RR _ _ _ _ 17 _ _ _ _)
        refine R_getr dX6_reachedFrom_17 flX6_15 cok_6 rfl (by decide) (?_ : RR _ _ _ _ 20 _ _ _ _)
        refine R_iload_n dX6_reachedFrom_20 rfl (?_ : RR _ _ _ _ 21 _ _ _ _)
        refine R_iald dX6_reachedFrom_21 (fun q21 => (?_ : RR _ _ _ _ 22 _ _ _ _))
        rw [hR] at q21 ⊢
        refine R_iload dX6_reachedFrom_22 rfl (?_ : RR _ _ _ _ 24 _ _ _ _)
        refine R_iconst dX6_reachedFrom_24 (?_ : RR _ _ _ _ 25 _ _ _ _)
        refine R_idiv dX6_reachedFrom_25 (by omega) (by omega) (?_ : RR _ _ _ _ 26 _ _ _ _)
        rw [iDiv_pos (by omega) (by omega) (by omega) (by omega), ed]
        refine R_ishr dX6_reachedFrom_26 (?_ : RR _ _ _ _ 27 _ _ _ _)
        refine R_iconst dX6_reachedFrom_27 (?_ : RR _ _ _ _ 28 _ _ _ _)
        refine R_iand dX6_reachedFrom_28 (?_ : RR _ _ _ _ 29 _ _ _ _)
        rw [hbit]
        refine R_iconst dX6_reachedFrom_29 (?_ : RR _ _ _ _ 30 _ _ _ _)
        refine R_icmp_ne (t := 37) dX6_reachedFrom_30 rfl (fun c30 => ?_) (fun c30 => ?_)
        rotate_left
        · exfalso; omega
        refine R_iconst dX6_reachedFrom_37 (?_ : RR _ _ _ _ 38 _ _ _ _)
        refine R_istore dX6_reachedFrom_38 (Nat.le_of_ble_eq_true rfl) (?_ : RR _ _ _ _ 40 [_, _, _, _, _, _] _ _ _)
        refine R_iload dX6_reachedFrom_40 rfl (?_ : RR _ _ _ _ 42 _ _ _ _)
        refine R_if_eq (t := 85) dX6_reachedFrom_42 rfl (fun c42 => ?_) (fun c42 => ?_)
        rotate_left
        · exfalso; omega
        refine R_iinc dX6_reachedFrom_85 rfl (Nat.le_of_ble_eq_true rfl) (?_ : RR _ _ _ _ 88 [_, _, _, _, _, _] _ _ _)
        refine R_goto (t := 5) dX6_reachedFrom_88 rfl (?_ : RR _ _ _ _ 5 _ _ _ _)
        exact IH _
  refine R_iconst dX6_reachedFrom_0 (?_ : RR _ _ _ _ 1 _ _ _ _)
  refine R_istore_n dX6_reachedFrom_1 (Nat.le_of_ble_eq_true rfl) (?_ : RR _ _ _ _ 2 [_, _, _, _, _, _] _ _ _)
  refine R_iconst dX6_reachedFrom_2 (?_ : RR _ _ _ _ 3 _ _ _ _)
  refine R_istore dX6_reachedFrom_3 (Nat.le_of_ble_eq_true rfl) (?_ : RR _ _ _ _ 5 [_, _, _, _, _, _] _ _ _)
  have L0 := L (2 * H) 0 pU (by omega)
  rw [show F 0 = 0 by rw [hF]; rfl] at L0
  exact L0
end TR
