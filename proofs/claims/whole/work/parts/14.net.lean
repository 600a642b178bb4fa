/-- a loop by numbers -/
def it {α : Type} (F : Nat → α → α) (x : α) : Nat → α
  | 0 => x
  | n + 1 => F n (it F x n)
theorem it_inv {α : Type} {F : Nat → α → α} {x : α} {n : Nat} (P : Nat → α → Prop) (h0 : P 0 x) (hs : ∀ k y, k < n → P k y → P (k + 1) (F k y)) : ∀ k, k ≤ n → P k (it F x k)
  | 0, _ => h0
  | k + 1, hk => hs k _ (by omega) (it_inv P h0 hs k (by omega))
def bnd (f : Int → Int) : Prop := ∀ z : Int, 0 ≤ z → z < 81 → 0 ≤ f z ∧ f z ≤ 100000
theorem bnd_fup {f : Int → Int} {i v : Int} (h : bnd f) (hv : 0 ≤ v ∧ v ≤ 100000) : bnd (fup f i v) := fun z h1 h2 => by
  unfold fup
  split
  · exact hv
  · exact h z h1 h2
def exB (f : Int → Int) : Prop := ∀ e : Int, 0 ≤ e → e < 18 → -1 ≤ f e ∧ f e ≤ 8
def miB (f : Int → Int) : Prop := ∀ e : Int, 0 ≤ e → e < 18 → 0 ≤ f e ∧ f e ≤ 9
/-- an exit begins a shortest way -/
def begW (ex mi ds : Int → Int) (e w : Int) : Bool := decide (ex e ≠ -1 ∧ mi e + ds (ex e * 9 + w) = ds (e / 2 * 9 + w))
theorem T_X0_beginsWay {t : Nat} {e w : Int} {h : Nat → Int → Int} (hE : exB (h (t + 1))) (hM : miB (h (t + 2))) (hB : bnd (h (t + 3))) (ht : isNet t := by assumption) (he : 0 ≤ e ∧ e < 18 := by omega) (hw : 0 ≤ w ∧ w < 9 := by omega) : MT mX0_beginsWay 1 [pR t, pI e, pI w] h (some (pI (if begW (h (t + 1)) (h (t + 2)) (h (t + 3)) e w then 1 else 0))) h := by
  obtain ⟨t0, t1, t2, t3, t4, t5, t6⟩ := id ht
  have e1 := hE e he.1 he.2
  have e2 := hM e he.1 he.2
  have e4 := hB (e / 2 * 9 + w) (by omega) (by omega)
  refine MT.of (fun Q hQ => (?_ : RR mX0_beginsWay _ _ _ _ [pR t, pI e, pI w] _ _ _))
  refine R_aload_n dX0_beginsWay_0 rfl (?_ : RR _ _ _ _ 1 _ _ _ _)
  refine R_getr dX0_beginsWay_1 flX0_15 cok_0 rfl (by decide) (?_ : RR _ _ _ _ 4 _ _ _ _)
  refine R_iload_n dX0_beginsWay_4 rfl (?_ : RR _ _ _ _ 5 _ _ _ _)
  refine R_iald dX0_beginsWay_5 (fun q5 => (?_ : RR _ _ _ _ 6 _ _ _ _))
  refine R_iconst dX0_beginsWay_6 (?_ : RR _ _ _ _ 7 _ _ _ _)
  refine R_icmp_eq (t := 43) dX0_beginsWay_7 rfl (fun c7 => ?_) (fun c7 => ?_)
  · refine R_iconst dX0_beginsWay_43 (?_ : RR _ _ _ _ 44 _ _ _ _)
    exact R_ireturn dX0_beginsWay_44 (by first | exact Or.inl rfl | exact Or.inr rfl | exact ok_ite | omega) (by unfold begW at hQ; simpa [*] using hQ)
  · have e3 := hB (h (t + 1) e * 9 + w) (by omega) (by omega)
    refine R_aload_n dX0_beginsWay_10 rfl (?_ : RR _ _ _ _ 11 _ _ _ _)
    refine R_getr dX0_beginsWay_11 flX0_19 cok_0 rfl (by decide) (?_ : RR _ _ _ _ 14 _ _ _ _)
    refine R_iload_n dX0_beginsWay_14 rfl (?_ : RR _ _ _ _ 15 _ _ _ _)
    refine R_iald dX0_beginsWay_15 (fun q15 => (?_ : RR _ _ _ _ 16 _ _ _ _))
    refine R_aload_n dX0_beginsWay_16 rfl (?_ : RR _ _ _ _ 17 _ _ _ _)
    refine R_aload_n dX0_beginsWay_17 rfl (?_ : RR _ _ _ _ 18 _ _ _ _)
    refine R_getr dX0_beginsWay_18 flX0_15 cok_0 rfl (by decide) (?_ : RR _ _ _ _ 21 _ _ _ _)
    refine R_iload_n dX0_beginsWay_21 rfl (?_ : RR _ _ _ _ 22 _ _ _ _)
    refine R_iald dX0_beginsWay_22 (fun q22 => (?_ : RR _ _ _ _ 23 _ _ _ _))
    refine R_iload_n dX0_beginsWay_23 rfl (?_ : RR _ _ _ _ 24 _ _ _ _)
    refine R_cVi2 dX0_beginsWay_24 mvX0_between mlX0_62 (by decide) (by decide) (Nat.le_of_ble_eq_true rfl) (Nat.le_of_ble_eq_true rfl) (T_X0_between) (?_ : RR _ _ _ _ 27 _ _ _ _)
    refine R_iadd dX0_beginsWay_27 (?_ : RR _ _ _ _ 28 _ _ _ _)
    refine R_aload_n dX0_beginsWay_28 rfl (?_ : RR _ _ _ _ 29 _ _ _ _)
    refine R_iload_n dX0_beginsWay_29 rfl (?_ : RR _ _ _ _ 30 _ _ _ _)
    refine R_iconst dX0_beginsWay_30 (?_ : RR _ _ _ _ 31 _ _ _ _)
    refine R_idiv dX0_beginsWay_31 (by omega) (by omega) (?_ : RR _ _ _ _ 32 _ _ _ _)
    rw [iDiv_pos (by omega) (by omega) (by omega) (by omega)]
    refine R_iload_n dX0_beginsWay_32 rfl (?_ : RR _ _ _ _ 33 _ _ _ _)
    refine R_cVi2 dX0_beginsWay_33 mvX0_between mlX0_62 (by decide) (by decide) (Nat.le_of_ble_eq_true rfl) (Nat.le_of_ble_eq_true rfl) (T_X0_between) (?_ : RR _ _ _ _ 36 _ _ _ _)
    refine R_icmp_ne (t := 43) dX0_beginsWay_36 rfl (fun c36 => ?_) (fun c36 => ?_)
    · refine R_iconst dX0_beginsWay_43 (?_ : RR _ _ _ _ 44 _ _ _ _)
      exact R_ireturn dX0_beginsWay_44 (by first | exact Or.inl rfl | exact Or.inr rfl | exact ok_ite | omega) (by unfold begW at hQ; simpa [*] using hQ)
    · refine R_iconst dX0_beginsWay_39 (?_ : RR _ _ _ _ 40 _ _ _ _)
      refine R_goto (t := 44) dX0_beginsWay_40 rfl (?_ : RR _ _ _ _ 44 _ _ _ _)
      exact R_ireturn dX0_beginsWay_44 (by first | exact Or.inl rfl | exact Or.inr rfl | exact ok_ite | omega) (by unfold begW at hQ; simpa [*] using hQ)
def wishS (ex mi ds : Int → Int) (a w : Int) : Int := if a = w ∨ 100000 ≤ ds (a * 9 + w) then 2 else if begW ex mi ds (2 * a) w then 0 else 1
theorem wishS_b {ex mi ds : Int → Int} {a w : Int} : 0 ≤ wishS ex mi ds a w ∧ wishS ex mi ds a w ≤ 2 := by
  unfold wishS
  repeat' split
  all_goals omega
theorem T_X0_wishAt {t : Nat} {a w : Int} {h : Nat → Int → Int} (hE : exB (h (t + 1))) (hM : miB (h (t + 2))) (hB : bnd (h (t + 3))) (ht : isNet t := by assumption) (ha : 0 ≤ a ∧ a < 9 := by omega) (hw : 0 ≤ w ∧ w < 9 := by omega) : MT mX0_wishAt 2 [pR t, pI a, pI w] h (some (pI (wishS (h (t + 1)) (h (t + 2)) (h (t + 3)) a w))) h := by
  obtain ⟨t0, t1, t2, t3, t4, t5, t6⟩ := id ht
  have e4 := hB (a * 9 + w) (by omega) (by omega)
  refine MT.of (fun Q hQ => (?_ : RR mX0_wishAt _ _ _ _ [pR t, pI a, pI w] _ _ _))
  unfold wishS at hQ
  refine R_iload_n dX0_wishAt_0 rfl (?_ : RR _ _ _ _ 1 _ _ _ _)
  refine R_iload_n dX0_wishAt_1 rfl (?_ : RR _ _ _ _ 2 _ _ _ _)
  refine R_icmp_eq (t := 16) dX0_wishAt_2 rfl (fun c2 => ?_) (fun c2 => ?_)
  · rw [if_pos (by omega)] at hQ
    refine R_iconst dX0_wishAt_16 (?_ : RR _ _ _ _ 17 _ _ _ _)
    exact R_ireturn dX0_wishAt_17 trivial hQ
  · refine R_aload_n dX0_wishAt_5 rfl (?_ : RR _ _ _ _ 6 _ _ _ _)
    refine R_iload_n dX0_wishAt_6 rfl (?_ : RR _ _ _ _ 7 _ _ _ _)
    refine R_iload_n dX0_wishAt_7 rfl (?_ : RR _ _ _ _ 8 _ _ _ _)
    refine R_cVi2 dX0_wishAt_8 mvX0_between mlX0_62 (by decide) (by decide) (Nat.le_of_ble_eq_true rfl) (Nat.le_of_ble_eq_true rfl) (T_X0_between) (?_ : RR _ _ _ _ 11 _ _ _ _)
    refine R_ldc (z := 100000) dX0_wishAt_11 kwX0_51 (?_ : RR _ _ _ _ 13 _ _ _ _)
    refine R_icmp_lt (t := 18) dX0_wishAt_13 rfl (fun c13 => ?_) (fun c13 => ?_)
    · rw [if_neg (by omega)] at hQ
      refine R_aload_n dX0_wishAt_18 rfl (?_ : RR _ _ _ _ 19 _ _ _ _)
      refine R_iconst dX0_wishAt_19 (?_ : RR _ _ _ _ 20 _ _ _ _)
      refine R_iload_n dX0_wishAt_20 rfl (?_ : RR _ _ _ _ 21 _ _ _ _)
      refine R_imul dX0_wishAt_21 (?_ : RR _ _ _ _ 22 _ _ _ _)
      refine R_iload_n dX0_wishAt_22 rfl (?_ : RR _ _ _ _ 23 _ _ _ _)
      refine R_cVi2 dX0_wishAt_23 mvX0_beginsWay mlX0_65 (by decide) (by decide) (Nat.le_of_ble_eq_true rfl) (Nat.le_of_ble_eq_true rfl) (T_X0_beginsWay hE hM hB) (?_ : RR _ _ _ _ 26 _ _ _ _)
      refine R_if_eq (t := 33) dX0_wishAt_26 rfl (fun c26 => ?_) (fun c26 => ?_)
      · refine R_iconst dX0_wishAt_33 (?_ : RR _ _ _ _ 34 _ _ _ _)
        exact R_ireturn dX0_wishAt_34 trivial (by first | rwa [if_pos (by simpa using c26)] at hQ | rwa [if_neg (by simpa using c26)] at hQ)
      · refine R_iconst dX0_wishAt_29 (?_ : RR _ _ _ _ 30 _ _ _ _)
        refine R_goto (t := 34) dX0_wishAt_30 rfl (?_ : RR _ _ _ _ 34 _ _ _ _)
        exact R_ireturn dX0_wishAt_34 trivial (by first | rwa [if_pos (by simpa using c26)] at hQ | rwa [if_neg (by simpa using c26)] at hQ)
    · rw [if_pos (by omega)] at hQ
      refine R_iconst dX0_wishAt_16 (?_ : RR _ _ _ _ 17 _ _ _ _)
      exact R_ireturn dX0_wishAt_17 trivial hQ
def nextS (ex mi ds : Int → Int) (a w : Int) : Int := if min (if begW ex mi ds (2 * a) w then ex (2 * a) else 9) (if begW ex mi ds (2 * a + 1) w then ex (2 * a + 1) else 9) < 9 then min (if begW ex mi ds (2 * a) w then ex (2 * a) else 9) (if begW ex mi ds (2 * a + 1) w then ex (2 * a + 1) else 9) else w
theorem T_X0_nextOnWay {t : Nat} {a w : Int} {h : Nat → Int → Int} (hE : exB (h (t + 1))) (hM : miB (h (t + 2))) (hB : bnd (h (t + 3))) (ht : isNet t := by assumption) (ha : 0 ≤ a ∧ a < 9 := by omega) (hw : 0 ≤ w ∧ w < 9 := by omega) : MT mX0_nextOnWay 2 [pR t, pI a, pI w] h (some (pI (nextS (h (t + 1)) (h (t + 2)) (h (t + 3)) a w))) h := by
  obtain ⟨t0, t1, t2, t3, t4, t5, t6⟩ := id ht
  have e1 := hE (2 * a) (by omega) (by omega)
  have e2 := hE (2 * a + 1) (by omega) (by omega)
  refine MT.of (fun Q hQ => (?_ : RR mX0_nextOnWay _ _ _ _ [pR t, pI a, pI w, pU, pU, pU] _ _ _))
  unfold nextS at hQ
  generalize hl : (if begW (h (t + 1)) (h (t + 2)) (h (t + 3)) (2 * a) w then h (t + 1) (2 * a) else 9) = l at hQ
  generalize hr : (if begW (h (t + 1)) (h (t + 2)) (h (t + 3)) (2 * a + 1) w then h (t + 1) (2 * a + 1) else 9) = r at hQ
  have bl : -1 ≤ l ∧ l ≤ 9 := by rw [← hl]; split <;> omega
  have br : -1 ≤ r ∧ r ≤ 9 := by rw [← hr]; split <;> omega
  have K2 : RR mX0_nextOnWay 2 0 0 53 [pR t, pI a, pI w, pI l, pU, pU] [pI r] (shp0, rf0, h) Q := by
    refine R_istore dX0_nextOnWay_53 (Nat.le_of_ble_eq_true rfl) (?_ : RR _ _ _ _ 55 [_, _, _, _, _, _] _ _ _)
    refine R_iload_n dX0_nextOnWay_55 rfl (?_ : RR _ _ _ _ 56 _ _ _ _)
    refine R_iload dX0_nextOnWay_56 rfl (?_ : RR _ _ _ _ 58 _ _ _ _)
    refine R_min dX0_nextOnWay_58 mmX0_52 (by decide) (Nat.le_of_ble_eq_true rfl) (?_ : RR _ _ _ _ 61 _ _ _ _)
    refine R_istore dX0_nextOnWay_61 (Nat.le_of_ble_eq_true rfl) (?_ : RR _ _ _ _ 63 [_, _, _, _, _, _] _ _ _)
    refine R_iload dX0_nextOnWay_63 rfl (?_ : RR _ _ _ _ 65 _ _ _ _)
    refine R_bipush dX0_nextOnWay_65 rfl (?_ : RR _ _ _ _ 67 _ _ _ _)
    refine R_icmp_ge (t := 75) dX0_nextOnWay_67 rfl (fun c67 => ?_) (fun c67 => ?_)
    · refine R_iload_n dX0_nextOnWay_75 rfl (?_ : RR _ _ _ _ 76 _ _ _ _)
      exact R_ireturn dX0_nextOnWay_76 trivial (by first | rwa [if_pos (by omega)] at hQ | rwa [if_neg (by omega)] at hQ)
    · refine R_iload dX0_nextOnWay_70 rfl (?_ : RR _ _ _ _ 72 _ _ _ _)
      refine R_goto (t := 76) dX0_nextOnWay_72 rfl (?_ : RR _ _ _ _ 76 _ _ _ _)
      exact R_ireturn dX0_nextOnWay_76 trivial (by first | rwa [if_pos (by omega)] at hQ | rwa [if_neg (by omega)] at hQ)
  have K1 : RR mX0_nextOnWay 2 0 0 24 [pR t, pI a, pI w, pU, pU, pU] [pI l] (shp0, rf0, h) Q := by
    refine R_istore_n dX0_nextOnWay_24 (Nat.le_of_ble_eq_true rfl) (?_ : RR _ _ _ _ 25 [_, _, _, _, _, _] _ _ _)
    refine R_aload_n dX0_nextOnWay_25 rfl (?_ : RR _ _ _ _ 26 _ _ _ _)
    refine R_iconst dX0_nextOnWay_26 (?_ : RR _ _ _ _ 27 _ _ _ _)
    refine R_iload_n dX0_nextOnWay_27 rfl (?_ : RR _ _ _ _ 28 _ _ _ _)
    refine R_imul dX0_nextOnWay_28 (?_ : RR _ _ _ _ 29 _ _ _ _)
    refine R_iconst dX0_nextOnWay_29 (?_ : RR _ _ _ _ 30 _ _ _ _)
    refine R_iadd dX0_nextOnWay_30 (?_ : RR _ _ _ _ 31 _ _ _ _)
    refine R_iload_n dX0_nextOnWay_31 rfl (?_ : RR _ _ _ _ 32 _ _ _ _)
    refine R_cVi2 dX0_nextOnWay_32 mvX0_beginsWay mlX0_65 (by decide) (by decide) (Nat.le_of_ble_eq_true rfl) (Nat.le_of_ble_eq_true rfl) (T_X0_beginsWay hE hM hB) (?_ : RR _ _ _ _ 35 _ _ _ _)
    refine R_if_eq (t := 51) dX0_nextOnWay_35 rfl (fun c35 => ?_) (fun c35 => ?_)
    · refine R_bipush dX0_nextOnWay_51 rfl (?_ : RR _ _ _ _ 53 _ _ _ _)
      have e9 : _ = r := hr
      first | (rw [if_pos (by simpa using c35)] at e9; rw [← e9] at K2; exact K2) | (rw [if_neg (by simpa using c35)] at e9; rw [← e9] at K2; exact K2)
    · refine R_aload_n dX0_nextOnWay_38 rfl (?_ : RR _ _ _ _ 39 _ _ _ _)
      refine R_getr dX0_nextOnWay_39 flX0_15 cok_0 rfl (by decide) (?_ : RR _ _ _ _ 42 _ _ _ _)
      refine R_iconst dX0_nextOnWay_42 (?_ : RR _ _ _ _ 43 _ _ _ _)
      refine R_iload_n dX0_nextOnWay_43 rfl (?_ : RR _ _ _ _ 44 _ _ _ _)
      refine R_imul dX0_nextOnWay_44 (?_ : RR _ _ _ _ 45 _ _ _ _)
      refine R_iconst dX0_nextOnWay_45 (?_ : RR _ _ _ _ 46 _ _ _ _)
      refine R_iadd dX0_nextOnWay_46 (?_ : RR _ _ _ _ 47 _ _ _ _)
      refine R_iald dX0_nextOnWay_47 (fun q47 => (?_ : RR _ _ _ _ 48 _ _ _ _))
      refine R_goto (t := 53) dX0_nextOnWay_48 rfl (?_ : RR _ _ _ _ 53 _ _ _ _)
      have e9 : _ = r := hr
      first | (rw [if_pos (by simpa using c35)] at e9; rw [← e9] at K2; exact K2) | (rw [if_neg (by simpa using c35)] at e9; rw [← e9] at K2; exact K2)
  refine R_aload_n dX0_nextOnWay_0 rfl (?_ : RR _ _ _ _ 1 _ _ _ _)
  refine R_iconst dX0_nextOnWay_1 (?_ : RR _ _ _ _ 2 _ _ _ _)
  refine R_iload_n dX0_nextOnWay_2 rfl (?_ : RR _ _ _ _ 3 _ _ _ _)
  refine R_imul dX0_nextOnWay_3 (?_ : RR _ _ _ _ 4 _ _ _ _)
  refine R_iload_n dX0_nextOnWay_4 rfl (?_ : RR _ _ _ _ 5 _ _ _ _)
  refine R_cVi2 dX0_nextOnWay_5 mvX0_beginsWay mlX0_65 (by decide) (by decide) (Nat.le_of_ble_eq_true rfl) (Nat.le_of_ble_eq_true rfl) (T_X0_beginsWay hE hM hB) (?_ : RR _ _ _ _ 8 _ _ _ _)
  refine R_if_eq (t := 22) dX0_nextOnWay_8 rfl (fun c8 => ?_) (fun c8 => ?_)
  · refine R_bipush dX0_nextOnWay_22 rfl (?_ : RR _ _ _ _ 24 _ _ _ _)
    have e9 : _ = l := hl
    first | (rw [if_pos (by simpa using c8)] at e9; rw [← e9] at K1; exact K1) | (rw [if_neg (by simpa using c8)] at e9; rw [← e9] at K1; exact K1)
  · refine R_aload_n dX0_nextOnWay_11 rfl (?_ : RR _ _ _ _ 12 _ _ _ _)
    refine R_getr dX0_nextOnWay_12 flX0_15 cok_0 rfl (by decide) (?_ : RR _ _ _ _ 15 _ _ _ _)
    refine R_iconst dX0_nextOnWay_15 (?_ : RR _ _ _ _ 16 _ _ _ _)
    refine R_iload_n dX0_nextOnWay_16 rfl (?_ : RR _ _ _ _ 17 _ _ _ _)
    refine R_imul dX0_nextOnWay_17 (?_ : RR _ _ _ _ 18 _ _ _ _)
    refine R_iald dX0_nextOnWay_18 (fun q18 => (?_ : RR _ _ _ _ 19 _ _ _ _))
    refine R_goto (t := 24) dX0_nextOnWay_19 rfl (?_ : RR _ _ _ _ 24 _ _ _ _)
    have e9 : _ = l := hl
    first | (rw [if_pos (by simpa using c8)] at e9; rw [← e9] at K1; exact K1) | (rw [if_neg (by simpa using c8)] at e9; rw [← e9] at K1; exact K1)
theorem T_X0_copyFrom {t o : Nat} {h : Nat → Int → Int} (ht : isNet t := by assumption) (ho : isNet o := by assumption) (hto : o + 4 ≤ t ∨ t + 4 ≤ o := by omega) : MT mX0_copyFrom 1 [pR t, pR o] h none (rup (rup (rup h t (fup (h t) 0 (h o 0))) (t + 1) (cpy (h (o + 1)) (h (t + 1)) 18)) (t + 2) (cpy (h (o + 2)) (h (t + 2)) 18)) := by
  obtain ⟨t0, t1, t2, t3, t4, t5, t6⟩ := ht
  obtain ⟨o0, o1, o2, o3, o4, o5, o6⟩ := ho
  refine MT.of (fun Q hQ => (?_ : RR mX0_copyFrom _ _ _ _ [pR t, pR o] _ _ _))
  refine R_aload_n dX0_copyFrom_0 rfl (?_ : RR _ _ _ _ 1 _ _ _ _)
  refine R_aload_n dX0_copyFrom_1 rfl (?_ : RR _ _ _ _ 2 _ _ _ _)
  refine R_geti (z := 0) dX0_copyFrom_2 flX0_9 cok_0 rfl (by decide) rfl (fun q2 => (?_ : RR _ _ _ _ 5 _ _ _ _))
  try simp (disch := omega) only [rup_rup, rup_sort, rupS_def, rup_s, rup_n, fup_fup, fup_s, fup_n] at q2 ⊢
  refine R_puti (zk := 0) dX0_copyFrom_5 flX0_9 cok_0 (by decide) (fun q hq => by cases hq; rfl) rfl (?_ : RR _ _ _ _ 8 _ _ _ _)
  try simp (disch := omega) only [rup_rup, rup_sort, rupS_def, rup_s, rup_n, fup_fup, fup_s, fup_n]
  refine R_aload_n dX0_copyFrom_8 rfl (?_ : RR _ _ _ _ 9 _ _ _ _)
  refine R_getr dX0_copyFrom_9 flX0_15 cok_0 rfl (by decide) (?_ : RR _ _ _ _ 12 _ _ _ _)
  refine R_iconst dX0_copyFrom_12 (?_ : RR _ _ _ _ 13 _ _ _ _)
  refine R_aload_n dX0_copyFrom_13 rfl (?_ : RR _ _ _ _ 14 _ _ _ _)
  refine R_getr dX0_copyFrom_14 flX0_15 cok_0 rfl (by decide) (?_ : RR _ _ _ _ 17 _ _ _ _)
  refine R_iconst dX0_copyFrom_17 (?_ : RR _ _ _ _ 18 _ _ _ _)
  refine R_bipush dX0_copyFrom_18 rfl (?_ : RR _ _ _ _ 20 _ _ _ _)
  refine R_copy dX0_copyFrom_20 maX0_25 (by decide) (Nat.le_of_ble_eq_true rfl) (?_ : RR _ _ _ _ 23 _ _ _ _)
  try simp (disch := omega) only [rup_rup, rup_sort, rupS_def, rup_s, rup_n, fup_fup, fup_s, fup_n]
  refine R_aload_n dX0_copyFrom_23 rfl (?_ : RR _ _ _ _ 24 _ _ _ _)
  refine R_getr dX0_copyFrom_24 flX0_19 cok_0 rfl (by decide) (?_ : RR _ _ _ _ 27 _ _ _ _)
  refine R_iconst dX0_copyFrom_27 (?_ : RR _ _ _ _ 28 _ _ _ _)
  refine R_aload_n dX0_copyFrom_28 rfl (?_ : RR _ _ _ _ 29 _ _ _ _)
  refine R_getr dX0_copyFrom_29 flX0_19 cok_0 rfl (by decide) (?_ : RR _ _ _ _ 32 _ _ _ _)
  refine R_iconst dX0_copyFrom_32 (?_ : RR _ _ _ _ 33 _ _ _ _)
  refine R_bipush dX0_copyFrom_33 rfl (?_ : RR _ _ _ _ 35 _ _ _ _)
  refine R_copy dX0_copyFrom_35 maX0_25 (by decide) (Nat.le_of_ble_eq_true rfl) (?_ : RR _ _ _ _ 38 _ _ _ _)
  try simp (disch := omega) only [rup_rup, rup_sort, rupS_def, rup_s, rup_n, fup_fup, fup_s, fup_n]
  exact R_return dX0_copyFrom_38 trivial hQ
/-- one row shortened by the ways over k -/
def shR (a k first : Int) (b : Nat) (f : Int → Int) : Int → Int := fup f (a * 9 + b) (min (f (a * 9 + b)) (first + f (k * 9 + b)))
theorem shR_bnd {a k first : Int} {f : Int → Int} {H : Nat} (hH : H ≤ 9) (ha : 0 ≤ a ∧ a < 9) (hk : 0 ≤ k ∧ k < 9) (hf : 0 ≤ first ∧ first ≤ 100000) (hB : bnd f) : ∀ b, b ≤ H → bnd (it (shR a k first) f b) :=
  it_inv (fun _ => bnd) hB (fun b g hb hg => by
    have h1 := hg (a * 9 + b) (by omega) (by omega)
    have h2 := hg (k * 9 + b) (by omega) (by omega)
    exact bnd_fup hg (by omega))
theorem T_X0_shortenBy {t H : Nat} {k a : Int} {h : Nat → Int → Int} (hH : h t 0 = H) (hB : bnd (h (t + 3))) (ht : isNet t := by assumption) (hH9 : H ≤ 9 := by omega) (hk : 0 ≤ k ∧ k < 9 := by omega) (ha : 0 ≤ a ∧ a < 9 := by omega) : MT mX0_shortenBy 1 [pR t, pI k, pI a] h none (rup h (t + 3) (it (shR a k (h (t + 3) (a * 9 + k))) (h (t + 3)) H)) := by
  obtain ⟨t0, t1, t2, t3, t4, t5, t6⟩ := ht
  have b0 := hB (a * 9 + k) (by omega) (by omega)
  have bi := shR_bnd (H := H) hH9 ha hk b0 hB
  generalize hf : h (t + 3) (a * 9 + k) = first at b0 bi ⊢
  refine MT.of (fun Q hQ => (?_ : RR mX0_shortenBy _ _ _ _ [pR t, pI k, pI a, pU, pU, pU] _ _ _))
  have L : ∀ (n i : Nat) (w : PV), i + n = H → RR mX0_shortenBy 1 0 0 15 [pR t, pI k, pI a, pI first, pI i, w] [] (shp0, rf0, rup h (t + 3) (it (shR a k first) (h (t + 3)) i)) Q := by
    intro n
    induction n with
    | zero =>
      intro i w hi
      obtain rfl : i = H := by omega
      refine R_iload dX0_shortenBy_15 rfl (?_ : RR _ _ _ _ 17 _ _ _ _)
      refine R_aload_n dX0_shortenBy_17 rfl (?_ : RR _ _ _ _ 18 _ _ _ _)
      refine R_geti (z := 0) dX0_shortenBy_18 flX0_9 cok_0 rfl (by decide) rfl (fun q18 => (?_ : RR _ _ _ _ 21 _ _ _ _))
      try simp (disch := omega) only [rup_rup, rup_sort, rupS_def, rup_s, rup_n, fup_fup, fup_s, fup_n] at q18 ⊢
      rw [hH] at q18 ⊢
      refine R_icmp_ge (t := 70) dX0_shortenBy_21 rfl (fun c21 => ?_) (fun c21 => ?_)
      rotate_left
      · exfalso; omega
      exact R_return dX0_shortenBy_70 trivial hQ
    | succ n ih =>
      intro i w hi
      have bb := bi i (by omega)
      have b1 := bb (a * 9 + i) (by omega) (by omega)
      have b2 := bb (k * 9 + i) (by omega) (by omega)
      refine R_iload dX0_shortenBy_15 rfl (?_ : RR _ _ _ _ 17 _ _ _ _)
      refine R_aload_n dX0_shortenBy_17 rfl (?_ : RR _ _ _ _ 18 _ _ _ _)
      refine R_geti (z := 0) dX0_shortenBy_18 flX0_9 cok_0 rfl (by decide) rfl (fun q18 => (?_ : RR _ _ _ _ 21 _ _ _ _))
      try simp (disch := omega) only [rup_rup, rup_sort, rupS_def, rup_s, rup_n, fup_fup, fup_s, fup_n] at q18 ⊢
      rw [hH] at q18 ⊢
      refine R_icmp_ge (t := 70) dX0_shortenBy_21 rfl (fun c21 => ?_) (fun c21 => ?_)
      · exfalso; omega
      refine R_iload_n dX0_shortenBy_24 rfl (?_ : RR _ _ _ _ 25 _ _ _ _)
      refine R_bipush dX0_shortenBy_25 rfl (?_ : RR _ _ _ _ 27 _ _ _ _)
      refine R_imul dX0_shortenBy_27 (?_ : RR _ _ _ _ 28 _ _ _ _)
      refine R_iload dX0_shortenBy_28 rfl (?_ : RR _ _ _ _ 30 _ _ _ _)
      refine R_iadd dX0_shortenBy_30 (?_ : RR _ _ _ _ 31 _ _ _ _)
      refine R_istore dX0_shortenBy_31 (Nat.le_of_ble_eq_true rfl) (?_ : RR _ _ _ _ 33 [_, _, _, _, _, _] _ _ _)
      refine R_aload_n dX0_shortenBy_33 rfl (?_ : RR _ _ _ _ 34 _ _ _ _)
      refine R_getr dX0_shortenBy_34 flX0_22 cok_0 rfl (by decide) (?_ : RR _ _ _ _ 37 _ _ _ _)
      refine R_iload dX0_shortenBy_37 rfl (?_ : RR _ _ _ _ 39 _ _ _ _)
      refine R_aload_n dX0_shortenBy_39 rfl (?_ : RR _ _ _ _ 40 _ _ _ _)
      refine R_getr dX0_shortenBy_40 flX0_22 cok_0 rfl (by decide) (?_ : RR _ _ _ _ 43 _ _ _ _)
      refine R_iload dX0_shortenBy_43 rfl (?_ : RR _ _ _ _ 45 _ _ _ _)
      refine R_iald dX0_shortenBy_45 (fun q45 => (?_ : RR _ _ _ _ 46 _ _ _ _))
      try simp (disch := omega) only [rup_rup, rup_sort, rupS_def, rup_s, rup_n, fup_fup, fup_s, fup_n] at q45 ⊢
      refine R_iload_n dX0_shortenBy_46 rfl (?_ : RR _ _ _ _ 47 _ _ _ _)
      refine R_aload_n dX0_shortenBy_47 rfl (?_ : RR _ _ _ _ 48 _ _ _ _)
      refine R_getr dX0_shortenBy_48 flX0_22 cok_0 rfl (by decide) (?_ : RR _ _ _ _ 51 _ _ _ _)
      refine R_iload_n dX0_shortenBy_51 rfl (?_ : RR _ _ _ _ 52 _ _ _ _)
      refine R_bipush dX0_shortenBy_52 rfl (?_ : RR _ _ _ _ 54 _ _ _ _)
      refine R_imul dX0_shortenBy_54 (?_ : RR _ _ _ _ 55 _ _ _ _)
      refine R_iload dX0_shortenBy_55 rfl (?_ : RR _ _ _ _ 57 _ _ _ _)
      refine R_iadd dX0_shortenBy_57 (?_ : RR _ _ _ _ 58 _ _ _ _)
      refine R_iald dX0_shortenBy_58 (fun q58 => (?_ : RR _ _ _ _ 59 _ _ _ _))
      try simp (disch := omega) only [rup_rup, rup_sort, rupS_def, rup_s, rup_n, fup_fup, fup_s, fup_n] at q58 ⊢
      refine R_iadd dX0_shortenBy_59 (?_ : RR _ _ _ _ 60 _ _ _ _)
      refine R_min dX0_shortenBy_60 mmX0_52 (by decide) (Nat.le_of_ble_eq_true rfl) (?_ : RR _ _ _ _ 63 _ _ _ _)
      try simp (disch := omega) only [rup_rup, rup_sort, rupS_def, rup_s, rup_n, fup_fup, fup_s, fup_n]
      refine R_iast dX0_shortenBy_63 (?_ : RR _ _ _ _ 64 _ _ _ _)
      try simp (disch := omega) only [rup_rup, rup_sort, rupS_def, rup_s, rup_n, fup_fup, fup_s, fup_n]
      refine R_iinc dX0_shortenBy_64 rfl (Nat.le_of_ble_eq_true rfl) (?_ : RR _ _ _ _ 67 [_, _, _, _, _, _] _ _ _)
      refine R_goto (t := 15) dX0_shortenBy_67 rfl (?_ : RR _ _ _ _ 15 _ _ _ _)
      exact ih (i + 1) _ (by omega)
  refine R_aload_n dX0_shortenBy_0 rfl (?_ : RR _ _ _ _ 1 _ _ _ _)
  refine R_getr dX0_shortenBy_1 flX0_22 cok_0 rfl (by decide) (?_ : RR _ _ _ _ 4 _ _ _ _)
  refine R_iload_n dX0_shortenBy_4 rfl (?_ : RR _ _ _ _ 5 _ _ _ _)
  refine R_bipush dX0_shortenBy_5 rfl (?_ : RR _ _ _ _ 7 _ _ _ _)
  refine R_imul dX0_shortenBy_7 (?_ : RR _ _ _ _ 8 _ _ _ _)
  refine R_iload_n dX0_shortenBy_8 rfl (?_ : RR _ _ _ _ 9 _ _ _ _)
  refine R_iadd dX0_shortenBy_9 (?_ : RR _ _ _ _ 10 _ _ _ _)
  refine R_iald dX0_shortenBy_10 (fun q10 => (?_ : RR _ _ _ _ 11 _ _ _ _))
  rw [hf]
  refine R_istore_n dX0_shortenBy_11 (Nat.le_of_ble_eq_true rfl) (?_ : RR _ _ _ _ 12 [_, _, _, _, _, _] _ _ _)
  refine R_iconst dX0_shortenBy_12 (?_ : RR _ _ _ _ 13 _ _ _ _)
  refine R_istore dX0_shortenBy_13 (Nat.le_of_ble_eq_true rfl) (?_ : RR _ _ _ _ 15 [_, _, _, _, _, _] _ _ _)
  have L0 := L H 0 pU (by omega)
  simp only [it, rup_self] at L0
  exact L0
/-! all shortest ways anew -/
def w1R (a : Int) (b : Nat) (f : Int → Int) : Int → Int := fup f (a * 9 + b) (if a = b then 0 else 100000)
def w1 (H : Nat) (a : Nat) (f : Int → Int) : Int → Int := it (w1R a) f H
def w2R (ex mi : Int → Int) (e : Nat) (f : Int → Int) : Int → Int := if ex e = -1 then f else fup f ((e : Int) / 2 * 9 + ex e) (min (f ((e : Int) / 2 * 9 + ex e)) (mi e))
def w3R (H : Nat) (k : Int) (a : Nat) (f : Int → Int) : Int → Int := if f (a * 9 + k) < 100000 then it (shR a k (f (a * 9 + k))) f H else f
def w3 (H : Nat) (k : Nat) (f : Int → Int) : Int → Int := it (w3R H k) f H
def wAll (H : Nat) (ex mi f : Int → Int) : Int → Int := it (w3 H) (it (w2R ex mi) (it (w1 H) f H) (2 * H)) H
theorem w1_bnd {H : Nat} (hH : H ≤ 9) {f : Int → Int} (hB : bnd f) : ∀ a, a ≤ H → bnd (it (w1 H) f a) :=
  it_inv (fun _ => bnd) hB (fun a g ha hg => it_inv (fun _ => bnd) hg (fun b g hb hg => bnd_fup hg (by split <;> omega)) H (by omega))
theorem w2_bnd {H : Nat} (hH : H ≤ 9) {ex mi f : Int → Int} (hE : exB ex) (hM : miB mi) (hB : bnd f) : ∀ e, e ≤ 2 * H → bnd (it (w2R ex mi) f e) :=
  it_inv (fun _ => bnd) hB (fun e g he hg => by
    unfold w2R
    split
    · exact hg
    · have h1 := hE e (by omega) (by omega)
      have h2 := hM e (by omega) (by omega)
      have h3 := hg ((e : Int) / 2 * 9 + ex e) (by omega) (by omega)
      exact bnd_fup hg (by omega))
theorem w3R_bnd {H : Nat} (hH : H ≤ 9) {k : Int} (hk : 0 ≤ k ∧ k < 9) {f : Int → Int} (hB : bnd f) : ∀ a, a ≤ H → bnd (it (w3R H k) f a) :=
  it_inv (fun _ => bnd) hB (fun a g ha hg => by
    unfold w3R
    have h3 := hg (a * 9 + k) (by omega) (by omega)
    split
    · exact shR_bnd hH (by omega) hk h3 hg H (by omega)
    · exact hg)
theorem w3_bnd {H : Nat} (hH : H ≤ 9) {f : Int → Int} (hB : bnd f) : ∀ k, k ≤ H → bnd (it (w3 H) f k) :=
  it_inv (fun _ => bnd) hB (fun k g hk hg => w3R_bnd hH (by omega) hg H (by omega))
theorem wAll_bnd {H : Nat} (hH : H ≤ 9) {ex mi f : Int → Int} (hE : exB ex) (hM : miB mi) (hB : bnd f) : bnd (wAll H ex mi f) := w3_bnd hH (w2_bnd hH hE hM (w1_bnd hH hB H (by omega)) _ (by omega)) H (by omega)
theorem T_X0_measure {t H : Nat} {h : Nat → Int → Int} (hH : h t 0 = H) (hE : exB (h (t + 1))) (hM : miB (h (t + 2))) (hB : bnd (h (t + 3))) (ht : isNet t := by assumption) (hH9 : H ≤ 9 := by omega) : MT mX0_measure 2 [pR t] h none (rup h (t + 3) (wAll H (h (t + 1)) (h (t + 2)) (h (t + 3)))) := by
  obtain ⟨t0, t1, t2, t3, t4, t5, t6⟩ := id ht
  refine MT.of (fun Q hQ => (?_ : RR mX0_measure _ _ _ _ [pR t, pU, pU] _ _ _))
  unfold wAll at hQ
  generalize hf1 : it (w1 H) (h (t + 3)) H = f1 at hQ
  generalize hf2 : it (w2R (h (t + 1)) (h (t + 2))) f1 (2 * H) = f2 at hQ
  have b1 := w1_bnd hH9 hB
  have b1' : bnd f1 := hf1 ▸ b1 H (by omega)
  have b2 := w2_bnd hH9 hE hM b1'
  have b2' : bnd f2 := hf2 ▸ b2 _ (by omega)
  have b3 := w3_bnd hH9 b2'
  have L3 : ∀ (n k : Nat) (w : PV), k + n = H → RR mX0_measure 2 0 0 119 [pR t, pI k, w] [] (shp0, rf0, rup h (t + 3) (it (w3 H) f2 k)) Q := by
    intro n
    induction n with
    | zero =>
      intro k w hk
      obtain rfl : k = H := by omega
      refine R_iload_n dX0_measure_119 rfl (?_ : RR _ _ _ _ 120 _ _ _ _)
      refine R_aload_n dX0_measure_120 rfl (?_ : RR _ _ _ _ 121 _ _ _ _)
      refine R_geti (z := 0) dX0_measure_121 flX0_9 cok_0 rfl (by decide) rfl (fun q121 => (?_ : RR _ _ _ _ 124 _ _ _ _))
      try simp (disch := omega) only [rup_rup, rup_sort, rupS_def, rup_s, rup_n, fup_fup, fup_s, fup_n] at q121 ⊢
      rw [hH] at q121 ⊢
      refine R_icmp_ge (t := 171) dX0_measure_124 rfl (fun c124 => ?_) (fun c124 => ?_)
      rotate_left
      · exfalso; omega
      exact R_return dX0_measure_171 trivial hQ
    | succ n ih =>
      intro k w hk
      have bk := w3R_bnd (H := H) hH9 (k := k) (by omega) (b3 k (by omega))
      have L4 : ∀ (m a : Nat), a + m = H → RR mX0_measure 2 0 0 129 [pR t, pI k, pI a] [] (shp0, rf0, rup h (t + 3) (it (w3R H k) (it (w3 H) f2 k) a)) Q := by
        intro m
        induction m with
        | zero =>
          intro a ha
          obtain rfl : a = H := by omega
          refine R_iload_n dX0_measure_129 rfl (?_ : RR _ _ _ _ 130 _ _ _ _)
          refine R_aload_n dX0_measure_130 rfl (?_ : RR _ _ _ _ 131 _ _ _ _)
          refine R_geti (z := 0) dX0_measure_131 flX0_9 cok_0 rfl (by decide) rfl (fun q131 => (?_ : RR _ _ _ _ 134 _ _ _ _))
          try simp (disch := omega) only [rup_rup, rup_sort, rupS_def, rup_s, rup_n, fup_fup, fup_s, fup_n] at q131 ⊢
          rw [hH] at q131 ⊢
          refine R_icmp_ge (t := 165) dX0_measure_134 rfl (fun c134 => ?_) (fun c134 => ?_)
          rotate_left
          · exfalso; omega
          refine R_iinc dX0_measure_165 rfl (Nat.le_of_ble_eq_true rfl) (?_ : RR _ _ _ _ 168 [_, _, _] _ _ _)
          refine R_goto (t := 119) dX0_measure_168 rfl (?_ : RR _ _ _ _ 119 _ _ _ _)
          exact ih (k + 1) _ (by omega)
        | succ m ih2 =>
          intro a ha
          have ba := bk a (by omega)
          have e9 : it (w3R H k) (it (w3 H) f2 k) (a + 1) = w3R H k a (it (w3R H k) (it (w3 H) f2 k) a) := rfl
          have IH := ih2 (a + 1) (by omega)
          rw [e9] at IH
          generalize it (w3R H k) (it (w3 H) f2 k) a = fa at ba IH ⊢
          unfold w3R at IH
          refine R_iload_n dX0_measure_129 rfl (?_ : RR _ _ _ _ 130 _ _ _ _)
          refine R_aload_n dX0_measure_130 rfl (?_ : RR _ _ _ _ 131 _ _ _ _)
          refine R_geti (z := 0) dX0_measure_131 flX0_9 cok_0 rfl (by decide) rfl (fun q131 => (?_ : RR _ _ _ _ 134 _ _ _ _))
          try simp (disch := omega) only [rup_rup, rup_sort, rupS_def, rup_s, rup_n, fup_fup, fup_s, fup_n] at q131 ⊢
          rw [hH] at q131 ⊢
          refine R_icmp_ge (t := 165) dX0_measure_134 rfl (fun c134 => ?_) (fun c134 => ?_)
          · exfalso; omega
          refine R_aload_n dX0_measure_137 rfl (?_ : RR _ _ _ _ 138 _ _ _ _)
          refine R_getr dX0_measure_138 flX0_22 cok_0 rfl (by decide) (?_ : RR _ _ _ _ 141 _ _ _ _)
          refine R_iload_n dX0_measure_141 rfl (?_ : RR _ _ _ _ 142 _ _ _ _)
          refine R_bipush dX0_measure_142 rfl (?_ : RR _ _ _ _ 144 _ _ _ _)
          refine R_imul dX0_measure_144 (?_ : RR _ _ _ _ 145 _ _ _ _)
          refine R_iload_n dX0_measure_145 rfl (?_ : RR _ _ _ _ 146 _ _ _ _)
          refine R_iadd dX0_measure_146 (?_ : RR _ _ _ _ 147 _ _ _ _)
          refine R_iald dX0_measure_147 (fun q147 => (?_ : RR _ _ _ _ 148 _ _ _ _))
          try simp (disch := omega) only [rup_rup, rup_sort, rupS_def, rup_s, rup_n, fup_fup, fup_s, fup_n] at q147 ⊢
          refine R_ldc (z := 100000) dX0_measure_148 kwX0_51 (?_ : RR _ _ _ _ 150 _ _ _ _)
          refine R_icmp_ge (t := 159) dX0_measure_150 rfl (fun c150 => ?_) (fun c150 => ?_)
          · rw [if_neg (by omega)] at IH
            refine R_iinc dX0_measure_159 rfl (Nat.le_of_ble_eq_true rfl) (?_ : RR _ _ _ _ 162 [_, _, _] _ _ _)
            refine R_goto (t := 129) dX0_measure_162 rfl (?_ : RR _ _ _ _ 129 _ _ _ _)
            exact IH
          · rw [if_pos (by omega)] at IH
            refine R_aload_n dX0_measure_153 rfl (?_ : RR _ _ _ _ 154 _ _ _ _)
            refine R_iload_n dX0_measure_154 rfl (?_ : RR _ _ _ _ 155 _ _ _ _)
            refine R_iload_n dX0_measure_155 rfl (?_ : RR _ _ _ _ 156 _ _ _ _)
            refine R_cVv2 dX0_measure_156 mvX0_shortenBy mlX0_58 (by decide) (by decide) (Nat.le_of_ble_eq_true rfl) (Nat.le_of_ble_eq_true rfl) (T_X0_shortenBy (H := H) (by simp (disch := omega) only [rup_n]; exact hH) (by rw [rup_s]; exact ba)) (?_ : RR _ _ _ _ 159 _ _ _ _)
            try simp (disch := omega) only [rup_rup, rup_sort, rupS_def, rup_s, rup_n, fup_fup, fup_s, fup_n]
            refine R_iinc dX0_measure_159 rfl (Nat.le_of_ble_eq_true rfl) (?_ : RR _ _ _ _ 162 [_, _, _] _ _ _)
            refine R_goto (t := 129) dX0_measure_162 rfl (?_ : RR _ _ _ _ 129 _ _ _ _)
            exact IH
      refine R_iload_n dX0_measure_119 rfl (?_ : RR _ _ _ _ 120 _ _ _ _)
      refine R_aload_n dX0_measure_120 rfl (?_ : RR _ _ _ _ 121 _ _ _ _)
      refine R_geti (z := 0) dX0_measure_121 flX0_9 cok_0 rfl (by decide) rfl (fun q121 => (?_ : RR _ _ _ _ 124 _ _ _ _))
      try simp (disch := omega) only [rup_rup, rup_sort, rupS_def, rup_s, rup_n, fup_fup, fup_s, fup_n] at q121 ⊢
      rw [hH] at q121 ⊢
      refine R_icmp_ge (t := 171) dX0_measure_124 rfl (fun c124 => ?_) (fun c124 => ?_)
      · exfalso; omega
      refine R_iconst dX0_measure_127 (?_ : RR _ _ _ _ 128 _ _ _ _)
      refine R_istore_n dX0_measure_128 (Nat.le_of_ble_eq_true rfl) (?_ : RR _ _ _ _ 129 [_, _, _] _ _ _)
      exact L4 H 0 (by omega)
  have L2 : ∀ (n e : Nat) (w : PV), e + n = 2 * H → RR mX0_measure 2 0 0 56 [pR t, pI e, w] [] (shp0, rf0, rup h (t + 3) (it (w2R (h (t + 1)) (h (t + 2))) f1 e)) Q := by
    intro n
    induction n with
    | zero =>
      intro e w he
      obtain rfl : e = 2 * H := by omega
      rw [hf2]
      refine R_iload_n dX0_measure_56 rfl (?_ : RR _ _ _ _ 57 _ _ _ _)
      refine R_iconst dX0_measure_57 (?_ : RR _ _ _ _ 58 _ _ _ _)
      refine R_aload_n dX0_measure_58 rfl (?_ : RR _ _ _ _ 59 _ _ _ _)
      refine R_geti (z := 0) dX0_measure_59 flX0_9 cok_0 rfl (by decide) rfl (fun q59 => (?_ : RR _ _ _ _ 62 _ _ _ _))
      try simp (disch := omega) only [rup_rup, rup_sort, rupS_def, rup_s, rup_n, fup_fup, fup_s, fup_n] at q59 ⊢
      rw [hH] at q59 ⊢
      refine R_imul dX0_measure_62 (?_ : RR _ _ _ _ 63 _ _ _ _)
      refine R_icmp_ge (t := 117) dX0_measure_63 rfl (fun c63 => ?_) (fun c63 => ?_)
      rotate_left
      · exfalso; omega
      refine R_iconst dX0_measure_117 (?_ : RR _ _ _ _ 118 _ _ _ _)
      refine R_istore_n dX0_measure_118 (Nat.le_of_ble_eq_true rfl) (?_ : RR _ _ _ _ 119 [_, _, _] _ _ _)
      exact L3 H 0 _ (by omega)
    | succ n ih =>
      intro e w he
      have be := b2 e (by omega)
      have e9 : it (w2R (h (t + 1)) (h (t + 2))) f1 (e + 1) = w2R (h (t + 1)) (h (t + 2)) e (it (w2R (h (t + 1)) (h (t + 2))) f1 e) := rfl
      have IH := fun w => ih (e + 1) w (by omega)
      rw [e9] at IH
      generalize it (w2R (h (t + 1)) (h (t + 2))) f1 e = fa at be IH ⊢
      unfold w2R at IH
      have x1 := hE e (by omega) (by omega)
      have x2 := hM e (by omega) (by omega)
      refine R_iload_n dX0_measure_56 rfl (?_ : RR _ _ _ _ 57 _ _ _ _)
      refine R_iconst dX0_measure_57 (?_ : RR _ _ _ _ 58 _ _ _ _)
      refine R_aload_n dX0_measure_58 rfl (?_ : RR _ _ _ _ 59 _ _ _ _)
      refine R_geti (z := 0) dX0_measure_59 flX0_9 cok_0 rfl (by decide) rfl (fun q59 => (?_ : RR _ _ _ _ 62 _ _ _ _))
      try simp (disch := omega) only [rup_rup, rup_sort, rupS_def, rup_s, rup_n, fup_fup, fup_s, fup_n] at q59 ⊢
      rw [hH] at q59 ⊢
      refine R_imul dX0_measure_62 (?_ : RR _ _ _ _ 63 _ _ _ _)
      refine R_icmp_ge (t := 117) dX0_measure_63 rfl (fun c63 => ?_) (fun c63 => ?_)
      · exfalso; omega
      refine R_aload_n dX0_measure_66 rfl (?_ : RR _ _ _ _ 67 _ _ _ _)
      refine R_getr dX0_measure_67 flX0_15 cok_0 rfl (by decide) (?_ : RR _ _ _ _ 70 _ _ _ _)
      refine R_iload_n dX0_measure_70 rfl (?_ : RR _ _ _ _ 71 _ _ _ _)
      refine R_iald dX0_measure_71 (fun q71 => (?_ : RR _ _ _ _ 72 _ _ _ _))
      try simp (disch := omega) only [rup_rup, rup_sort, rupS_def, rup_s, rup_n, fup_fup, fup_s, fup_n] at q71 ⊢
      refine R_iconst dX0_measure_72 (?_ : RR _ _ _ _ 73 _ _ _ _)
      refine R_icmp_eq (t := 111) dX0_measure_73 rfl (fun c73 => ?_) (fun c73 => ?_)
      · rw [if_pos c73] at IH
        refine R_iinc dX0_measure_111 rfl (Nat.le_of_ble_eq_true rfl) (?_ : RR _ _ _ _ 114 [_, _, _] _ _ _)
        refine R_goto (t := 56) dX0_measure_114 rfl (?_ : RR _ _ _ _ 56 _ _ _ _)
        exact IH _
      · rw [if_neg c73] at IH
        have x3 := be ((e : Int) / 2 * 9 + h (t + 1) e) (by omega) (by omega)
        refine R_iload_n dX0_measure_76 rfl (?_ : RR _ _ _ _ 77 _ _ _ _)
        refine R_iconst dX0_measure_77 (?_ : RR _ _ _ _ 78 _ _ _ _)
        refine R_idiv dX0_measure_78 (by omega) (by omega) (?_ : RR _ _ _ _ 79 _ _ _ _)
        rw [iDiv_pos (by omega) (by omega) (by omega) (by omega)]
        refine R_bipush dX0_measure_79 rfl (?_ : RR _ _ _ _ 81 _ _ _ _)
        refine R_imul dX0_measure_81 (?_ : RR _ _ _ _ 82 _ _ _ _)
        refine R_aload_n dX0_measure_82 rfl (?_ : RR _ _ _ _ 83 _ _ _ _)
        refine R_getr dX0_measure_83 flX0_15 cok_0 rfl (by decide) (?_ : RR _ _ _ _ 86 _ _ _ _)
        refine R_iload_n dX0_measure_86 rfl (?_ : RR _ _ _ _ 87 _ _ _ _)
        refine R_iald dX0_measure_87 (fun q87 => (?_ : RR _ _ _ _ 88 _ _ _ _))
        try simp (disch := omega) only [rup_rup, rup_sort, rupS_def, rup_s, rup_n, fup_fup, fup_s, fup_n] at q87 ⊢
        refine R_iadd dX0_measure_88 (?_ : RR _ _ _ _ 89 _ _ _ _)
        refine R_istore_n dX0_measure_89 (Nat.le_of_ble_eq_true rfl) (?_ : RR _ _ _ _ 90 [_, _, _] _ _ _)
        refine R_aload_n dX0_measure_90 rfl (?_ : RR _ _ _ _ 91 _ _ _ _)
        refine R_getr dX0_measure_91 flX0_22 cok_0 rfl (by decide) (?_ : RR _ _ _ _ 94 _ _ _ _)
        refine R_iload_n dX0_measure_94 rfl (?_ : RR _ _ _ _ 95 _ _ _ _)
        refine R_aload_n dX0_measure_95 rfl (?_ : RR _ _ _ _ 96 _ _ _ _)
        refine R_getr dX0_measure_96 flX0_22 cok_0 rfl (by decide) (?_ : RR _ _ _ _ 99 _ _ _ _)
        refine R_iload_n dX0_measure_99 rfl (?_ : RR _ _ _ _ 100 _ _ _ _)
        refine R_iald dX0_measure_100 (fun q100 => (?_ : RR _ _ _ _ 101 _ _ _ _))
        try simp (disch := omega) only [rup_rup, rup_sort, rupS_def, rup_s, rup_n, fup_fup, fup_s, fup_n] at q100 ⊢
        refine R_aload_n dX0_measure_101 rfl (?_ : RR _ _ _ _ 102 _ _ _ _)
        refine R_getr dX0_measure_102 flX0_19 cok_0 rfl (by decide) (?_ : RR _ _ _ _ 105 _ _ _ _)
        refine R_iload_n dX0_measure_105 rfl (?_ : RR _ _ _ _ 106 _ _ _ _)
        refine R_iald dX0_measure_106 (fun q106 => (?_ : RR _ _ _ _ 107 _ _ _ _))
        try simp (disch := omega) only [rup_rup, rup_sort, rupS_def, rup_s, rup_n, fup_fup, fup_s, fup_n] at q106 ⊢
        refine R_min dX0_measure_107 mmX0_52 (by decide) (Nat.le_of_ble_eq_true rfl) (?_ : RR _ _ _ _ 110 _ _ _ _)
        try simp (disch := omega) only [rup_rup, rup_sort, rupS_def, rup_s, rup_n, fup_fup, fup_s, fup_n]
        refine R_iast dX0_measure_110 (?_ : RR _ _ _ _ 111 _ _ _ _)
        try simp (disch := omega) only [rup_rup, rup_sort, rupS_def, rup_s, rup_n, fup_fup, fup_s, fup_n]
        refine R_iinc dX0_measure_111 rfl (Nat.le_of_ble_eq_true rfl) (?_ : RR _ _ _ _ 114 [_, _, _] _ _ _)
        refine R_goto (t := 56) dX0_measure_114 rfl (?_ : RR _ _ _ _ 56 _ _ _ _)
        exact IH _
  have L1 : ∀ (n a : Nat) (w : PV), a + n = H → RR mX0_measure 2 0 0 2 [pR t, pI a, w] [] (shp0, rf0, rup h (t + 3) (it (w1 H) (h (t + 3)) a)) Q := by
    intro n
    induction n with
    | zero =>
      intro a w ha
      obtain rfl : a = H := by omega
      rw [hf1]
      refine R_iload_n dX0_measure_2 rfl (?_ : RR _ _ _ _ 3 _ _ _ _)
      refine R_aload_n dX0_measure_3 rfl (?_ : RR _ _ _ _ 4 _ _ _ _)
      refine R_geti (z := 0) dX0_measure_4 flX0_9 cok_0 rfl (by decide) rfl (fun q4 => (?_ : RR _ _ _ _ 7 _ _ _ _))
      try simp (disch := omega) only [rup_rup, rup_sort, rupS_def, rup_s, rup_n, fup_fup, fup_s, fup_n] at q4 ⊢
      rw [hH] at q4 ⊢
      refine R_icmp_ge (t := 54) dX0_measure_7 rfl (fun c7 => ?_) (fun c7 => ?_)
      rotate_left
      · exfalso; omega
      refine R_iconst dX0_measure_54 (?_ : RR _ _ _ _ 55 _ _ _ _)
      refine R_istore_n dX0_measure_55 (Nat.le_of_ble_eq_true rfl) (?_ : RR _ _ _ _ 56 [_, _, _] _ _ _)
      exact L2 (2 * a) 0 _ (by omega)
    | succ n ih =>
      intro a w ha
      have L0 : ∀ (m b : Nat), b + m = H → RR mX0_measure 2 0 0 12 [pR t, pI a, pI b] [] (shp0, rf0, rup h (t + 3) (it (w1R a) (it (w1 H) (h (t + 3)) a) b)) Q := by
        intro m
        induction m with
        | zero =>
          intro b hb
          obtain rfl : b = H := by omega
          refine R_iload_n dX0_measure_12 rfl (?_ : RR _ _ _ _ 13 _ _ _ _)
          refine R_aload_n dX0_measure_13 rfl (?_ : RR _ _ _ _ 14 _ _ _ _)
          refine R_geti (z := 0) dX0_measure_14 flX0_9 cok_0 rfl (by decide) rfl (fun q14 => (?_ : RR _ _ _ _ 17 _ _ _ _))
          try simp (disch := omega) only [rup_rup, rup_sort, rupS_def, rup_s, rup_n, fup_fup, fup_s, fup_n] at q14 ⊢
          rw [hH] at q14 ⊢
          refine R_icmp_ge (t := 48) dX0_measure_17 rfl (fun c17 => ?_) (fun c17 => ?_)
          rotate_left
          · exfalso; omega
          refine R_iinc dX0_measure_48 rfl (Nat.le_of_ble_eq_true rfl) (?_ : RR _ _ _ _ 51 [_, _, _] _ _ _)
          refine R_goto (t := 2) dX0_measure_51 rfl (?_ : RR _ _ _ _ 2 _ _ _ _)
          exact ih (a + 1) _ (by omega)
        | succ m ih2 =>
          intro b hb
          have e9 : it (w1R a) (it (w1 H) (h (t + 3)) a) (b + 1) = w1R a b (it (w1R a) (it (w1 H) (h (t + 3)) a) b) := rfl
          have IH := ih2 (b + 1) (by omega)
          rw [e9] at IH
          unfold w1R at IH
          refine R_iload_n dX0_measure_12 rfl (?_ : RR _ _ _ _ 13 _ _ _ _)
          refine R_aload_n dX0_measure_13 rfl (?_ : RR _ _ _ _ 14 _ _ _ _)
          refine R_geti (z := 0) dX0_measure_14 flX0_9 cok_0 rfl (by decide) rfl (fun q14 => (?_ : RR _ _ _ _ 17 _ _ _ _))
          try simp (disch := omega) only [rup_rup, rup_sort, rupS_def, rup_s, rup_n, fup_fup, fup_s, fup_n] at q14 ⊢
          rw [hH] at q14 ⊢
          refine R_icmp_ge (t := 48) dX0_measure_17 rfl (fun c17 => ?_) (fun c17 => ?_)
          · exfalso; omega
          refine R_aload_n dX0_measure_20 rfl (?_ : RR _ _ _ _ 21 _ _ _ _)
          refine R_getr dX0_measure_21 flX0_22 cok_0 rfl (by decide) (?_ : RR _ _ _ _ 24 _ _ _ _)
          refine R_iload_n dX0_measure_24 rfl (?_ : RR _ _ _ _ 25 _ _ _ _)
          refine R_bipush dX0_measure_25 rfl (?_ : RR _ _ _ _ 27 _ _ _ _)
          refine R_imul dX0_measure_27 (?_ : RR _ _ _ _ 28 _ _ _ _)
          refine R_iload_n dX0_measure_28 rfl (?_ : RR _ _ _ _ 29 _ _ _ _)
          refine R_iadd dX0_measure_29 (?_ : RR _ _ _ _ 30 _ _ _ _)
          refine R_iload_n dX0_measure_30 rfl (?_ : RR _ _ _ _ 31 _ _ _ _)
          refine R_iload_n dX0_measure_31 rfl (?_ : RR _ _ _ _ 32 _ _ _ _)
          refine R_icmp_ne (t := 39) dX0_measure_32 rfl (fun c32 => ?_) (fun c32 => ?_)
          · rw [if_neg c32] at IH
            refine R_ldc (z := 100000) dX0_measure_39 kwX0_51 (?_ : RR _ _ _ _ 41 _ _ _ _)
            refine R_iast dX0_measure_41 (?_ : RR _ _ _ _ 42 _ _ _ _)
            try simp (disch := omega) only [rup_rup, rup_sort, rupS_def, rup_s, rup_n, fup_fup, fup_s, fup_n]
            refine R_iinc dX0_measure_42 rfl (Nat.le_of_ble_eq_true rfl) (?_ : RR _ _ _ _ 45 [_, _, _] _ _ _)
            refine R_goto (t := 12) dX0_measure_45 rfl (?_ : RR _ _ _ _ 12 _ _ _ _)
            exact IH
          · rw [if_pos c32] at IH
            refine R_iconst dX0_measure_35 (?_ : RR _ _ _ _ 36 _ _ _ _)
            refine R_goto (t := 41) dX0_measure_36 rfl (?_ : RR _ _ _ _ 41 _ _ _ _)
            refine R_iast dX0_measure_41 (?_ : RR _ _ _ _ 42 _ _ _ _)
            try simp (disch := omega) only [rup_rup, rup_sort, rupS_def, rup_s, rup_n, fup_fup, fup_s, fup_n]
            refine R_iinc dX0_measure_42 rfl (Nat.le_of_ble_eq_true rfl) (?_ : RR _ _ _ _ 45 [_, _, _] _ _ _)
            refine R_goto (t := 12) dX0_measure_45 rfl (?_ : RR _ _ _ _ 12 _ _ _ _)
            exact IH
      refine R_iload_n dX0_measure_2 rfl (?_ : RR _ _ _ _ 3 _ _ _ _)
      refine R_aload_n dX0_measure_3 rfl (?_ : RR _ _ _ _ 4 _ _ _ _)
      refine R_geti (z := 0) dX0_measure_4 flX0_9 cok_0 rfl (by decide) rfl (fun q4 => (?_ : RR _ _ _ _ 7 _ _ _ _))
      try simp (disch := omega) only [rup_rup, rup_sort, rupS_def, rup_s, rup_n, fup_fup, fup_s, fup_n] at q4 ⊢
      rw [hH] at q4 ⊢
      refine R_icmp_ge (t := 54) dX0_measure_7 rfl (fun c7 => ?_) (fun c7 => ?_)
      · exfalso; omega
      refine R_iconst dX0_measure_10 (?_ : RR _ _ _ _ 11 _ _ _ _)
      refine R_istore_n dX0_measure_11 (Nat.le_of_ble_eq_true rfl) (?_ : RR _ _ _ _ 12 [_, _, _] _ _ _)
      exact L0 H 0 (by omega)
  refine R_iconst dX0_measure_0 (?_ : RR _ _ _ _ 1 _ _ _ _)
  refine R_istore_n dX0_measure_1 (Nat.le_of_ble_eq_true rfl) (?_ : RR _ _ _ _ 2 [_, _, _] _ _ _)
  have LL := L1 H 0 pU (by omega)
  simp only [it, rup_self] at LL
  exact LL
