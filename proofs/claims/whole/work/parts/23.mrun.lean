theorem mOK_fr {h h' : Nat → Int → Int} {r np : Nat} (hk : mOK h r np) (h1 : h' 149 = h 149) (h2 : h' 150 = h 150) (h3 : h' 151 = h 151) (h4 : h' 152 = h 152) (h5 : h' r = h r) : mOK h' r np := by
  unfold mOK
  rw [h1, h2, h3, h4, h5]
  exact hk
theorem mrOK_fr {h h' : Nat → Int → Int} {sem : Sem} (hk : mrOK h sem) (h1 : h' 147 23 = h 147 23) (h2 : h' 158 = h 158) : mrOK h' sem := by
  unfold mrOK
  rw [h1, h2]
  exact hk
/-- votes for a wish, of some -/
def poS (P : Nat → Bool) (V W : Int → Int) (np : Nat) (j : Int) : Int := sm (fun p => if P p = true ∧ W p = j then V p else 0) np
theorem poS_b {P : Nat → Bool} {V W : Int → Int} {np : Nat} {j : Int} (hV : ∀ p : Nat, 0 ≤ V p ∧ V p ≤ 99) : 0 ≤ poS P V W np j ∧ poS P V W np j ≤ 99 * np := sm_b (by omega) (fun p => by have := hV p; split <;> omega) np
theorem poS_congr {P P' : Nat → Bool} {V W : Int → Int} {np : Nat} {j : Int} (h : ∀ p, p < np → P p = P' p) : poS P V W np j = poS P' V W np j := sm_congr (fun p hp => by rw [h p hp])
def plF (P : Nat → Bool) (V W f : Int → Int) (n : Nat) : Int → Int := fun j => if 0 ≤ j ∧ j < 3 then poS P V W n j else f j
theorem plF_0 {P : Nat → Bool} {V W f : Int → Int} : plF P V W f 0 = zr f 3 := rfl
theorem plF_no {P : Nat → Bool} {V W f : Int → Int} {n : Nat} (h : P n = false) : plF P V W f (n + 1) = plF P V W f n := by
  funext j
  unfold plF
  split
  · show sm _ n + (if P n = true ∧ _ then V n else 0) = sm _ n
    rw [if_neg (fun q => by rw [h] at q; cases q.1)]
    omega
  · rfl
theorem plF_yes {P : Nat → Bool} {V W f : Int → Int} {n : Nat} (h : P n = true) (hb : 0 ≤ W n ∧ W n < 3) : fup (plF P V W f n) (W n) (plF P V W f n (W n) + V n) = plF P V W f (n + 1) := by
  funext j
  unfold fup plF
  by_cases hj : j = W n
  · subst hj
    rw [if_pos rfl, if_pos hb, if_pos hb]
    show _ = sm _ n + (if P n = true ∧ W n = W n then V n else 0)
    rw [if_pos ⟨h, rfl⟩]
    rfl
  · rw [if_neg hj]
    split
    · show poS P V W n j = sm _ n + (if P n = true ∧ W n = j then V n else 0)
      rw [if_neg (fun q => hj q.2.symm), Int.add_zero]
      rfl
    · rfl
theorem T_X12_polls {r np S : Nat} {sem : Sem} {h : Nat → Int → Int} (hk : mOK h r np) (hm : mrOK h sem) (hnp : h 147 5 = np) (hS : ∀ p : Nat, p < np → S.testBit p = true → mS (h r) p ≠ -1) (hr : isRw r := by assumption) (hrb : r = 154 ∨ r = 155 := by omega) (h12 : np ≤ 12 := by omega) (hSb : S < 4096 := by omega) : RR mX12_polls 4 0 0 0 (pm_ent [pR 147, pR r, pI S] 4) [] (shp0, rf0, h) (fun r' g' => r' = none ∧ ∃ sk th, g' = (shp0, rf0, rup (rup (rup h 160 sk) 161 th) 162 (plF S.testBit (vtS sem (h 153) (h 152) (nds (h 151)) (mS (h r)) (mP (h r)) (mA (h r)) (h r 0) (h r 1) np) (wiS (h 149) (h 150) (nds (h 151)) (h 152) (mS (h r)) (mP (h r)) (mA (h r)) (h r 0)) (h 162) np))) := by
  suffices hSS : ∀ Q : Option PV → PH → Prop, (∀ sk th, Q none (shp0, rf0, rup (rup (rup h 160 sk) 161 th) 162 (plF S.testBit (vtS sem (h 153) (h 152) (nds (h 151)) (mS (h r)) (mP (h r)) (mA (h r)) (h r 0) (h r 1) np) (wiS (h 149) (h 150) (nds (h 151)) (h 152) (mS (h r)) (mP (h r)) (mA (h r)) (h r 0)) (h 162) np))) → RR mX12_polls 4 0 0 0 [pR 147, pR r, pI S, pU] [] (shp0, rf0, h) Q from hSS _ (fun sk th => ⟨rfl, sk, th, rfl⟩)
  intro Q hQ
  obtain ⟨V, hV⟩ : ∃ V, V = (vtS sem (h 153) (h 152) (nds (h 151)) (mS (h r)) (mP (h r)) (mA (h r)) (h r 0) (h r 1) np) := ⟨_, rfl⟩
  obtain ⟨W, hW⟩ : ∃ W, W = (wiS (h 149) (h 150) (nds (h 151)) (h 152) (mS (h r)) (mP (h r)) (mA (h r)) (h r 0)) := ⟨_, rfl⟩
  rw [← hV, ← hW] at hQ
  have hVb : ∀ p : Nat, 0 ≤ V p ∧ V p ≤ 99 := fun p => by rw [hV]; exact vtS_b
  have L : ∀ (k i : Nat) (sk th : Int → Int), i + k = np → RR mX12_polls 4 0 0 23 [pR 147, pR r, pI S, pI i] [] (shp0, rf0, rup (rup (rup h 160 sk) 161 th) 162 (plF S.testBit V W (h 162) i)) Q := by
    intro k
    induction k with
    | zero =>
      intro i sk th hi
      obtain rfl : i = np := by omega
      refine R_iload_n dX12_polls_23 rfl (?_ : RR _ _ _ _ 24 _ _ _ _)
      refine R_aload_n dX12_polls_24 rfl (?_ : RR _ _ _ _ 25 _ _ _ _)
      refine R_geti (z := 5) dX12_polls_25 flX12_127 cok_12 rfl (by decide) rfl (fun q25 => (?_ : RR _ _ _ _ 28 _ _ _ _))
      try simp (disch := omega) only [rup_rup, rup_sort, rupS_def, rup_s, rup_n, fup_fup, fup_s, fup_n] at q25 ⊢
      rw [hnp] at q25 ⊢
      refine R_icmp_ge (t := 65) dX12_polls_28 rfl (fun c28 => ?_) (fun c28 => ?_)
      rotate_left
      · exfalso; omega
      exact R_return dX12_polls_65 trivial (hQ sk th)
    | succ k ih =>
      intro i sk th hi
      have hk2 : mOK (rup (rup (rup h 160 sk) 161 th) 162 (plF S.testBit V W (h 162) i)) r np := mOK_fr hk (by simp (disch := omega) only [rup_n]) (by simp (disch := omega) only [rup_n]) (by simp (disch := omega) only [rup_n]) (by simp (disch := omega) only [rup_n]) (by simp (disch := omega) only [rup_n])
      have hm2 : mrOK (rup (rup (rup h 160 sk) 161 th) 162 (plF S.testBit V W (h 162) i)) sem := mrOK_fr hm (by simp (disch := omega) only [rup_n]) (by simp (disch := omega) only [rup_n])
      by_cases hb : S.testBit i = true
      · have hse := hS i (by omega) hb
        have hwb : 0 ≤ W i ∧ W i < 3 := by
          rw [hW]
          unfold wiS
          rw [if_neg hse]
          have := wishS_b (ex := h 149) (mi := h 150) (ds := nds (h 151)) (a := halS (h r 0) (mP (h r)) (mA (h r)) (mS (h r) i)) (w := h 152 i)
          omega
        have hpb : 0 ≤ plF S.testBit V W (h 162) i (W i) ∧ plF S.testBit V W (h 162) i (W i) ≤ 99 * i := by
          unfold plF
          rw [if_pos hwb]
          exact poS_b hVb
        have hvb := hVb i
        have hwe := congrFun hW (i : Int)
        have hve := congrFun hV (i : Int)
        refine R_iload_n dX12_polls_23 rfl (?_ : RR _ _ _ _ 24 _ _ _ _)
        refine R_aload_n dX12_polls_24 rfl (?_ : RR _ _ _ _ 25 _ _ _ _)
        refine R_geti (z := 5) dX12_polls_25 flX12_127 cok_12 rfl (by decide) rfl (fun q25 => (?_ : RR _ _ _ _ 28 _ _ _ _))
        try simp (disch := omega) only [rup_rup, rup_sort, rupS_def, rup_s, rup_n, fup_fup, fup_s, fup_n] at q25 ⊢
        rw [hnp] at q25 ⊢
        refine R_icmp_ge (t := 65) dX12_polls_28 rfl (fun c28 => ?_) (fun c28 => ?_)
        · first | (exfalso; omega) | (rw [if_pos hb] at c36; exfalso; omega)
        refine R_iload_n dX12_polls_31 rfl (?_ : RR _ _ _ _ 32 _ _ _ _)
        refine R_iload_n dX12_polls_32 rfl (?_ : RR _ _ _ _ 33 _ _ _ _)
        refine R_cSi2 dX12_polls_33 msX12_has mlX12_288 (by decide) (Nat.le_of_ble_eq_true rfl) (Nat.le_of_ble_eq_true rfl) (T_X12_has (by omega)) (?_ : RR _ _ _ _ 36 _ _ _ _)
        try simp (disch := omega) only [rup_rup, rup_sort, rupS_def, rup_s, rup_n, fup_fup, fup_s, fup_n]
        rw [if_pos hb]
        refine R_if_eq (t := 59) dX12_polls_36 rfl (fun c36 => ?_) (fun c36 => ?_)
        · first | (exfalso; omega) | (rw [if_pos hb] at c36; exfalso; omega)
        refine R_aload_n dX12_polls_39 rfl (?_ : RR _ _ _ _ 40 _ _ _ _)
        refine R_getr dX12_polls_40 flX12_57 cok_12 rfl (by decide) (?_ : RR _ _ _ _ 43 _ _ _ _)
        refine R_aload_n dX12_polls_43 rfl (?_ : RR _ _ _ _ 44 _ _ _ _)
        refine R_aload_n dX12_polls_44 rfl (?_ : RR _ _ _ _ 45 _ _ _ _)
        refine R_iload_n dX12_polls_45 rfl (?_ : RR _ _ _ _ 46 _ _ _ _)
        refine R_cVi2 dX12_polls_46 mvX12_wishOf mlX12_291 (by decide) (by decide) (Nat.le_of_ble_eq_true rfl) (Nat.le_of_ble_eq_true rfl) (T_X12_wishOf hk2 (by omega) (by simp (disch := omega) only [rup_n]; exact hse)) (?_ : RR _ _ _ _ 49 _ _ _ _)
        try simp (disch := omega) only [rup_rup, rup_sort, rupS_def, rup_s, rup_n, fup_fup, fup_s, fup_n]
        rw [← hwe]
        refine R_dup2 dX12_polls_49 (fun _ => rfl) (fun _ => rfl) (?_ : RR _ _ _ _ 50 _ _ _ _)
        refine R_iald dX12_polls_50 (fun q50 => (?_ : RR _ _ _ _ 51 _ _ _ _))
        try simp (disch := omega) only [rup_rup, rup_sort, rupS_def, rup_s, rup_n, fup_fup, fup_s, fup_n] at q50 ⊢
        refine R_aload_n dX12_polls_51 rfl (?_ : RR _ _ _ _ 52 _ _ _ _)
        refine R_aload_n dX12_polls_52 rfl (?_ : RR _ _ _ _ 53 _ _ _ _)
        refine R_iload_n dX12_polls_53 rfl (?_ : RR _ _ _ _ 54 _ _ _ _)
        refine R_qV2 dX12_polls_54 mvX12_votesOf mlX12_294 (by decide) (by decide) (Nat.le_of_ble_eq_true rfl) (Nat.le_of_ble_eq_true rfl) (T_X12_votesOf (sem := sem) (np := np) hk2 hm2 (by simp (disch := omega) only [rup_n]; exact hnp) (by omega) (by simp (disch := omega) only [rup_n]; exact hse)) (fun r9 g9 hq9 => (?_ : RR _ _ _ _ 57 _ _ _ _))
        obtain ⟨rfl, sk2, th2, rfl⟩ := hq9
        simp (disch := omega) only [rup_rup, rup_sort, rupS_def, rup_s, rup_n]
        rw [← hve]
        show RR _ _ _ _ _ _ [pI (V i), pI _, pI (W i), pR 162] _ _
        try simp (disch := omega) only [rup_rup, rup_sort, rupS_def, rup_s, rup_n, fup_fup, fup_s, fup_n]
        refine R_iadd dX12_polls_57 (?_ : RR _ _ _ _ 58 _ _ _ _)
        refine R_iast dX12_polls_58 (?_ : RR _ _ _ _ 59 _ _ _ _)
        try simp (disch := omega) only [rup_rup, rup_sort, rupS_def, rup_s, rup_n, fup_fup, fup_s, fup_n]
        rw [plF_yes hb hwb]
        refine R_iinc dX12_polls_59 rfl (Nat.le_of_ble_eq_true rfl) (?_ : RR _ _ _ _ 62 [_, _, _, _] _ _ _)
        refine R_goto (t := 23) dX12_polls_62 rfl (?_ : RR _ _ _ _ 23 _ _ _ _)
        exact ih (i + 1) sk2 th2 (by omega)
      · have hb2 : S.testBit i = false := by simpa using hb
        refine R_iload_n dX12_polls_23 rfl (?_ : RR _ _ _ _ 24 _ _ _ _)
        refine R_aload_n dX12_polls_24 rfl (?_ : RR _ _ _ _ 25 _ _ _ _)
        refine R_geti (z := 5) dX12_polls_25 flX12_127 cok_12 rfl (by decide) rfl (fun q25 => (?_ : RR _ _ _ _ 28 _ _ _ _))
        try simp (disch := omega) only [rup_rup, rup_sort, rupS_def, rup_s, rup_n, fup_fup, fup_s, fup_n] at q25 ⊢
        rw [hnp] at q25 ⊢
        refine R_icmp_ge (t := 65) dX12_polls_28 rfl (fun c28 => ?_) (fun c28 => ?_)
        · first | (exfalso; omega) | (rw [if_neg hb] at c36; exfalso; omega)
        refine R_iload_n dX12_polls_31 rfl (?_ : RR _ _ _ _ 32 _ _ _ _)
        refine R_iload_n dX12_polls_32 rfl (?_ : RR _ _ _ _ 33 _ _ _ _)
        refine R_cSi2 dX12_polls_33 msX12_has mlX12_288 (by decide) (Nat.le_of_ble_eq_true rfl) (Nat.le_of_ble_eq_true rfl) (T_X12_has (by omega)) (?_ : RR _ _ _ _ 36 _ _ _ _)
        try simp (disch := omega) only [rup_rup, rup_sort, rupS_def, rup_s, rup_n, fup_fup, fup_s, fup_n]
        refine R_if_eq (t := 59) dX12_polls_36 rfl (fun c36 => ?_) (fun c36 => ?_)
        rotate_left
        · first | (exfalso; omega) | (rw [if_neg hb] at c36; exfalso; omega)
        rw [← plF_no hb2]
        refine R_iinc dX12_polls_59 rfl (Nat.le_of_ble_eq_true rfl) (?_ : RR _ _ _ _ 62 [_, _, _, _] _ _ _)
        refine R_goto (t := 23) dX12_polls_62 rfl (?_ : RR _ _ _ _ 23 _ _ _ _)
        exact ih (i + 1) sk th (by omega)
  refine R_aload_n dX12_polls_0 rfl (?_ : RR _ _ _ _ 1 _ _ _ _)
  refine R_getr dX12_polls_1 flX12_57 cok_12 rfl (by decide) (?_ : RR _ _ _ _ 4 _ _ _ _)
  refine R_iconst dX12_polls_4 (?_ : RR _ _ _ _ 5 _ _ _ _)
  refine R_iconst dX12_polls_5 (?_ : RR _ _ _ _ 6 _ _ _ _)
  refine R_iast dX12_polls_6 (?_ : RR _ _ _ _ 7 _ _ _ _)
  try simp (disch := omega) only [rup_rup, rup_sort, rupS_def, rup_s, rup_n, fup_fup, fup_s, fup_n]
  refine R_aload_n dX12_polls_7 rfl (?_ : RR _ _ _ _ 8 _ _ _ _)
  refine R_getr dX12_polls_8 flX12_57 cok_12 rfl (by decide) (?_ : RR _ _ _ _ 11 _ _ _ _)
  refine R_iconst dX12_polls_11 (?_ : RR _ _ _ _ 12 _ _ _ _)
  refine R_iconst dX12_polls_12 (?_ : RR _ _ _ _ 13 _ _ _ _)
  refine R_iast dX12_polls_13 (?_ : RR _ _ _ _ 14 _ _ _ _)
  try simp (disch := omega) only [rup_rup, rup_sort, rupS_def, rup_s, rup_n, fup_fup, fup_s, fup_n]
  refine R_aload_n dX12_polls_14 rfl (?_ : RR _ _ _ _ 15 _ _ _ _)
  refine R_getr dX12_polls_15 flX12_57 cok_12 rfl (by decide) (?_ : RR _ _ _ _ 18 _ _ _ _)
  refine R_iconst dX12_polls_18 (?_ : RR _ _ _ _ 19 _ _ _ _)
  refine R_iconst dX12_polls_19 (?_ : RR _ _ _ _ 20 _ _ _ _)
  refine R_iast dX12_polls_20 (?_ : RR _ _ _ _ 21 _ _ _ _)
  try simp (disch := omega) only [rup_rup, rup_sort, rupS_def, rup_s, rup_n, fup_fup, fup_s, fup_n]
  refine R_iconst dX12_polls_21 (?_ : RR _ _ _ _ 22 _ _ _ _)
  refine R_istore_n dX12_polls_22 (Nat.le_of_ble_eq_true rfl) (?_ : RR _ _ _ _ 23 [_, _, _, _] _ _ _)
  rw [zr_3]
  have L0 := L np 0 (h 160) (h 161) (by omega)
  rw [plF_0, rup_self, rup_self] at L0
  exact L0
theorem chS_m {a b c : Int} (ha : 0 ≤ a) (hb : 0 ≤ b) (hc : 0 ≤ c) {x y z : Int} (hx : x = if a < b then 1 else 0) (hy : y = if (if a < b then b else a) < c then 2 else x) : chS a b c = if (if y = 0 then a else if y = 1 then b else c) = 0 then 2 else y := by
  subst hx
  subst hy
  unfold chS
  repeat' split
  all_goals first | rfl | omega
theorem T_X12_polled {h : Nat → Int → Int} (h0 : 0 ≤ h 162 0) (h1 : 0 ≤ h 162 1) (h2 : 0 ≤ h 162 2) : MT mX12_polled 0 [pR 147] h (some (pI (chS (h 162 0) (h 162 1) (h 162 2)))) h := by
  refine MT.of (fun Q hQ => (?_ : RR mX12_polled _ _ _ _ [pR 147, pU] _ _ _))
  refine R_aload_n dX12_polled_0 rfl (?_ : RR _ _ _ _ 1 _ _ _ _)
  refine R_getr dX12_polled_1 flX12_57 cok_12 rfl (by decide) (?_ : RR _ _ _ _ 4 _ _ _ _)
  refine R_iconst dX12_polled_4 (?_ : RR _ _ _ _ 5 _ _ _ _)
  refine R_iald dX12_polled_5 (fun q5 => (?_ : RR _ _ _ _ 6 _ _ _ _))
  refine R_aload_n dX12_polled_6 rfl (?_ : RR _ _ _ _ 7 _ _ _ _)
  refine R_getr dX12_polled_7 flX12_57 cok_12 rfl (by decide) (?_ : RR _ _ _ _ 10 _ _ _ _)
  refine R_iconst dX12_polled_10 (?_ : RR _ _ _ _ 11 _ _ _ _)
  refine R_iald dX12_polled_11 (fun q11 => (?_ : RR _ _ _ _ 12 _ _ _ _))
  refine R_icmp_le (t := 19) dX12_polled_12 rfl (fun c12 => ?_) (fun c12 => ?_)
  · refine R_iconst dX12_polled_19 (?_ : RR _ _ _ _ 20 _ _ _ _)
    refine R_istore_n dX12_polled_20 (Nat.le_of_ble_eq_true rfl) (?_ : RR _ _ _ _ 21 [_, _] _ _ _)
    refine R_aload_n dX12_polled_21 rfl (?_ : RR _ _ _ _ 22 _ _ _ _)
    refine R_getr dX12_polled_22 flX12_57 cok_12 rfl (by decide) (?_ : RR _ _ _ _ 25 _ _ _ _)
    refine R_iconst dX12_polled_25 (?_ : RR _ _ _ _ 26 _ _ _ _)
    refine R_iald dX12_polled_26 (fun q26 => (?_ : RR _ _ _ _ 27 _ _ _ _))
    refine R_aload_n dX12_polled_27 rfl (?_ : RR _ _ _ _ 28 _ _ _ _)
    refine R_getr dX12_polled_28 flX12_57 cok_12 rfl (by decide) (?_ : RR _ _ _ _ 31 _ _ _ _)
    refine R_iload_n dX12_polled_31 rfl (?_ : RR _ _ _ _ 32 _ _ _ _)
    refine R_iald dX12_polled_32 (fun q32 => (?_ : RR _ _ _ _ 33 _ _ _ _))
    refine R_icmp_le (t := 40) dX12_polled_33 rfl (fun c33 => ?_) (fun c33 => ?_)
    · refine R_iload_n dX12_polled_40 rfl (?_ : RR _ _ _ _ 41 _ _ _ _)
      refine R_istore_n dX12_polled_41 (Nat.le_of_ble_eq_true rfl) (?_ : RR _ _ _ _ 42 [_, _] _ _ _)
      refine R_aload_n dX12_polled_42 rfl (?_ : RR _ _ _ _ 43 _ _ _ _)
      refine R_getr dX12_polled_43 flX12_57 cok_12 rfl (by decide) (?_ : RR _ _ _ _ 46 _ _ _ _)
      refine R_iload_n dX12_polled_46 rfl (?_ : RR _ _ _ _ 47 _ _ _ _)
      refine R_iald dX12_polled_47 (fun q47 => (?_ : RR _ _ _ _ 48 _ _ _ _))
      refine R_if_ne (t := 55) dX12_polled_48 rfl (fun c48 => ?_) (fun c48 => ?_)
      · refine R_iload_n dX12_polled_55 rfl (?_ : RR _ _ _ _ 56 _ _ _ _)
        exact R_ireturn dX12_polled_56 trivial (by first | (rw [show chS (h 162 0) (h 162 1) (h 162 2) = 0 by unfold chS; (repeat' split) <;> omega] at hQ; exact hQ) | (rw [show chS (h 162 0) (h 162 1) (h 162 2) = 1 by unfold chS; (repeat' split) <;> omega] at hQ; exact hQ) | (rw [show chS (h 162 0) (h 162 1) (h 162 2) = 2 by unfold chS; (repeat' split) <;> omega] at hQ; exact hQ))
      · refine R_iconst dX12_polled_51 (?_ : RR _ _ _ _ 52 _ _ _ _)
        refine R_goto (t := 56) dX12_polled_52 rfl (?_ : RR _ _ _ _ 56 _ _ _ _)
        exact R_ireturn dX12_polled_56 trivial (by first | (rw [show chS (h 162 0) (h 162 1) (h 162 2) = 0 by unfold chS; (repeat' split) <;> omega] at hQ; exact hQ) | (rw [show chS (h 162 0) (h 162 1) (h 162 2) = 1 by unfold chS; (repeat' split) <;> omega] at hQ; exact hQ) | (rw [show chS (h 162 0) (h 162 1) (h 162 2) = 2 by unfold chS; (repeat' split) <;> omega] at hQ; exact hQ))
    · refine R_iconst dX12_polled_36 (?_ : RR _ _ _ _ 37 _ _ _ _)
      refine R_goto (t := 41) dX12_polled_37 rfl (?_ : RR _ _ _ _ 41 _ _ _ _)
      refine R_istore_n dX12_polled_41 (Nat.le_of_ble_eq_true rfl) (?_ : RR _ _ _ _ 42 [_, _] _ _ _)
      refine R_aload_n dX12_polled_42 rfl (?_ : RR _ _ _ _ 43 _ _ _ _)
      refine R_getr dX12_polled_43 flX12_57 cok_12 rfl (by decide) (?_ : RR _ _ _ _ 46 _ _ _ _)
      refine R_iload_n dX12_polled_46 rfl (?_ : RR _ _ _ _ 47 _ _ _ _)
      refine R_iald dX12_polled_47 (fun q47 => (?_ : RR _ _ _ _ 48 _ _ _ _))
      refine R_if_ne (t := 55) dX12_polled_48 rfl (fun c48 => ?_) (fun c48 => ?_)
      · refine R_iload_n dX12_polled_55 rfl (?_ : RR _ _ _ _ 56 _ _ _ _)
        exact R_ireturn dX12_polled_56 trivial (by first | (rw [show chS (h 162 0) (h 162 1) (h 162 2) = 0 by unfold chS; (repeat' split) <;> omega] at hQ; exact hQ) | (rw [show chS (h 162 0) (h 162 1) (h 162 2) = 1 by unfold chS; (repeat' split) <;> omega] at hQ; exact hQ) | (rw [show chS (h 162 0) (h 162 1) (h 162 2) = 2 by unfold chS; (repeat' split) <;> omega] at hQ; exact hQ))
      · refine R_iconst dX12_polled_51 (?_ : RR _ _ _ _ 52 _ _ _ _)
        refine R_goto (t := 56) dX12_polled_52 rfl (?_ : RR _ _ _ _ 56 _ _ _ _)
        exact R_ireturn dX12_polled_56 trivial (by first | (rw [show chS (h 162 0) (h 162 1) (h 162 2) = 0 by unfold chS; (repeat' split) <;> omega] at hQ; exact hQ) | (rw [show chS (h 162 0) (h 162 1) (h 162 2) = 1 by unfold chS; (repeat' split) <;> omega] at hQ; exact hQ) | (rw [show chS (h 162 0) (h 162 1) (h 162 2) = 2 by unfold chS; (repeat' split) <;> omega] at hQ; exact hQ))
  · refine R_iconst dX12_polled_15 (?_ : RR _ _ _ _ 16 _ _ _ _)
    refine R_goto (t := 20) dX12_polled_16 rfl (?_ : RR _ _ _ _ 20 _ _ _ _)
    refine R_istore_n dX12_polled_20 (Nat.le_of_ble_eq_true rfl) (?_ : RR _ _ _ _ 21 [_, _] _ _ _)
    refine R_aload_n dX12_polled_21 rfl (?_ : RR _ _ _ _ 22 _ _ _ _)
    refine R_getr dX12_polled_22 flX12_57 cok_12 rfl (by decide) (?_ : RR _ _ _ _ 25 _ _ _ _)
    refine R_iconst dX12_polled_25 (?_ : RR _ _ _ _ 26 _ _ _ _)
    refine R_iald dX12_polled_26 (fun q26 => (?_ : RR _ _ _ _ 27 _ _ _ _))
    refine R_aload_n dX12_polled_27 rfl (?_ : RR _ _ _ _ 28 _ _ _ _)
    refine R_getr dX12_polled_28 flX12_57 cok_12 rfl (by decide) (?_ : RR _ _ _ _ 31 _ _ _ _)
    refine R_iload_n dX12_polled_31 rfl (?_ : RR _ _ _ _ 32 _ _ _ _)
    refine R_iald dX12_polled_32 (fun q32 => (?_ : RR _ _ _ _ 33 _ _ _ _))
    refine R_icmp_le (t := 40) dX12_polled_33 rfl (fun c33 => ?_) (fun c33 => ?_)
    · refine R_iload_n dX12_polled_40 rfl (?_ : RR _ _ _ _ 41 _ _ _ _)
      refine R_istore_n dX12_polled_41 (Nat.le_of_ble_eq_true rfl) (?_ : RR _ _ _ _ 42 [_, _] _ _ _)
      refine R_aload_n dX12_polled_42 rfl (?_ : RR _ _ _ _ 43 _ _ _ _)
      refine R_getr dX12_polled_43 flX12_57 cok_12 rfl (by decide) (?_ : RR _ _ _ _ 46 _ _ _ _)
      refine R_iload_n dX12_polled_46 rfl (?_ : RR _ _ _ _ 47 _ _ _ _)
      refine R_iald dX12_polled_47 (fun q47 => (?_ : RR _ _ _ _ 48 _ _ _ _))
      refine R_if_ne (t := 55) dX12_polled_48 rfl (fun c48 => ?_) (fun c48 => ?_)
      · refine R_iload_n dX12_polled_55 rfl (?_ : RR _ _ _ _ 56 _ _ _ _)
        exact R_ireturn dX12_polled_56 trivial (by first | (rw [show chS (h 162 0) (h 162 1) (h 162 2) = 0 by unfold chS; (repeat' split) <;> omega] at hQ; exact hQ) | (rw [show chS (h 162 0) (h 162 1) (h 162 2) = 1 by unfold chS; (repeat' split) <;> omega] at hQ; exact hQ) | (rw [show chS (h 162 0) (h 162 1) (h 162 2) = 2 by unfold chS; (repeat' split) <;> omega] at hQ; exact hQ))
      · refine R_iconst dX12_polled_51 (?_ : RR _ _ _ _ 52 _ _ _ _)
        refine R_goto (t := 56) dX12_polled_52 rfl (?_ : RR _ _ _ _ 56 _ _ _ _)
        exact R_ireturn dX12_polled_56 trivial (by first | (rw [show chS (h 162 0) (h 162 1) (h 162 2) = 0 by unfold chS; (repeat' split) <;> omega] at hQ; exact hQ) | (rw [show chS (h 162 0) (h 162 1) (h 162 2) = 1 by unfold chS; (repeat' split) <;> omega] at hQ; exact hQ) | (rw [show chS (h 162 0) (h 162 1) (h 162 2) = 2 by unfold chS; (repeat' split) <;> omega] at hQ; exact hQ))
    · refine R_iconst dX12_polled_36 (?_ : RR _ _ _ _ 37 _ _ _ _)
      refine R_goto (t := 41) dX12_polled_37 rfl (?_ : RR _ _ _ _ 41 _ _ _ _)
      refine R_istore_n dX12_polled_41 (Nat.le_of_ble_eq_true rfl) (?_ : RR _ _ _ _ 42 [_, _] _ _ _)
      refine R_aload_n dX12_polled_42 rfl (?_ : RR _ _ _ _ 43 _ _ _ _)
      refine R_getr dX12_polled_43 flX12_57 cok_12 rfl (by decide) (?_ : RR _ _ _ _ 46 _ _ _ _)
      refine R_iload_n dX12_polled_46 rfl (?_ : RR _ _ _ _ 47 _ _ _ _)
      refine R_iald dX12_polled_47 (fun q47 => (?_ : RR _ _ _ _ 48 _ _ _ _))
      refine R_if_ne (t := 55) dX12_polled_48 rfl (fun c48 => ?_) (fun c48 => ?_)
      · refine R_iload_n dX12_polled_55 rfl (?_ : RR _ _ _ _ 56 _ _ _ _)
        exact R_ireturn dX12_polled_56 trivial (by first | (rw [show chS (h 162 0) (h 162 1) (h 162 2) = 0 by unfold chS; (repeat' split) <;> omega] at hQ; exact hQ) | (rw [show chS (h 162 0) (h 162 1) (h 162 2) = 1 by unfold chS; (repeat' split) <;> omega] at hQ; exact hQ) | (rw [show chS (h 162 0) (h 162 1) (h 162 2) = 2 by unfold chS; (repeat' split) <;> omega] at hQ; exact hQ))
      · refine R_iconst dX12_polled_51 (?_ : RR _ _ _ _ 52 _ _ _ _)
        refine R_goto (t := 56) dX12_polled_52 rfl (?_ : RR _ _ _ _ 56 _ _ _ _)
        exact R_ireturn dX12_polled_56 trivial (by first | (rw [show chS (h 162 0) (h 162 1) (h 162 2) = 0 by unfold chS; (repeat' split) <;> omega] at hQ; exact hQ) | (rw [show chS (h 162 0) (h 162 1) (h 162 2) = 1 by unfold chS; (repeat' split) <;> omega] at hQ; exact hQ) | (rw [show chS (h 162 0) (h 162 1) (h 162 2) = 2 by unfold chS; (repeat' split) <;> omega] at hQ; exact hQ))
/-- the vote of some, by the other -/
def mvS (sem : Sem) (h : Nat → Int → Int) (r np : Nat) (P : Nat → Bool) : Int := chS (poS P (vtS sem (h 153) (h 152) (nds (h 151)) (mS (h r)) (mP (h r)) (mA (h r)) (h r 0) (h r 1) np) (wiS (h 149) (h 150) (nds (h 151)) (h 152) (mS (h r)) (mP (h r)) (mA (h r)) (h r 0)) np 0) (poS P (vtS sem (h 153) (h 152) (nds (h 151)) (mS (h r)) (mP (h r)) (mA (h r)) (h r 0) (h r 1) np) (wiS (h 149) (h 150) (nds (h 151)) (h 152) (mS (h r)) (mP (h r)) (mA (h r)) (h r 0)) np 1) (poS P (vtS sem (h 153) (h 152) (nds (h 151)) (mS (h r)) (mP (h r)) (mA (h r)) (h r 0) (h r 1) np) (wiS (h 149) (h 150) (nds (h 151)) (h 152) (mS (h r)) (mP (h r)) (mA (h r)) (h r 0)) np 2)
theorem poS_bset {P : Nat → Bool} {V W : Int → Int} {np : Nat} {j : Int} : poS (bset P np).testBit V W np j = poS P V W np j := poS_congr (fun p hp => by rw [bset_bit]; simp [hp])
/-- behind a poll: scratch rows, the sums -/
def poP (sem : Sem) (h : Nat → Int → Int) (r np : Nat) (P : Nat → Bool) (h' : Nat → Int → Int) : Prop := (∀ a, a ≠ 160 → a ≠ 161 → a ≠ 162 → h' a = h a) ∧ ∀ j, 0 ≤ j ∧ j < 3 → h' 162 j = poS P (vtS sem (h 153) (h 152) (nds (h 151)) (mS (h r)) (mP (h r)) (mA (h r)) (h r 0) (h r 1) np) (wiS (h 149) (h 150) (nds (h 151)) (h 152) (mS (h r)) (mP (h r)) (mA (h r)) (h r 0)) np j
theorem bset_4096 {P : Nat → Bool} {n : Nat} (h : n ≤ 12) : bset P n < 4096 := Nat.lt_of_lt_of_le (bset_lt _ _) (show 2 ^ n ≤ 2 ^ 12 from Nat.pow_le_pow_right (by omega) h)
theorem T_X12_voteOf {r np : Nat} {c : Int} {sem : Sem} {h : Nat → Int → Int} (hk : mOK h r np) (hm : mrOK h sem) (hnp : h 147 5 = np) (hc : 0 ≤ c ∧ c < 6 := by omega) (hr : isRw r := by assumption) (hrb : r = 154 ∨ r = 155 := by omega) (h12 : np ≤ 12 := by omega) : RR mX12_voteOf 5 0 0 0 (pm_ent [pR 147, pR r, pI c] 3) [] (shp0, rf0, h) (fun r' g' => r' = some (pI (mvS sem h r np (fun p => decide (mS (h r) p = c)))) ∧ ∃ h', g' = (shp0, rf0, h') ∧ poP sem h r np (fun p => decide (mS (h r) p = c)) h') := by
  suffices hSS : ∀ Q : Option PV → PH → Prop, (∀ h', poP sem h r np (fun p => decide (mS (h r) p = c)) h' → Q (some (pI (mvS sem h r np (fun p => decide (mS (h r) p = c))))) (shp0, rf0, h')) → RR mX12_voteOf 5 0 0 0 [pR 147, pR r, pI c] [] (shp0, rf0, h) Q from hSS _ (fun h' q => ⟨rfl, h', rfl, q⟩)
  intro Q hQ
  generalize hP : (fun p : Nat => decide (mS (h r) p = c)) = P at hQ
  have K : ∀ h' : Nat → Int → Int, poP sem h r np P h' → RR mX12_voteOf 5 0 0 11 [pR 147, pR r, pI c] [] (shp0, rf0, h') Q := by
    intro h' hp
    have e0 := hp.2 0 (by omega)
    have e1 := hp.2 1 (by omega)
    have e2 := hp.2 2 (by omega)
    have b0 := poS_b (P := P) (W := (wiS (h 149) (h 150) (nds (h 151)) (h 152) (mS (h r)) (mP (h r)) (mA (h r)) (h r 0))) (np := np) (j := 0) (fun p => vtS_b (sem := sem) (rank := h 153) (want := h 152) (ds := nds (h 151)) (se := mS (h r)) (pl := mP (h r)) (sd := mA (h r)) (en := h r 0) (nw := h r 1) (np := np) (p := p))
    have b1 := poS_b (P := P) (W := (wiS (h 149) (h 150) (nds (h 151)) (h 152) (mS (h r)) (mP (h r)) (mA (h r)) (h r 0))) (np := np) (j := 1) (fun p => vtS_b (sem := sem) (rank := h 153) (want := h 152) (ds := nds (h 151)) (se := mS (h r)) (pl := mP (h r)) (sd := mA (h r)) (en := h r 0) (nw := h r 1) (np := np) (p := p))
    have b2 := poS_b (P := P) (W := (wiS (h 149) (h 150) (nds (h 151)) (h 152) (mS (h r)) (mP (h r)) (mA (h r)) (h r 0))) (np := np) (j := 2) (fun p => vtS_b (sem := sem) (rank := h 153) (want := h 152) (ds := nds (h 151)) (se := mS (h r)) (pl := mP (h r)) (sd := mA (h r)) (en := h r 0) (nw := h r 1) (np := np) (p := p))
    have hq := hQ h' hp
    unfold mvS at hq
    rw [← e0, ← e1, ← e2] at hq
    refine R_aload_n dX12_voteOf_11 rfl (?_ : RR _ _ _ _ 12 _ _ _ _)
    refine R_cVi0 dX12_voteOf_12 mvX12_polled mlX12_300 (by decide) (by decide) (Nat.le_of_ble_eq_true rfl) (Nat.le_of_ble_eq_true rfl) (T_X12_polled (by omega) (by omega) (by omega)) (?_ : RR _ _ _ _ 15 _ _ _ _)
    exact R_ireturn dX12_voteOf_15 trivial hq
  refine R_aload_n dX12_voteOf_0 rfl (?_ : RR _ _ _ _ 1 _ _ _ _)
  refine R_aload_n dX12_voteOf_1 rfl (?_ : RR _ _ _ _ 2 _ _ _ _)
  refine R_aload_n dX12_voteOf_2 rfl (?_ : RR _ _ _ _ 3 _ _ _ _)
  refine R_aload_n dX12_voteOf_3 rfl (?_ : RR _ _ _ _ 4 _ _ _ _)
  refine R_iload_n dX12_voteOf_4 rfl (?_ : RR _ _ _ _ 5 _ _ _ _)
  refine R_cVi2 dX12_voteOf_5 mvX12_sitting mlX12_270 (by decide) (by decide) (Nat.le_of_ble_eq_true rfl) (Nat.le_of_ble_eq_true rfl) (T_X12_sitting hnp) (?_ : RR _ _ _ _ 8 _ _ _ _)
  rw [hP]
  refine R_qV2 dX12_voteOf_8 mvX12_polls mlX12_297 (by decide) (by decide) (Nat.le_of_ble_eq_true rfl) (Nat.le_of_ble_eq_true rfl) (T_X12_polls (sem := sem) (np := np) hk hm hnp (fun p hp hb => by rw [bset_bit, ← hP] at hb; simp at hb; omega) (hSb := bset_4096 h12)) (fun r9 g9 hq9 => (?_ : RR _ _ _ _ 11 _ _ _ _))
  obtain ⟨rfl, sk, th, rfl⟩ := hq9
  show RR _ _ _ _ _ _ [] _ _
  refine K _ ⟨fun a a1 a2 a3 => by rw [rup_n a3, rup_n a2, rup_n a1], fun j hj => ?_⟩
  rw [rup_s]
  unfold plF
  rw [if_pos hj]
  exact poS_bset
