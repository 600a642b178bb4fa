def ridP (f : Int → Int) (p : Nat) : Bool := decide (0 ≤ mS f p ∧ 0 ≤ mP f (mS f p))
theorem T_X12_riding {r np : Nat} {h : Nat → Int → Int} (hs : ∀ j : Nat, j < np → mS (h r) j = -1 ∨ (0 ≤ mS (h r) j ∧ mS (h r) j < 6)) (hnp : h 147 5 = np) (hr : isRw r := by assumption) (h12 : np ≤ 12 := by omega) : MT mX12_riding 1 [pR 147, pR r] h (some (pI (bset (ridP (h r)) np))) h := by
  refine MT.of (fun Q hQ => (?_ : RR mX12_riding _ _ _ _ [pR 147, pR r, pU, pU] _ _ _))
  refine R_nzf (fun hz => ?_)
  have L : ∀ k i : Nat, i + k = np → RR mX12_riding 1 0 0 4 [pR 147, pR r, pI (bset (ridP (h r)) i), pI i] [] (shp0, rf0, h) Q := by
    intro k
    induction k with
    | zero =>
      intro i hi 
      obtain rfl : i = np := by omega
      refine R_iload_n dX12_riding_4 rfl (?_ : RR _ _ _ _ 5 _ _ _ _)
      refine R_aload_n dX12_riding_5 rfl (?_ : RR _ _ _ _ 6 _ _ _ _)
      refine R_geti (z := 5) dX12_riding_6 flX12_127 cok_12 rfl (by decide) rfl (fun q6 => (?_ : RR _ _ _ _ 9 _ _ _ _))
      rw [hnp] at q6 ⊢
      refine R_icmp_ge (t := 50) dX12_riding_9 rfl (fun c9 => ?_) (fun c9 => ?_)
      rotate_left
      · exfalso; omega
      refine R_iload_n dX12_riding_50 rfl (?_ : RR _ _ _ _ 51 _ _ _ _)
      exact R_ireturn dX12_riding_51 trivial hQ
    | succ k ih =>
      intro i hi 
      have hsi := hs i (by omega)
      have hsr : h r (14 + (i : Int)) = mS (h r) i := rfl
      have hpr : r32 (mP (h r) (mS (h r) i)) := nz_i hz hr (by decide) _
      refine R_iload_n dX12_riding_4 rfl (?_ : RR _ _ _ _ 5 _ _ _ _)
      refine R_aload_n dX12_riding_5 rfl (?_ : RR _ _ _ _ 6 _ _ _ _)
      refine R_geti (z := 5) dX12_riding_6 flX12_127 cok_12 rfl (by decide) rfl (fun q6 => (?_ : RR _ _ _ _ 9 _ _ _ _))
      rw [hnp] at q6 ⊢
      refine R_icmp_ge (t := 50) dX12_riding_9 rfl (fun c9 => ?_) (fun c9 => ?_)
      · exfalso; omega
      refine R_iload_n dX12_riding_12 rfl (?_ : RR _ _ _ _ 13 _ _ _ _)
      refine R_aload_n dX12_riding_13 rfl (?_ : RR _ _ _ _ 14 _ _ _ _)
      refine R_bipush dX12_riding_14 rfl (?_ : RR _ _ _ _ 16 _ _ _ _)
      refine R_iload_n dX12_riding_16 rfl (?_ : RR _ _ _ _ 17 _ _ _ _)
      refine R_iadd dX12_riding_17 (?_ : RR _ _ _ _ 18 _ _ _ _)
      refine R_iald dX12_riding_18 (fun q18 => (?_ : RR _ _ _ _ 19 _ _ _ _))
      rw [hsr] at q18 ⊢
      refine R_if_lt (t := 41) dX12_riding_19 rfl (fun c19 => ?_) (fun c19 => ?_)
      · have e := bset_no (P := ridP (h r)) (n := i) (decide_eq_false (by omega))
        refine R_iconst dX12_riding_41 (?_ : RR _ _ _ _ 42 _ _ _ _)
        refine R_ior dX12_riding_42 (?_ : RR _ _ _ _ 43 _ _ _ _)
        first | rw [e] | rw [iOr_0 (bset_31 (by omega)), ← e]
        refine R_istore_n dX12_riding_43 (Nat.le_of_ble_eq_true rfl) (?_ : RR _ _ _ _ 44 [_, _, _, _] _ _ _)
        refine R_iinc dX12_riding_44 rfl (Nat.le_of_ble_eq_true rfl) (?_ : RR _ _ _ _ 47 [_, _, _, _] _ _ _)
        refine R_goto (t := 4) dX12_riding_47 rfl (?_ : RR _ _ _ _ 4 _ _ _ _)
        exact ih (i + 1) (by omega)
      · refine R_aload_n dX12_riding_22 rfl (?_ : RR _ _ _ _ 23 _ _ _ _)
        refine R_aload_n dX12_riding_23 rfl (?_ : RR _ _ _ _ 24 _ _ _ _)
        refine R_bipush dX12_riding_24 rfl (?_ : RR _ _ _ _ 26 _ _ _ _)
        refine R_iload_n dX12_riding_26 rfl (?_ : RR _ _ _ _ 27 _ _ _ _)
        refine R_iadd dX12_riding_27 (?_ : RR _ _ _ _ 28 _ _ _ _)
        refine R_iald dX12_riding_28 (fun q28 => (?_ : RR _ _ _ _ 29 _ _ _ _))
        rw [hsr] at q28 ⊢
        refine R_cSi2 dX12_riding_29 msX12_placeOf mlX12_130 (by decide) (Nat.le_of_ble_eq_true rfl) (Nat.le_of_ble_eq_true rfl) (T_X12_placeOf) (?_ : RR _ _ _ _ 32 _ _ _ _)
        refine R_if_lt (t := 41) dX12_riding_32 rfl (fun c32 => ?_) (fun c32 => ?_)
        · have e := bset_no (P := ridP (h r)) (n := i) (decide_eq_false (by omega))
          refine R_iconst dX12_riding_41 (?_ : RR _ _ _ _ 42 _ _ _ _)
          refine R_ior dX12_riding_42 (?_ : RR _ _ _ _ 43 _ _ _ _)
          first | rw [e] | rw [iOr_0 (bset_31 (by omega)), ← e]
          refine R_istore_n dX12_riding_43 (Nat.le_of_ble_eq_true rfl) (?_ : RR _ _ _ _ 44 [_, _, _, _] _ _ _)
          refine R_iinc dX12_riding_44 rfl (Nat.le_of_ble_eq_true rfl) (?_ : RR _ _ _ _ 47 [_, _, _, _] _ _ _)
          refine R_goto (t := 4) dX12_riding_47 rfl (?_ : RR _ _ _ _ 4 _ _ _ _)
          exact ih (i + 1) (by omega)
        · have e := bset_or (P := ridP (h r)) (n := i) (by omega) (decide_eq_true (by omega))
          refine R_iconst dX12_riding_35 (?_ : RR _ _ _ _ 36 _ _ _ _)
          refine R_iload_n dX12_riding_36 rfl (?_ : RR _ _ _ _ 37 _ _ _ _)
          refine R_ishl dX12_riding_37 (?_ : RR _ _ _ _ 38 _ _ _ _)
          refine R_goto (t := 42) dX12_riding_38 rfl (?_ : RR _ _ _ _ 42 _ _ _ _)
          refine R_ior dX12_riding_42 (?_ : RR _ _ _ _ 43 _ _ _ _)
          first | rw [e] | rw [iOr_0 (bset_31 (by omega)), ← e]
          refine R_istore_n dX12_riding_43 (Nat.le_of_ble_eq_true rfl) (?_ : RR _ _ _ _ 44 [_, _, _, _] _ _ _)
          refine R_iinc dX12_riding_44 rfl (Nat.le_of_ble_eq_true rfl) (?_ : RR _ _ _ _ 47 [_, _, _, _] _ _ _)
          refine R_goto (t := 4) dX12_riding_47 rfl (?_ : RR _ _ _ _ 4 _ _ _ _)
          exact ih (i + 1) (by omega)
  refine R_iconst dX12_riding_0 (?_ : RR _ _ _ _ 1 _ _ _ _)
  refine R_istore_n dX12_riding_1 (Nat.le_of_ble_eq_true rfl) (?_ : RR _ _ _ _ 2 [_, _, _, _] _ _ _)
  refine R_iconst dX12_riding_2 (?_ : RR _ _ _ _ 3 _ _ _ _)
  refine R_istore_n dX12_riding_3 (Nat.le_of_ble_eq_true rfl) (?_ : RR _ _ _ _ 4 [_, _, _, _] _ _ _)
  exact L np 0 (by omega)
theorem T_X12_trainVote {r np : Nat} {sem : Sem} {h : Nat → Int → Int} (hk : mOK h r np) (hm : mrOK h sem) (hnp : h 147 5 = np) (hr : isRw r := by assumption) (hrb : r = 154 ∨ r = 155 := by omega) (h12 : np ≤ 12 := by omega) : RR mX12_trainVote 5 0 0 0 (pm_ent [pR 147, pR r] 2) [] (shp0, rf0, h) (fun r' g' => r' = some (pI (mvS sem h r np (ridP (h r)))) ∧ ∃ h', g' = (shp0, rf0, h') ∧ poP sem h r np (ridP (h r)) h') := by
  suffices hSS : ∀ Q : Option PV → PH → Prop, (∀ h', poP sem h r np (ridP (h r)) h' → Q (some (pI (mvS sem h r np (ridP (h r))))) (shp0, rf0, h')) → RR mX12_trainVote 5 0 0 0 [pR 147, pR r] [] (shp0, rf0, h) Q from hSS _ (fun h' q => ⟨rfl, h', rfl, q⟩)
  intro Q hQ
  obtain ⟨P, hP⟩ : ∃ P, P = ridP (h r) := ⟨_, rfl⟩
  rw [← hP] at hQ
  have K : ∀ h' : Nat → Int → Int, poP sem h r np P h' → RR mX12_trainVote 5 0 0 10 [pR 147, pR r] [] (shp0, rf0, h') Q := by
    intro h' hp
    have e0 := hp.2 0 (by omega)
    have e1 := hp.2 1 (by omega)
    have e2 := hp.2 2 (by omega)
    have b0 := poS_b (P := P) (W := (wiS (h 149) (h 150) (nds (h 151)) (h 152) (mS (h r)) (mP (h r)) (mA (h r)) (h r 0))) (np := np) (j := 0) (fun p => vtS_b (sem := sem) (rank := h 153) (want := h 152) (ds := nds (h 151)) (se := mS (h r)) (pl := mP (h r)) (sd := mA (h r)) (en := h r 0) (nw := h r 1) (np := np) (p := p))
    have b1 := poS_b (P := P) (W := (wiS (h 149) (h 150) (nds (h 151)) (h 152) (mS (h r)) (mP (h r)) (mA (h r)) (h r 0))) (np := np) (j := 1) (fun p => vtS_b (sem := sem) (rank := h 153) (want := h 152) (ds := nds (h 151)) (se := mS (h r)) (pl := mP (h r)) (sd := mA (h r)) (en := h r 0) (nw := h r 1) (np := np) (p := p))
    have b2 := poS_b (P := P) (W := (wiS (h 149) (h 150) (nds (h 151)) (h 152) (mS (h r)) (mP (h r)) (mA (h r)) (h r 0))) (np := np) (j := 2) (fun p => vtS_b (sem := sem) (rank := h 153) (want := h 152) (ds := nds (h 151)) (se := mS (h r)) (pl := mP (h r)) (sd := mA (h r)) (en := h r 0) (nw := h r 1) (np := np) (p := p))
    have hq := hQ h' hp
    unfold mvS at hq
    rw [← e0, ← e1, ← e2] at hq
    refine R_aload_n dX12_trainVote_10 rfl (?_ : RR _ _ _ _ 11 _ _ _ _)
    refine R_cVi0 dX12_trainVote_11 mvX12_polled mlX12_300 (by decide) (by decide) (Nat.le_of_ble_eq_true rfl) (Nat.le_of_ble_eq_true rfl) (T_X12_polled (by omega) (by omega) (by omega)) (?_ : RR _ _ _ _ 14 _ _ _ _)
    exact R_ireturn dX12_trainVote_14 trivial hq
  refine R_aload_n dX12_trainVote_0 rfl (?_ : RR _ _ _ _ 1 _ _ _ _)
  refine R_aload_n dX12_trainVote_1 rfl (?_ : RR _ _ _ _ 2 _ _ _ _)
  refine R_aload_n dX12_trainVote_2 rfl (?_ : RR _ _ _ _ 3 _ _ _ _)
  refine R_aload_n dX12_trainVote_3 rfl (?_ : RR _ _ _ _ 4 _ _ _ _)
  refine R_cVi1 dX12_trainVote_4 mvX12_riding mlX12_303 (by decide) (by decide) (Nat.le_of_ble_eq_true rfl) (Nat.le_of_ble_eq_true rfl) (T_X12_riding hk.2.2.2.1 hnp) (?_ : RR _ _ _ _ 7 _ _ _ _)
  rw [← hP]
  refine R_qV2 dX12_trainVote_7 mvX12_polls mlX12_297 (by decide) (by decide) (Nat.le_of_ble_eq_true rfl) (Nat.le_of_ble_eq_true rfl) (T_X12_polls (sem := sem) (np := np) hk hm hnp (fun p hp hb => by rw [bset_bit, hP] at hb; simp [ridP] at hb; omega) (hSb := bset_4096 h12)) (fun r9 g9 hq9 => (?_ : RR _ _ _ _ 10 _ _ _ _))
  obtain ⟨rfl, sk, th, rfl⟩ := hq9
  show RR _ _ _ _ _ _ [] _ _
  refine K _ ⟨fun a a1 a2 a3 => by rw [rup_n a3, rup_n a2, rup_n a1], fun j hj => ?_⟩
  rw [rup_s]
  unfold plF
  rw [if_pos hj]
  exact poS_bset
/-! coaches that are left -/
def mlF (f : Int → Int) (a : Int) (n : Nat) : Int → Int := fun i => if 2 ≤ i ∧ i < 2 + 2 * n ∧ a ≤ mP f ((i - 2) / 2) then (if (i - 2) % 2 = 0 then f 0 else -1) else f i
theorem mlF_0 {f : Int → Int} {a : Int} : mlF f a 0 = f := by
  funext i
  unfold mlF
  rw [if_neg (by omega)]
theorem mlF_no {f : Int → Int} {a : Int} {n : Nat} (h : mP f n < a) : mlF f a (n + 1) = mlF f a n := by
  funext i
  unfold mlF
  by_cases hi : (i - 2) / 2 = n
  · rw [hi, if_neg (by omega), if_neg (by omega)]
  · by_cases h2 : 2 ≤ i ∧ i < 2 + 2 * n
    · simp only [h2.1, h2.2, show i < 2 + 2 * ((n + 1 : Nat) : Int) by omega, true_and]
    · rw [if_neg (by omega), if_neg (by omega)]
theorem mlF_yes {f : Int → Int} {a : Int} {n : Nat} (h : a ≤ mP f n) : fup (fup (mlF f a n) (2 + 2 * n + 0) (f 0)) (2 + 2 * n + 1) (-1) = mlF f a (n + 1) := by
  funext i
  unfold fup
  by_cases h1 : i = 2 + 2 * n + 1
  · rw [if_pos h1]
    unfold mlF
    rw [show (i - 2) / 2 = n by omega, if_pos (by omega), if_neg (by omega)]
  · rw [if_neg h1]
    by_cases h3 : i = 2 + 2 * n + 0
    · rw [if_pos h3]
      unfold mlF
      rw [show (i - 2) / 2 = n by omega, if_pos (by omega), if_pos (by omega)]
    · rw [if_neg h3]
      unfold mlF
      by_cases h2 : 2 ≤ i ∧ i < 2 + 2 * n
      · simp only [h2.1, h2.2, show i < 2 + 2 * ((n + 1 : Nat) : Int) by omega, true_and]
      · rw [if_neg (by omega), if_neg (by omega)]
theorem mlF_P {f : Int → Int} {a : Int} {n : Nat} : mP (mlF f a n) n = mP f n := by
  unfold mP mlF
  rw [if_neg (by omega)]
theorem mlF_z {f : Int → Int} {a : Int} {n : Nat} : mlF f a n 0 = f 0 := by
  unfold mlF
  rw [if_neg (by omega)]
theorem or_bset {P : Nat → Bool} {L n : Nat} (hL : L < 64) (hn : n < 6) (h : P n = true) : iOr ((L ||| bset P n : Nat) : Int) (iShl 1 (n : Int)) = ((L ||| bset P (n + 1) : Nat) : Int) := by
  have h1 : bset P n < 64 := Nat.lt_of_lt_of_le (bset_lt P n) (show 2 ^ n ≤ 2 ^ 6 from Nat.pow_le_pow_right (by omega) (by omega))
  have h2 : 2 ^ n < 64 := show 2 ^ n < 2 ^ 6 from Nat.pow_lt_pow_right (by omega) hn
  have h3 : L ||| bset P n < 64 := Nat.or_lt_two_pow (n := 6) hL h1
  rw [iShl_one n (by omega), iOr_nat (by omega) (by omega), bset, if_pos h, Nat.or_assoc]
theorem or_64 {P : Nat → Bool} {L n : Nat} (hL : L < 64) (hn : n ≤ 6) : L ||| bset P n < 64 := Nat.or_lt_two_pow (n := 6) hL (Nat.lt_of_lt_of_le (bset_lt P n) (show 2 ^ n ≤ 2 ^ 6 from Nat.pow_le_pow_right (by omega) hn))
def lefP (f : Int → Int) (a : Int) (c : Nat) : Bool := decide (a ≤ mP f c)
theorem T_X12_leavesFrom {r nc L : Nat} {a : Int} {h : Nat → Int → Int} (hnc : h 147 4 = nc) (hL : h 147 30 = L) (hL64 : L < 64) (hr : isRw r := by assumption) (hrb : r = 154 ∨ r = 155 := by omega) (h6 : nc ≤ 6 := by omega) (ha : r32 a := by omega) : MT mX12_leavesFrom 1 [pR 147, pR r, pI a] h none (rup (rup h 147 (fup (h 147) 30 ((L ||| bset (lefP (h r) a) nc : Nat) : Int))) r (mlF (h r) a nc)) := by
  refine MT.of (fun Q hQ => (?_ : RR mX12_leavesFrom _ _ _ _ [pR 147, pR r, pI a, pU] _ _ _))
  refine R_nzf (fun hz => ?_)
  have LL : ∀ k i : Nat, i + k = nc → RR mX12_leavesFrom 1 0 0 2 [pR 147, pR r, pI a, pI i] [] (shp0, rf0, rup (rup h 147 (fup (h 147) 30 ((L ||| bset (lefP (h r) a) i : Nat) : Int))) r (mlF (h r) a i)) Q := by
    intro k
    induction k with
    | zero =>
      intro i hi 
      obtain rfl : i = nc := by omega
      refine R_iload_n dX12_leavesFrom_2 rfl (?_ : RR _ _ _ _ 3 _ _ _ _)
      refine R_aload_n dX12_leavesFrom_3 rfl (?_ : RR _ _ _ _ 4 _ _ _ _)
      refine R_geti (z := 4) dX12_leavesFrom_4 flX12_124 cok_12 rfl (by decide) rfl (fun q4 => (?_ : RR _ _ _ _ 7 _ _ _ _))
      try simp (disch := omega) only [rup_rup, rup_sort, rupS_def, rup_s, rup_n, fup_fup, fup_s, fup_n] at q4 ⊢
      rw [hnc] at q4 ⊢
      refine R_icmp_ge (t := 59) dX12_leavesFrom_7 rfl (fun c7 => ?_) (fun c7 => ?_)
      rotate_left
      · exfalso; omega
      exact R_return dX12_leavesFrom_59 trivial hQ
    | succ k ih =>
      intro i hi 
      have hpi : r32 (mP (h r) i) := nz_i hz hr (by decide) _
      have h64 := or_64 (P := lefP (h r) a) (L := L) (n := i) hL64 (by omega)
      have h65 := or_64 (P := lefP (h r) a) (L := L) (n := i + 1) hL64 (by omega)
      refine R_iload_n dX12_leavesFrom_2 rfl (?_ : RR _ _ _ _ 3 _ _ _ _)
      refine R_aload_n dX12_leavesFrom_3 rfl (?_ : RR _ _ _ _ 4 _ _ _ _)
      refine R_geti (z := 4) dX12_leavesFrom_4 flX12_124 cok_12 rfl (by decide) rfl (fun q4 => (?_ : RR _ _ _ _ 7 _ _ _ _))
      try simp (disch := omega) only [rup_rup, rup_sort, rupS_def, rup_s, rup_n, fup_fup, fup_s, fup_n] at q4 ⊢
      rw [hnc] at q4 ⊢
      refine R_icmp_ge (t := 59) dX12_leavesFrom_7 rfl (fun c7 => ?_) (fun c7 => ?_)
      · exfalso; omega
      refine R_aload_n dX12_leavesFrom_10 rfl (?_ : RR _ _ _ _ 11 _ _ _ _)
      refine R_iload_n dX12_leavesFrom_11 rfl (?_ : RR _ _ _ _ 12 _ _ _ _)
      refine R_cSi2 dX12_leavesFrom_12 msX12_placeOf mlX12_130 (by decide) (Nat.le_of_ble_eq_true rfl) (Nat.le_of_ble_eq_true rfl) (T_X12_placeOf) (?_ : RR _ _ _ _ 15 _ _ _ _)
      try simp (disch := omega) only [rup_rup, rup_sort, rupS_def, rup_s, rup_n, fup_fup, fup_s, fup_n]
      rw [mlF_P]
      refine R_iload_n dX12_leavesFrom_15 rfl (?_ : RR _ _ _ _ 16 _ _ _ _)
      refine R_icmp_lt (t := 53) dX12_leavesFrom_16 rfl (fun c16 => ?_) (fun c16 => ?_)
      · rw [← mlF_no (by omega), ← bset_no (P := lefP (h r) a) (n := i) (decide_eq_false (by omega))]
        refine R_iinc dX12_leavesFrom_53 rfl (Nat.le_of_ble_eq_true rfl) (?_ : RR _ _ _ _ 56 [_, _, _, _] _ _ _)
        refine R_goto (t := 2) dX12_leavesFrom_56 rfl (?_ : RR _ _ _ _ 2 _ _ _ _)
        exact ih (i + 1) (by omega)
      · refine R_aload_n dX12_leavesFrom_19 rfl (?_ : RR _ _ _ _ 20 _ _ _ _)
        refine R_dup dX12_leavesFrom_20 (fun _ => rfl) (?_ : RR _ _ _ _ 21 _ _ _ _)
        refine R_geti (z := 30) dX12_leavesFrom_21 flX12_335 cok_12 rfl (by decide) rfl (fun q21 => (?_ : RR _ _ _ _ 24 _ _ _ _))
        try simp (disch := omega) only [rup_rup, rup_sort, rupS_def, rup_s, rup_n, fup_fup, fup_s, fup_n] at q21 ⊢
        refine R_iconst dX12_leavesFrom_24 (?_ : RR _ _ _ _ 25 _ _ _ _)
        refine R_iload_n dX12_leavesFrom_25 rfl (?_ : RR _ _ _ _ 26 _ _ _ _)
        refine R_ishl dX12_leavesFrom_26 (?_ : RR _ _ _ _ 27 _ _ _ _)
        refine R_ior dX12_leavesFrom_27 (?_ : RR _ _ _ _ 28 _ _ _ _)
        rw [or_bset hL64 (by omega) (decide_eq_true (by omega))]
        refine R_puti (zk := 30) dX12_leavesFrom_28 flX12_335 cok_12 (by decide) (fun q hq => by cases hq; rfl) rfl (?_ : RR _ _ _ _ 31 _ _ _ _)
        try simp (disch := omega) only [rup_rup, rup_sort, rupS_def, rup_s, rup_n, fup_fup, fup_s, fup_n]
        refine R_aload_n dX12_leavesFrom_31 rfl (?_ : RR _ _ _ _ 32 _ _ _ _)
        refine R_iconst dX12_leavesFrom_32 (?_ : RR _ _ _ _ 33 _ _ _ _)
        refine R_iconst dX12_leavesFrom_33 (?_ : RR _ _ _ _ 34 _ _ _ _)
        refine R_iload_n dX12_leavesFrom_34 rfl (?_ : RR _ _ _ _ 35 _ _ _ _)
        refine R_imul dX12_leavesFrom_35 (?_ : RR _ _ _ _ 36 _ _ _ _)
        refine R_iadd dX12_leavesFrom_36 (?_ : RR _ _ _ _ 37 _ _ _ _)
        refine R_iconst dX12_leavesFrom_37 (?_ : RR _ _ _ _ 38 _ _ _ _)
        refine R_iadd dX12_leavesFrom_38 (?_ : RR _ _ _ _ 39 _ _ _ _)
        refine R_aload_n dX12_leavesFrom_39 rfl (?_ : RR _ _ _ _ 40 _ _ _ _)
        refine R_iconst dX12_leavesFrom_40 (?_ : RR _ _ _ _ 41 _ _ _ _)
        refine R_iald dX12_leavesFrom_41 (fun q41 => (?_ : RR _ _ _ _ 42 _ _ _ _))
        try simp (disch := omega) only [rup_rup, rup_sort, rupS_def, rup_s, rup_n, fup_fup, fup_s, fup_n] at q41 ⊢
        rw [mlF_z] at q41 ⊢
        refine R_iast dX12_leavesFrom_42 (?_ : RR _ _ _ _ 43 _ _ _ _)
        try simp (disch := omega) only [rup_rup, rup_sort, rupS_def, rup_s, rup_n, fup_fup, fup_s, fup_n]
        refine R_aload_n dX12_leavesFrom_43 rfl (?_ : RR _ _ _ _ 44 _ _ _ _)
        refine R_iconst dX12_leavesFrom_44 (?_ : RR _ _ _ _ 45 _ _ _ _)
        refine R_iconst dX12_leavesFrom_45 (?_ : RR _ _ _ _ 46 _ _ _ _)
        refine R_iload_n dX12_leavesFrom_46 rfl (?_ : RR _ _ _ _ 47 _ _ _ _)
        refine R_imul dX12_leavesFrom_47 (?_ : RR _ _ _ _ 48 _ _ _ _)
        refine R_iadd dX12_leavesFrom_48 (?_ : RR _ _ _ _ 49 _ _ _ _)
        refine R_iconst dX12_leavesFrom_49 (?_ : RR _ _ _ _ 50 _ _ _ _)
        refine R_iadd dX12_leavesFrom_50 (?_ : RR _ _ _ _ 51 _ _ _ _)
        refine R_iconst dX12_leavesFrom_51 (?_ : RR _ _ _ _ 52 _ _ _ _)
        refine R_iast dX12_leavesFrom_52 (?_ : RR _ _ _ _ 53 _ _ _ _)
        try simp (disch := omega) only [rup_rup, rup_sort, rupS_def, rup_s, rup_n, fup_fup, fup_s, fup_n]
        rw [mlF_yes (by omega)]
        refine R_iinc dX12_leavesFrom_53 rfl (Nat.le_of_ble_eq_true rfl) (?_ : RR _ _ _ _ 56 [_, _, _, _] _ _ _)
        refine R_goto (t := 2) dX12_leavesFrom_56 rfl (?_ : RR _ _ _ _ 2 _ _ _ _)
        exact ih (i + 1) (by omega)
  refine R_iconst dX12_leavesFrom_0 (?_ : RR _ _ _ _ 1 _ _ _ _)
  refine R_istore_n dX12_leavesFrom_1 (Nat.le_of_ble_eq_true rfl) (?_ : RR _ _ _ _ 2 [_, _, _, _] _ _ _)
  have L0 := LL nc 0 (by omega)
  rw [mlF_0, show ((L ||| bset (lefP (h r) a) 0 : Nat) : Int) = h 147 30 by rw [hL]; simp [bset], fup_self, rup_self, rup_self] at L0
  exact L0
/-! passengers who get out -/
def mhF (f : Int → Int) (c : Int) : Int := if 0 ≤ mP f c then f 0 else mA f c
def moF (want f : Int → Int) (n : Nat) : Int → Int := fun i => if 14 ≤ i ∧ i < 14 + n ∧ 0 ≤ f i ∧ mhF f (f i) = want (i - 14) then -1 else f i
theorem moF_0 {want f : Int → Int} : moF want f 0 = f := by
  funext i
  unfold moF
  rw [if_neg (by omega)]
theorem moF_s {want f : Int → Int} {n : Nat} {z : Int} (hz : z = if 0 ≤ mS f n ∧ mhF f (mS f n) = want n then -1 else mS f n) : fup (moF want f n) (14 + n) z = moF want f (n + 1) := by
  subst hz
  funext i
  unfold fup
  by_cases h1 : i = 14 + n
  · subst h1
    rw [if_pos rfl]
    unfold moF mS
    rw [show (14 + (n : Int)) - 14 = n by omega]
    by_cases h2 : 0 ≤ f (14 + n) ∧ mhF f (f (14 + n)) = want n
    · rw [if_pos h2, if_pos ⟨by omega, by omega, h2⟩]
    · rw [if_neg h2, if_neg (fun q => h2 q.2.2)]
  · rw [if_neg h1]
    unfold moF
    by_cases h2 : 14 ≤ i ∧ i < 14 + n
    · simp only [h2.1, h2.2, show i < 14 + ((n + 1 : Nat) : Int) by omega, true_and]
    · rw [if_neg (by omega), if_neg (by omega)]
theorem moF_lo {want f : Int → Int} {n : Nat} {i : Int} (h : i < 14) : moF want f n i = f i := by
  unfold moF
  rw [if_neg (by omega)]
theorem moF_at {want f : Int → Int} {n : Nat} : moF want f n (14 + n) = mS f n := by
  unfold moF
  rw [if_neg (by omega)]
  rfl
theorem T_X12_getOut {r np : Nat} {h : Nat → Int → Int} (hnp : h 147 5 = np) (hs : ∀ j : Nat, j < np → mS (h r) j = -1 ∨ (0 ≤ mS (h r) j ∧ mS (h r) j < 6)) (hr : isRw r := by assumption) (hrb : r = 154 ∨ r = 155 := by omega) (h12 : np ≤ 12 := by omega) : MT mX12_getOut 2 [pR 147, pR r] h none (rup h r (moF (h 152) (h r) np)) := by
  refine MT.of (fun Q hQ => (?_ : RR mX12_getOut _ _ _ _ [pR 147, pR r, pU, pU] _ _ _))
  refine R_nzf (fun hz => ?_)
  have L : ∀ (k i : Nat) (w : PV), i + k = np → RR mX12_getOut 2 0 0 2 [pR 147, pR r, pI i, w] [] (shp0, rf0, rup h r (moF (h 152) (h r) i)) Q := by
    intro k
    induction k with
    | zero =>
      intro i w hi
      obtain rfl : i = np := by omega
      refine R_iload_n dX12_getOut_2 rfl (?_ : RR _ _ _ _ 3 _ _ _ _)
      refine R_aload_n dX12_getOut_3 rfl (?_ : RR _ _ _ _ 4 _ _ _ _)
      refine R_geti (z := 5) dX12_getOut_4 flX12_127 cok_12 rfl (by decide) rfl (fun q4 => (?_ : RR _ _ _ _ 7 _ _ _ _))
      try simp (disch := omega) only [rup_rup, rup_sort, rupS_def, rup_s, rup_n, fup_fup, fup_s, fup_n] at q4 ⊢
      rw [hnp] at q4 ⊢
      refine R_icmp_ge (t := 70) dX12_getOut_7 rfl (fun c7 => ?_) (fun c7 => ?_)
      rotate_left
      · exfalso; omega
      exact R_return dX12_getOut_70 trivial hQ
    | succ k ih =>
      intro i w hi
      have hsi := hs i (by omega)
      have hmh : ∀ c : Int, 0 ≤ c ∧ c < 6 → (if 0 ≤ mP (moF (h 152) (h r) i) c then moF (h 152) (h r) i 0 else mA (moF (h 152) (h r) i) c) = mhF (h r) c := by
        intro c hc
        unfold mhF mP mA
        rw [moF_lo (by omega), moF_lo (by omega), moF_lo (by omega)]
      have hmr : r32 (mhF (h r) (mS (h r) i)) := by
        unfold mhF
        split
        · exact nz_i hz hr (by decide) _
        · exact nz_i hz hr (by decide) _
      refine R_iload_n dX12_getOut_2 rfl (?_ : RR _ _ _ _ 3 _ _ _ _)
      refine R_aload_n dX12_getOut_3 rfl (?_ : RR _ _ _ _ 4 _ _ _ _)
      refine R_geti (z := 5) dX12_getOut_4 flX12_127 cok_12 rfl (by decide) rfl (fun q4 => (?_ : RR _ _ _ _ 7 _ _ _ _))
      try simp (disch := omega) only [rup_rup, rup_sort, rupS_def, rup_s, rup_n, fup_fup, fup_s, fup_n] at q4 ⊢
      rw [hnp] at q4 ⊢
      refine R_icmp_ge (t := 70) dX12_getOut_7 rfl (fun c7 => ?_) (fun c7 => ?_)
      · exfalso; omega
      refine R_aload_n dX12_getOut_10 rfl (?_ : RR _ _ _ _ 11 _ _ _ _)
      refine R_bipush dX12_getOut_11 rfl (?_ : RR _ _ _ _ 13 _ _ _ _)
      refine R_iload_n dX12_getOut_13 rfl (?_ : RR _ _ _ _ 14 _ _ _ _)
      refine R_iadd dX12_getOut_14 (?_ : RR _ _ _ _ 15 _ _ _ _)
      refine R_iald dX12_getOut_15 (fun q15 => (?_ : RR _ _ _ _ 16 _ _ _ _))
      try simp (disch := omega) only [rup_rup, rup_sort, rupS_def, rup_s, rup_n, fup_fup, fup_s, fup_n] at q15 ⊢
      rw [moF_at] at q15 ⊢
      refine R_if_lt (t := 42) dX12_getOut_16 rfl (fun c16 => ?_) (fun c16 => ?_)
      · refine R_iconst dX12_getOut_42 (?_ : RR _ _ _ _ 43 _ _ _ _)
        refine R_istore_n dX12_getOut_43 (Nat.le_of_ble_eq_true rfl) (?_ : RR _ _ _ _ 44 [_, _, _, _] _ _ _)
        refine R_aload_n dX12_getOut_44 rfl (?_ : RR _ _ _ _ 45 _ _ _ _)
        refine R_bipush dX12_getOut_45 rfl (?_ : RR _ _ _ _ 47 _ _ _ _)
        refine R_iload_n dX12_getOut_47 rfl (?_ : RR _ _ _ _ 48 _ _ _ _)
        refine R_iadd dX12_getOut_48 (?_ : RR _ _ _ _ 49 _ _ _ _)
        refine R_iload_n dX12_getOut_49 rfl (?_ : RR _ _ _ _ 50 _ _ _ _)
        refine R_if_eq (t := 57) dX12_getOut_50 rfl (fun c50 => ?_) (fun c50 => ?_)
        · first
          | (exfalso; omega)
          | (refine R_aload_n dX12_getOut_57 rfl (?_ : RR _ _ _ _ 58 _ _ _ _)
             refine R_bipush dX12_getOut_58 rfl (?_ : RR _ _ _ _ 60 _ _ _ _)
             refine R_iload_n dX12_getOut_60 rfl (?_ : RR _ _ _ _ 61 _ _ _ _)
             refine R_iadd dX12_getOut_61 (?_ : RR _ _ _ _ 62 _ _ _ _)
             refine R_iald dX12_getOut_62 (fun q62 => (?_ : RR _ _ _ _ 63 _ _ _ _))
             try simp (disch := omega) only [rup_rup, rup_sort, rupS_def, rup_s, rup_n, fup_fup, fup_s, fup_n] at q62 ⊢
             rw [moF_at] at q62 ⊢
             refine R_iast dX12_getOut_63 (?_ : RR _ _ _ _ 64 _ _ _ _)
             try simp (disch := omega) only [rup_rup, rup_sort, rupS_def, rup_s, rup_n, fup_fup, fup_s, fup_n]
             rw [moF_s (by first | rw [if_pos (by omega)] | rw [if_neg (by omega)])]
             refine R_iinc dX12_getOut_64 rfl (Nat.le_of_ble_eq_true rfl) (?_ : RR _ _ _ _ 67 [_, _, _, _] _ _ _)
             refine R_goto (t := 2) dX12_getOut_67 rfl (?_ : RR _ _ _ _ 2 _ _ _ _)
             exact ih (i + 1) _ (by omega))
        · first
          | (exfalso; omega)
          | (refine R_iconst dX12_getOut_53 (?_ : RR _ _ _ _ 54 _ _ _ _)
             refine R_goto (t := 63) dX12_getOut_54 rfl (?_ : RR _ _ _ _ 63 _ _ _ _)
             refine R_iast dX12_getOut_63 (?_ : RR _ _ _ _ 64 _ _ _ _)
             try simp (disch := omega) only [rup_rup, rup_sort, rupS_def, rup_s, rup_n, fup_fup, fup_s, fup_n]
             rw [moF_s (by first | rw [if_pos (by omega)] | rw [if_neg (by omega)])]
             refine R_iinc dX12_getOut_64 rfl (Nat.le_of_ble_eq_true rfl) (?_ : RR _ _ _ _ 67 [_, _, _, _] _ _ _)
             refine R_goto (t := 2) dX12_getOut_67 rfl (?_ : RR _ _ _ _ 2 _ _ _ _)
             exact ih (i + 1) _ (by omega))
      · refine R_aload_n dX12_getOut_19 rfl (?_ : RR _ _ _ _ 20 _ _ _ _)
        refine R_aload_n dX12_getOut_20 rfl (?_ : RR _ _ _ _ 21 _ _ _ _)
        refine R_bipush dX12_getOut_21 rfl (?_ : RR _ _ _ _ 23 _ _ _ _)
        refine R_iload_n dX12_getOut_23 rfl (?_ : RR _ _ _ _ 24 _ _ _ _)
        refine R_iadd dX12_getOut_24 (?_ : RR _ _ _ _ 25 _ _ _ _)
        refine R_iald dX12_getOut_25 (fun q25 => (?_ : RR _ _ _ _ 26 _ _ _ _))
        try simp (disch := omega) only [rup_rup, rup_sort, rupS_def, rup_s, rup_n, fup_fup, fup_s, fup_n] at q25 ⊢
        rw [moF_at] at q25 ⊢
        refine R_cSi2 dX12_getOut_26 msX12_haltOf mlX12_227 (by decide) (Nat.le_of_ble_eq_true rfl) (Nat.le_of_ble_eq_true rfl) (T_X12_haltOf) (?_ : RR _ _ _ _ 29 _ _ _ _)
        try simp (disch := omega) only [rup_rup, rup_sort, rupS_def, rup_s, rup_n, fup_fup, fup_s, fup_n]
        rw [hmh _ (by omega)]
        refine R_aload_n dX12_getOut_29 rfl (?_ : RR _ _ _ _ 30 _ _ _ _)
        refine R_getr dX12_getOut_30 flX12_27 cok_12 rfl (by decide) (?_ : RR _ _ _ _ 33 _ _ _ _)
        refine R_iload_n dX12_getOut_33 rfl (?_ : RR _ _ _ _ 34 _ _ _ _)
        refine R_iald dX12_getOut_34 (fun q34 => (?_ : RR _ _ _ _ 35 _ _ _ _))
        try simp (disch := omega) only [rup_rup, rup_sort, rupS_def, rup_s, rup_n, fup_fup, fup_s, fup_n] at q34 ⊢
        refine R_icmp_ne (t := 42) dX12_getOut_35 rfl (fun c35 => ?_) (fun c35 => ?_)
        · refine R_iconst dX12_getOut_42 (?_ : RR _ _ _ _ 43 _ _ _ _)
          refine R_istore_n dX12_getOut_43 (Nat.le_of_ble_eq_true rfl) (?_ : RR _ _ _ _ 44 [_, _, _, _] _ _ _)
          refine R_aload_n dX12_getOut_44 rfl (?_ : RR _ _ _ _ 45 _ _ _ _)
          refine R_bipush dX12_getOut_45 rfl (?_ : RR _ _ _ _ 47 _ _ _ _)
          refine R_iload_n dX12_getOut_47 rfl (?_ : RR _ _ _ _ 48 _ _ _ _)
          refine R_iadd dX12_getOut_48 (?_ : RR _ _ _ _ 49 _ _ _ _)
          refine R_iload_n dX12_getOut_49 rfl (?_ : RR _ _ _ _ 50 _ _ _ _)
          refine R_if_eq (t := 57) dX12_getOut_50 rfl (fun c50 => ?_) (fun c50 => ?_)
          · first
            | (exfalso; omega)
            | (refine R_aload_n dX12_getOut_57 rfl (?_ : RR _ _ _ _ 58 _ _ _ _)
               refine R_bipush dX12_getOut_58 rfl (?_ : RR _ _ _ _ 60 _ _ _ _)
               refine R_iload_n dX12_getOut_60 rfl (?_ : RR _ _ _ _ 61 _ _ _ _)
               refine R_iadd dX12_getOut_61 (?_ : RR _ _ _ _ 62 _ _ _ _)
               refine R_iald dX12_getOut_62 (fun q62 => (?_ : RR _ _ _ _ 63 _ _ _ _))
               try simp (disch := omega) only [rup_rup, rup_sort, rupS_def, rup_s, rup_n, fup_fup, fup_s, fup_n] at q62 ⊢
               rw [moF_at] at q62 ⊢
               refine R_iast dX12_getOut_63 (?_ : RR _ _ _ _ 64 _ _ _ _)
               try simp (disch := omega) only [rup_rup, rup_sort, rupS_def, rup_s, rup_n, fup_fup, fup_s, fup_n]
               rw [moF_s (by first | rw [if_pos (by omega)] | rw [if_neg (by omega)])]
               refine R_iinc dX12_getOut_64 rfl (Nat.le_of_ble_eq_true rfl) (?_ : RR _ _ _ _ 67 [_, _, _, _] _ _ _)
               refine R_goto (t := 2) dX12_getOut_67 rfl (?_ : RR _ _ _ _ 2 _ _ _ _)
               exact ih (i + 1) _ (by omega))
          · first
            | (exfalso; omega)
            | (refine R_iconst dX12_getOut_53 (?_ : RR _ _ _ _ 54 _ _ _ _)
               refine R_goto (t := 63) dX12_getOut_54 rfl (?_ : RR _ _ _ _ 63 _ _ _ _)
               refine R_iast dX12_getOut_63 (?_ : RR _ _ _ _ 64 _ _ _ _)
               try simp (disch := omega) only [rup_rup, rup_sort, rupS_def, rup_s, rup_n, fup_fup, fup_s, fup_n]
               rw [moF_s (by first | rw [if_pos (by omega)] | rw [if_neg (by omega)])]
               refine R_iinc dX12_getOut_64 rfl (Nat.le_of_ble_eq_true rfl) (?_ : RR _ _ _ _ 67 [_, _, _, _] _ _ _)
               refine R_goto (t := 2) dX12_getOut_67 rfl (?_ : RR _ _ _ _ 2 _ _ _ _)
               exact ih (i + 1) _ (by omega))
        · refine R_iconst dX12_getOut_38 (?_ : RR _ _ _ _ 39 _ _ _ _)
          refine R_goto (t := 43) dX12_getOut_39 rfl (?_ : RR _ _ _ _ 43 _ _ _ _)
          refine R_istore_n dX12_getOut_43 (Nat.le_of_ble_eq_true rfl) (?_ : RR _ _ _ _ 44 [_, _, _, _] _ _ _)
          refine R_aload_n dX12_getOut_44 rfl (?_ : RR _ _ _ _ 45 _ _ _ _)
          refine R_bipush dX12_getOut_45 rfl (?_ : RR _ _ _ _ 47 _ _ _ _)
          refine R_iload_n dX12_getOut_47 rfl (?_ : RR _ _ _ _ 48 _ _ _ _)
          refine R_iadd dX12_getOut_48 (?_ : RR _ _ _ _ 49 _ _ _ _)
          refine R_iload_n dX12_getOut_49 rfl (?_ : RR _ _ _ _ 50 _ _ _ _)
          refine R_if_eq (t := 57) dX12_getOut_50 rfl (fun c50 => ?_) (fun c50 => ?_)
          · first
            | (exfalso; omega)
            | (refine R_aload_n dX12_getOut_57 rfl (?_ : RR _ _ _ _ 58 _ _ _ _)
               refine R_bipush dX12_getOut_58 rfl (?_ : RR _ _ _ _ 60 _ _ _ _)
               refine R_iload_n dX12_getOut_60 rfl (?_ : RR _ _ _ _ 61 _ _ _ _)
               refine R_iadd dX12_getOut_61 (?_ : RR _ _ _ _ 62 _ _ _ _)
               refine R_iald dX12_getOut_62 (fun q62 => (?_ : RR _ _ _ _ 63 _ _ _ _))
               try simp (disch := omega) only [rup_rup, rup_sort, rupS_def, rup_s, rup_n, fup_fup, fup_s, fup_n] at q62 ⊢
               rw [moF_at] at q62 ⊢
               refine R_iast dX12_getOut_63 (?_ : RR _ _ _ _ 64 _ _ _ _)
               try simp (disch := omega) only [rup_rup, rup_sort, rupS_def, rup_s, rup_n, fup_fup, fup_s, fup_n]
               rw [moF_s (by first | rw [if_pos (by omega)] | rw [if_neg (by omega)])]
               refine R_iinc dX12_getOut_64 rfl (Nat.le_of_ble_eq_true rfl) (?_ : RR _ _ _ _ 67 [_, _, _, _] _ _ _)
               refine R_goto (t := 2) dX12_getOut_67 rfl (?_ : RR _ _ _ _ 2 _ _ _ _)
               exact ih (i + 1) _ (by omega))
          · first
            | (exfalso; omega)
            | (refine R_iconst dX12_getOut_53 (?_ : RR _ _ _ _ 54 _ _ _ _)
               refine R_goto (t := 63) dX12_getOut_54 rfl (?_ : RR _ _ _ _ 63 _ _ _ _)
               refine R_iast dX12_getOut_63 (?_ : RR _ _ _ _ 64 _ _ _ _)
               try simp (disch := omega) only [rup_rup, rup_sort, rupS_def, rup_s, rup_n, fup_fup, fup_s, fup_n]
               rw [moF_s (by first | rw [if_pos (by omega)] | rw [if_neg (by omega)])]
               refine R_iinc dX12_getOut_64 rfl (Nat.le_of_ble_eq_true rfl) (?_ : RR _ _ _ _ 67 [_, _, _, _] _ _ _)
               refine R_goto (t := 2) dX12_getOut_67 rfl (?_ : RR _ _ _ _ 2 _ _ _ _)
               exact ih (i + 1) _ (by omega))
  refine R_iconst dX12_getOut_0 (?_ : RR _ _ _ _ 1 _ _ _ _)
  refine R_istore_n dX12_getOut_1 (Nat.le_of_ble_eq_true rfl) (?_ : RR _ _ _ _ 2 [_, _, _, _] _ _ _)
  have L0 := L np 0 pU (by omega)
  rw [moF_0, rup_self] at L0
  exact L0
