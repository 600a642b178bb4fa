theorem T_X12_isCourse {c en : Int} {h : Nat → Int → Int} (hc : 0 ≤ c ∧ c ≤ 2 := by omega) (he : 0 ≤ en ∧ en < 9 := by omega) : MT mX12_isCourse 0 [pI c, pR 149, pI en] h (some (pI (if c ≠ 2 ∧ 0 ≤ h 149 (2 * en + c) then 1 else 0))) h := by
  refine MT.of (fun Q hQ => (?_ : RR mX12_isCourse _ _ _ _ [pI c, pR 149, pI en] _ _ _))
  refine R_iload_n dX12_isCourse_0 rfl (?_ : RR _ _ _ _ 1 _ _ _ _)
  refine R_iconst dX12_isCourse_1 (?_ : RR _ _ _ _ 2 _ _ _ _)
  refine R_icmp_eq (t := 19) dX12_isCourse_2 rfl (fun c2 => ?_) (fun c2 => ?_)
  · refine R_iconst dX12_isCourse_19 (?_ : RR _ _ _ _ 20 _ _ _ _)
    exact R_ireturn dX12_isCourse_20 (by first | exact Or.inl rfl | exact Or.inr rfl | exact ok_ite | omega) (by first | rwa [if_pos (by omega)] at hQ | rwa [if_neg (by omega)] at hQ)
  · refine R_aload_n dX12_isCourse_5 rfl (?_ : RR _ _ _ _ 6 _ _ _ _)
    refine R_iconst dX12_isCourse_6 (?_ : RR _ _ _ _ 7 _ _ _ _)
    refine R_iload_n dX12_isCourse_7 rfl (?_ : RR _ _ _ _ 8 _ _ _ _)
    refine R_imul dX12_isCourse_8 (?_ : RR _ _ _ _ 9 _ _ _ _)
    refine R_iload_n dX12_isCourse_9 rfl (?_ : RR _ _ _ _ 10 _ _ _ _)
    refine R_iadd dX12_isCourse_10 (?_ : RR _ _ _ _ 11 _ _ _ _)
    refine R_iald dX12_isCourse_11 (fun q11 => (?_ : RR _ _ _ _ 12 _ _ _ _))
    refine R_if_lt (t := 19) dX12_isCourse_12 rfl (fun c12 => ?_) (fun c12 => ?_)
    · refine R_iconst dX12_isCourse_19 (?_ : RR _ _ _ _ 20 _ _ _ _)
      exact R_ireturn dX12_isCourse_20 (by first | exact Or.inl rfl | exact Or.inr rfl | exact ok_ite | omega) (by first | rwa [if_pos (by omega)] at hQ | rwa [if_neg (by omega)] at hQ)
    · refine R_iconst dX12_isCourse_15 (?_ : RR _ _ _ _ 16 _ _ _ _)
      refine R_goto (t := 20) dX12_isCourse_16 rfl (?_ : RR _ _ _ _ 20 _ _ _ _)
      exact R_ireturn dX12_isCourse_20 (by first | exact Or.inl rfl | exact Or.inr rfl | exact ok_ite | omega) (by first | rwa [if_pos (by omega)] at hQ | rwa [if_neg (by omega)] at hQ)
theorem T_X12_goesBy {r np : Nat} {x : Int} {h : Nat → Int → Int} (hnp : h 147 5 = np) (hs : ∀ j : Nat, j < np → mS (h r) j = -1 ∨ (0 ≤ mS (h r) j ∧ mS (h r) j < 6)) (hn : r32 (h r 1 + h 150 (2 * h r 0 + x))) (hr : isRw r := by assumption) (hrb : r = 154 ∨ r = 155 := by omega) (h12 : np ≤ 12 := by omega) (hx : 0 ≤ x ∧ x < 2 := by omega) (hen : 0 ≤ h r 0 ∧ h r 0 < 9 := by omega) : MT mX12_goesBy 3 [pR 147, pR r, pI x] h none (rup h r (moF (h 152) (fup (fup (h r) 1 (h r 1 + h 150 (2 * h r 0 + x))) 0 (h 149 (2 * h r 0 + x))) np)) := by
  refine MT.of (fun Q hQ => (?_ : RR mX12_goesBy _ _ _ _ [pR 147, pR r, pI x, pU] _ _ _))
  refine R_iconst dX12_goesBy_0 (?_ : RR _ _ _ _ 1 _ _ _ _)
  refine R_aload_n dX12_goesBy_1 rfl (?_ : RR _ _ _ _ 2 _ _ _ _)
  refine R_iconst dX12_goesBy_2 (?_ : RR _ _ _ _ 3 _ _ _ _)
  refine R_iald dX12_goesBy_3 (fun q3 => (?_ : RR _ _ _ _ 4 _ _ _ _))
  try simp (disch := omega) only [rup_rup, rup_sort, rupS_def, rup_s, rup_n, fup_fup, fup_s, fup_n] at q3 ⊢
  refine R_imul dX12_goesBy_4 (?_ : RR _ _ _ _ 5 _ _ _ _)
  refine R_iload_n dX12_goesBy_5 rfl (?_ : RR _ _ _ _ 6 _ _ _ _)
  refine R_iadd dX12_goesBy_6 (?_ : RR _ _ _ _ 7 _ _ _ _)
  refine R_istore_n dX12_goesBy_7 (Nat.le_of_ble_eq_true rfl) (?_ : RR _ _ _ _ 8 [_, _, _, _] _ _ _)
  refine R_aload_n dX12_goesBy_8 rfl (?_ : RR _ _ _ _ 9 _ _ _ _)
  refine R_iconst dX12_goesBy_9 (?_ : RR _ _ _ _ 10 _ _ _ _)
  refine R_dup2 dX12_goesBy_10 (fun _ => rfl) (fun _ => rfl) (?_ : RR _ _ _ _ 11 _ _ _ _)
  refine R_iald dX12_goesBy_11 (fun q11 => (?_ : RR _ _ _ _ 12 _ _ _ _))
  try simp (disch := omega) only [rup_rup, rup_sort, rupS_def, rup_s, rup_n, fup_fup, fup_s, fup_n] at q11 ⊢
  refine R_aload_n dX12_goesBy_12 rfl (?_ : RR _ _ _ _ 13 _ _ _ _)
  refine R_getr dX12_goesBy_13 flX12_21 cok_12 rfl (by decide) (?_ : RR _ _ _ _ 16 _ _ _ _)
  refine R_iload_n dX12_goesBy_16 rfl (?_ : RR _ _ _ _ 17 _ _ _ _)
  refine R_iald dX12_goesBy_17 (fun q17 => (?_ : RR _ _ _ _ 18 _ _ _ _))
  try simp (disch := omega) only [rup_rup, rup_sort, rupS_def, rup_s, rup_n, fup_fup, fup_s, fup_n] at q17 ⊢
  refine R_iadd dX12_goesBy_18 (?_ : RR _ _ _ _ 19 _ _ _ _)
  refine R_iast dX12_goesBy_19 (?_ : RR _ _ _ _ 20 _ _ _ _)
  try simp (disch := omega) only [rup_rup, rup_sort, rupS_def, rup_s, rup_n, fup_fup, fup_s, fup_n]
  refine R_aload_n dX12_goesBy_20 rfl (?_ : RR _ _ _ _ 21 _ _ _ _)
  refine R_iconst dX12_goesBy_21 (?_ : RR _ _ _ _ 22 _ _ _ _)
  refine R_aload_n dX12_goesBy_22 rfl (?_ : RR _ _ _ _ 23 _ _ _ _)
  refine R_getr dX12_goesBy_23 flX12_17 cok_12 rfl (by decide) (?_ : RR _ _ _ _ 26 _ _ _ _)
  refine R_iload_n dX12_goesBy_26 rfl (?_ : RR _ _ _ _ 27 _ _ _ _)
  refine R_iald dX12_goesBy_27 (fun q27 => (?_ : RR _ _ _ _ 28 _ _ _ _))
  try simp (disch := omega) only [rup_rup, rup_sort, rupS_def, rup_s, rup_n, fup_fup, fup_s, fup_n] at q27 ⊢
  refine R_iast dX12_goesBy_28 (?_ : RR _ _ _ _ 29 _ _ _ _)
  try simp (disch := omega) only [rup_rup, rup_sort, rupS_def, rup_s, rup_n, fup_fup, fup_s, fup_n]
  refine R_aload_n dX12_goesBy_29 rfl (?_ : RR _ _ _ _ 30 _ _ _ _)
  refine R_aload_n dX12_goesBy_30 rfl (?_ : RR _ _ _ _ 31 _ _ _ _)
  refine R_cVv1 dX12_goesBy_31 mvX12_getOut mlX12_338 (by decide) (by decide) (Nat.le_of_ble_eq_true rfl) (Nat.le_of_ble_eq_true rfl) (T_X12_getOut (np := np) (by simp (disch := omega) only [rup_n]; exact hnp) (by unfold mS; simp (disch := omega) only [rup_s, fup_n]; exact hs)) (?_ : RR _ _ _ _ 34 _ _ _ _)
  try simp (disch := omega) only [rup_rup, rup_sort, rupS_def, rup_s, rup_n, fup_fup, fup_s, fup_n]
  exact R_return dX12_goesBy_34 trivial hQ
theorem mvS_fr {sem : Sem} {h h' : Nat → Int → Int} {r np : Nat} {P : Nat → Bool} (h0 : h' 153 = h 153) (h1 : h' 149 = h 149) (h2 : h' 150 = h 150) (h3 : h' 151 = h 151) (h4 : h' 152 = h 152) (h5 : h' r = h r) : mvS sem h' r np P = mvS sem h r np P := by
  unfold mvS
  rw [h0, h1, h2, h3, h4, h5]
/-- how many go along, by the other -/
def mgA (sem : Sem) (h : Nat → Int → Int) (r np nc len : Nat) (c : Int) : Nat := algS (fun i => decide (mvS sem h r np (fun p => decide (mS (h r) p = caS (h r) i nc)) = c)) len 0
theorem T_X12_goingAlong {r np nc len : Nat} {c : Int} {sem : Sem} {h : Nat → Int → Int} (hk : mOK h r np) (hm : mrOK h sem) (hnp : h 147 5 = np) (hnc : h 147 4 = nc) (hlen : sm (fun c => if 0 ≤ mP (h r) c then 1 else 0) nc = len) (hca : ∀ i : Nat, i < len → 0 ≤ caS (h r) i nc ∧ caS (h r) i nc < 6) (hr : isRw r := by assumption) (hrb : r = 154 ∨ r = 155 := by omega) (h12 : np ≤ 12 := by omega) (h6 : nc ≤ 6 := by omega) (hl6 : len ≤ 6 := by omega) (hc : 0 ≤ c ∧ c ≤ 2 := by omega) : RR mX12_goingAlong 6 0 0 0 (pm_ent [pR 147, pR r, pI c] 4) [] (shp0, rf0, h) (fun r' g' => r' = some (pI (mgA sem h r np nc len c)) ∧ ∃ h', g' = (shp0, rf0, h') ∧ ∀ a, a ≠ 160 → a ≠ 161 → a ≠ 162 → h' a = h a) := by
  suffices hSS : ∀ Q : Option PV → PH → Prop, (∀ h', (∀ a, a ≠ 160 → a ≠ 161 → a ≠ 162 → h' a = h a) → Q (some (pI (mgA sem h r np nc len c))) (shp0, rf0, h')) → RR mX12_goingAlong 6 0 0 0 [pR 147, pR r, pI c, pU] [] (shp0, rf0, h) Q from hSS _ (fun h' q => ⟨rfl, h', rfl, q⟩)
  intro Q hQ
  unfold mgA at hQ
  generalize hP : (fun i : Nat => decide (mvS sem h r np (fun p => decide (mS (h r) p = caS (h r) i nc)) = c)) = P at hQ
  have L : ∀ (k i : Nat) (h' : Nat → Int → Int), (∀ a, a ≠ 160 → a ≠ 161 → a ≠ 162 → h' a = h a) → i + k = len → algS P len 0 = algS P k i → RR mX12_goingAlong 6 0 0 2 [pR 147, pR r, pI c, pI i] [] (shp0, rf0, h') Q := by
    intro k
    induction k with
    | zero =>
      intro i h' hf hi e
      obtain rfl : i = len := by omega
      have hq := hQ h' hf
      rw [e] at hq
      have e147 := hf 147 (by omega) (by omega) (by omega)
      have er := hf r (by omega) (by omega) (by omega)
      refine R_iload_n dX12_goingAlong_2 rfl (?_ : RR _ _ _ _ 3 _ _ _ _)
      refine R_aload_n dX12_goingAlong_3 rfl (?_ : RR _ _ _ _ 4 _ _ _ _)
      refine R_aload_n dX12_goingAlong_4 rfl (?_ : RR _ _ _ _ 5 _ _ _ _)
      refine R_cVi1 dX12_goingAlong_5 mvX12_trainLong mlX12_217 (by decide) (by decide) (Nat.le_of_ble_eq_true rfl) (Nat.le_of_ble_eq_true rfl) (T_X12_trainLong (nc := nc) (by rw [e147]; exact hnc)) (?_ : RR _ _ _ _ 8 _ _ _ _)
      rw [er, hlen]
      refine R_icmp_ge (t := 32) dX12_goingAlong_8 rfl (fun c8 => ?_) (fun c8 => ?_)
      rotate_left
      · exfalso; omega
      refine R_iload_n dX12_goingAlong_32 rfl (?_ : RR _ _ _ _ 33 _ _ _ _)
      exact R_ireturn dX12_goingAlong_33 trivial hq
    | succ k ih =>
      intro i h' hf hi e
      have e147 := hf 147 (by omega) (by omega) (by omega)
      have er := hf r (by omega) (by omega) (by omega)
      have e149 := hf 149 (by omega) (by omega) (by omega)
      have e150 := hf 150 (by omega) (by omega) (by omega)
      have e151 := hf 151 (by omega) (by omega) (by omega)
      have e152 := hf 152 (by omega) (by omega) (by omega)
      have e153 := hf 153 (by omega) (by omega) (by omega)
      have e158 := hf 158 (by omega) (by omega) (by omega)
      have hci := hca i (by omega)
      have hmv : 0 ≤ mvS sem h r np (fun p => decide (mS (h r) p = caS (h r) i nc)) ∧ mvS sem h r np (fun p => decide (mS (h r) p = caS (h r) i nc)) ≤ 2 := chS_b
      rw [algS_s] at e
      refine R_iload_n dX12_goingAlong_2 rfl (?_ : RR _ _ _ _ 3 _ _ _ _)
      refine R_aload_n dX12_goingAlong_3 rfl (?_ : RR _ _ _ _ 4 _ _ _ _)
      refine R_aload_n dX12_goingAlong_4 rfl (?_ : RR _ _ _ _ 5 _ _ _ _)
      refine R_cVi1 dX12_goingAlong_5 mvX12_trainLong mlX12_217 (by decide) (by decide) (Nat.le_of_ble_eq_true rfl) (Nat.le_of_ble_eq_true rfl) (T_X12_trainLong (nc := nc) (by rw [e147]; exact hnc)) (?_ : RR _ _ _ _ 8 _ _ _ _)
      rw [er, hlen]
      refine R_icmp_ge (t := 32) dX12_goingAlong_8 rfl (fun c8 => ?_) (fun c8 => ?_)
      · exfalso; omega
      refine R_aload_n dX12_goingAlong_11 rfl (?_ : RR _ _ _ _ 12 _ _ _ _)
      refine R_aload_n dX12_goingAlong_12 rfl (?_ : RR _ _ _ _ 13 _ _ _ _)
      refine R_aload_n dX12_goingAlong_13 rfl (?_ : RR _ _ _ _ 14 _ _ _ _)
      refine R_aload_n dX12_goingAlong_14 rfl (?_ : RR _ _ _ _ 15 _ _ _ _)
      refine R_iload_n dX12_goingAlong_15 rfl (?_ : RR _ _ _ _ 16 _ _ _ _)
      refine R_cVi2 dX12_goingAlong_16 mvX12_coachAt mlX12_342 (by decide) (by decide) (Nat.le_of_ble_eq_true rfl) (Nat.le_of_ble_eq_true rfl) (T_X12_coachAt (nc := nc) (by rw [e147]; exact hnc)) (?_ : RR _ _ _ _ 19 _ _ _ _)
      rw [er]
      refine R_qV2 dX12_goingAlong_19 mvX12_voteOf mlX12_322 (by decide) (by decide) (Nat.le_of_ble_eq_true rfl) (Nat.le_of_ble_eq_true rfl) (T_X12_voteOf (sem := sem) (np := np) (mOK_fr hk e149 e150 e151 e152 er) (mrOK_fr hm (by rw [e147]) e158) (by rw [e147]; exact hnp) hci) (fun r9 g9 hq9 => (?_ : RR _ _ _ _ 22 _ _ _ _))
      obtain ⟨rfl, h2, rfl, hp2⟩ := hq9
      rw [mvS_fr e153 e149 e150 e151 e152 er, er]
      show RR _ _ _ _ _ _ [pI _] _ _
      have hf2 : ∀ a, a ≠ 160 → a ≠ 161 → a ≠ 162 → h2 a = h a := fun a a1 a2 a3 => (hp2.1 a a1 a2 a3).trans (hf a a1 a2 a3)
      refine R_iload_n dX12_goingAlong_22 rfl (?_ : RR _ _ _ _ 23 _ _ _ _)
      refine R_icmp_ne (t := 32) dX12_goingAlong_23 rfl (fun c23 => ?_) (fun c23 => ?_)
      · rw [if_neg (by rw [← hP]; simpa using c23)] at e
        have hq := hQ h2 hf2
        rw [e] at hq
        refine R_iload_n dX12_goingAlong_32 rfl (?_ : RR _ _ _ _ 33 _ _ _ _)
        exact R_ireturn dX12_goingAlong_33 trivial hq
      · rw [if_pos (by rw [← hP]; simpa using c23)] at e
        refine R_iinc dX12_goingAlong_26 rfl (Nat.le_of_ble_eq_true rfl) (?_ : RR _ _ _ _ 29 [_, _, _, _] _ _ _)
        refine R_goto (t := 2) dX12_goingAlong_29 rfl (?_ : RR _ _ _ _ 2 _ _ _ _)
        exact ih (i + 1) h2 hf2 (by omega) e
  refine R_iconst dX12_goingAlong_0 (?_ : RR _ _ _ _ 1 _ _ _ _)
  refine R_istore_n dX12_goingAlong_1 (Nat.le_of_ble_eq_true rfl) (?_ : RR _ _ _ _ 2 [_, _, _, _] _ _ _)
  exact L len 0 h (fun _ _ _ _ => rfl) (by omega) rfl
/-- behind a run, by the other -/
def ruP (sem : Sem) (h : Nat → Int → Int) (r np nc len : Nat) (c : Int) (r' : Option PV) (h' : Nat → Int → Int) : Prop :=
  (∀ a, a ≠ 147 → a ≠ r → a ≠ 160 → a ≠ 161 → a ≠ 162 → h' a = h a) ∧
  (¬ (c ≠ 2 ∧ 0 ≤ h 149 (2 * h r 0 + c)) → r' = some (pI 2) ∧ h' r = fup (h r) 1 (h r 1 + 1) ∧ h' 147 = fup (h 147) 30 0) ∧
  ((c ≠ 2 ∧ 0 ≤ h 149 (2 * h r 0 + c)) → ∀ a : Nat, a = mgA sem h r np nc len c → r' = some (pI c) ∧ h' 147 = fup (h 147) 30 (bset (lefP (h r) a) nc) ∧
    h' r = moF (h 152) (fup (fup (mlF (h r) a nc) 1 (h r 1 + h 150 (2 * h r 0 + c))) 0 (h 149 (2 * h r 0 + c))) np)
theorem T_X12_runsBy {r np nc len : Nat} {c : Int} {sem : Sem} {h : Nat → Int → Int} (hk : mOK h r np) (hm : mrOK h sem) (hnp : h 147 5 = np) (hnc : h 147 4 = nc) (hlen : sm (fun c => if 0 ≤ mP (h r) c then 1 else 0) nc = len) (hca : ∀ i : Nat, i < len → 0 ≤ caS (h r) i nc ∧ caS (h r) i nc < 6) (hen : 0 ≤ h r 0 ∧ h r 0 < 9) (hnow : h r 1 ≤ 2000000000) (hr : isRw r := by assumption) (hrb : r = 154 ∨ r = 155 := by omega) (h12 : np ≤ 12 := by omega) (h6 : nc ≤ 6 := by omega) (hl6 : len ≤ 6 := by omega) (hc : 0 ≤ c ∧ c ≤ 2 := by omega) : RR mX12_runsBy 7 0 0 0 (pm_ent [pR 147, pR r, pI c] 3) [] (shp0, rf0, h) (fun r' g' => ∃ h', g' = (shp0, rf0, h') ∧ ruP sem h r np nc len c r' h') := by
  suffices hSS : ∀ Q : Option PV → PH → Prop, (∀ r' h', ruP sem h r np nc len c r' h' → Q r' (shp0, rf0, h')) → RR mX12_runsBy 7 0 0 0 [pR 147, pR r, pI c] [] (shp0, rf0, h) Q from hSS _ (fun r' h' q => ⟨h', rfl, q⟩)
  intro Q hQ
  obtain ⟨hE, hM, hF, hs, hh, hw, hn⟩ := id hk
  by_cases hco : c ≠ 2 ∧ 0 ≤ h 149 (2 * h r 0 + c)
  · have hme := hM (2 * h r 0 + c) (by omega) (by omega)
    have K39 : ∀ (h2 : Nat → Int → Int) (a : Nat), a = mgA sem h r np nc len c → (∀ b, b ≠ 147 → b ≠ 160 → b ≠ 161 → b ≠ 162 → h2 b = h b) → h2 147 = fup (h 147) 30 0 → RR mX12_runsBy 7 0 0 36 [pR 147, pR r, pI c] [pI a, pR r, pR 147] (shp0, rf0, h2) Q := by
      intro h2 a ha hf e147
      have er := hf r (by omega) (by omega) (by omega) (by omega)
      have e149 := hf 149 (by omega) (by omega) (by omega) (by omega)
      have e150 := hf 150 (by omega) (by omega) (by omega) (by omega)
      have e152 := hf 152 (by omega) (by omega) (by omega) (by omega)
      have hab := algS_b (fun i => decide (mvS sem h r np (fun p => decide (mS (h r) p = caS (h r) i nc)) = c)) len 0
      have hal : a ≤ len := by rw [ha]; unfold mgA; omega
      have z1 : mlF (h r) a nc 1 = h r 1 := by unfold mlF; rw [if_neg (by omega)]
      have zs : ∀ j : Nat, mS (mlF (h r) a nc) j = mS (h r) j := fun j => by unfold mS mlF; rw [if_neg (by omega)]
      have hq : Q (some (pI c)) (shp0, rf0, rup (rup h2 147 (fup (h 147) 30 (bset (lefP (h r) a) nc))) r (moF (h 152) (fup (fup (mlF (h r) a nc) 1 (h r 1 + h 150 (2 * h r 0 + c))) 0 (h 149 (2 * h r 0 + c))) np)) := by
        refine hQ _ _ ⟨fun b b1 b2 b3 b4 b5 => by rw [rup_n b2, rup_n b1]; exact hf b b1 b3 b4 b5, fun q => absurd hco q, fun _ a' ha' => ?_⟩
        obtain rfl : a' = a := ha'.trans ha.symm
        exact ⟨rfl, by rw [rup_n (by omega), rup_s], rup_s⟩
      have e30 : ((0 ||| bset (lefP (h r) a) nc : Nat) : Int) = (bset (lefP (h r) a) nc : Int) := by rw [Nat.zero_or]
      refine R_cVv2 dX12_runsBy_36 mvX12_leavesFrom mlX12_352 (by decide) (by decide) (Nat.le_of_ble_eq_true rfl) (Nat.le_of_ble_eq_true rfl) (T_X12_leavesFrom (nc := nc) (L := 0) (by rw [e147]; simp (disch := omega) only [fup_n]; exact hnc) (by rw [e147, fup_s]; rfl) (by omega)) (?_ : RR _ _ _ _ 39 _ _ _ _)
      try simp (disch := omega) only [rup_rup, rup_sort, rupS_def, rup_s, rup_n, fup_fup, fup_s, fup_n, er, e149, e150, e152, e147, mlF_z, z1, e30]
      refine R_aload_n dX12_runsBy_39 rfl (?_ : RR _ _ _ _ 40 _ _ _ _)
      refine R_aload_n dX12_runsBy_40 rfl (?_ : RR _ _ _ _ 41 _ _ _ _)
      refine R_iload_n dX12_runsBy_41 rfl (?_ : RR _ _ _ _ 42 _ _ _ _)
      refine R_cVv2 dX12_runsBy_42 mvX12_goesBy mlX12_355 (by decide) (by decide) (Nat.le_of_ble_eq_true rfl) (Nat.le_of_ble_eq_true rfl) (T_X12_goesBy (np := np) (by simp (disch := omega) only [rup_n, rup_s, fup_n]; exact hnp) (by simp (disch := omega) only [rup_s, zs]; exact hs) (by simp (disch := omega) only [rup_s, rup_n, mlF_z, z1, e150]; omega) (hen := by simp (disch := omega) only [rup_s, mlF_z]; omega)) (?_ : RR _ _ _ _ 45 _ _ _ _)
      try simp (disch := omega) only [rup_rup, rup_sort, rupS_def, rup_s, rup_n, fup_fup, fup_s, fup_n, er, e149, e150, e152, e147, mlF_z, z1, e30]
      refine R_iload_n dX12_runsBy_45 rfl (?_ : RR _ _ _ _ 46 _ _ _ _)
      exact R_ireturn dX12_runsBy_46 trivial hq
    refine R_aload_n dX12_runsBy_0 rfl (?_ : RR _ _ _ _ 1 _ _ _ _)
    refine R_iconst dX12_runsBy_1 (?_ : RR _ _ _ _ 2 _ _ _ _)
    refine R_puti (zk := 30) dX12_runsBy_2 flX12_335 cok_12 (by decide) (fun q hq => by cases hq; rfl) rfl (?_ : RR _ _ _ _ 5 _ _ _ _)
    try simp (disch := omega) only [rup_rup, rup_sort, rupS_def, rup_s, rup_n, fup_fup, fup_s, fup_n]
    refine R_iload_n dX12_runsBy_5 rfl (?_ : RR _ _ _ _ 6 _ _ _ _)
    refine R_aload_n dX12_runsBy_6 rfl (?_ : RR _ _ _ _ 7 _ _ _ _)
    refine R_getr dX12_runsBy_7 flX12_17 cok_12 rfl (by decide) (?_ : RR _ _ _ _ 10 _ _ _ _)
    refine R_aload_n dX12_runsBy_10 rfl (?_ : RR _ _ _ _ 11 _ _ _ _)
    refine R_iconst dX12_runsBy_11 (?_ : RR _ _ _ _ 12 _ _ _ _)
    refine R_iald dX12_runsBy_12 (fun q12 => (?_ : RR _ _ _ _ 13 _ _ _ _))
    try simp (disch := omega) only [rup_rup, rup_sort, rupS_def, rup_s, rup_n, fup_fup, fup_s, fup_n] at q12 ⊢
    refine R_cSi3 dX12_runsBy_13 msX12_isCourse mlX12_345 (by decide) (Nat.le_of_ble_eq_true rfl) (Nat.le_of_ble_eq_true rfl) (T_X12_isCourse) (?_ : RR _ _ _ _ 16 _ _ _ _)
    try simp (disch := omega) only [rup_rup, rup_sort, rupS_def, rup_s, rup_n, fup_fup, fup_s, fup_n]
    refine R_if_ne (t := 28) dX12_runsBy_16 rfl (fun c16 => ?_) (fun c16 => ?_)
    rotate_left
    · rw [if_pos hco] at c16; exfalso; omega
    refine R_aload_n dX12_runsBy_28 rfl (?_ : RR _ _ _ _ 29 _ _ _ _)
    refine R_aload_n dX12_runsBy_29 rfl (?_ : RR _ _ _ _ 30 _ _ _ _)
    refine R_aload_n dX12_runsBy_30 rfl (?_ : RR _ _ _ _ 31 _ _ _ _)
    refine R_aload_n dX12_runsBy_31 rfl (?_ : RR _ _ _ _ 32 _ _ _ _)
    refine R_iload_n dX12_runsBy_32 rfl (?_ : RR _ _ _ _ 33 _ _ _ _)
    refine R_qV2 dX12_runsBy_33 mvX12_goingAlong mlX12_349 (by decide) (by decide) (Nat.le_of_ble_eq_true rfl) (Nat.le_of_ble_eq_true rfl) (T_X12_goingAlong (sem := sem) (np := np) (nc := nc) (len := len) (mOK_fr hk (by rw [rup_n (by omega)]) (by rw [rup_n (by omega)]) (by rw [rup_n (by omega)]) (by rw [rup_n (by omega)]) (by rw [rup_n (by omega)])) (mrOK_fr hm (by simp (disch := omega) only [rup_s, fup_n]) (by rw [rup_n (by omega)])) (by simp (disch := omega) only [rup_s, fup_n]; exact hnp) (by simp (disch := omega) only [rup_s, fup_n]; exact hnc) (by rw [rup_n (by omega)]; exact hlen) (by rw [rup_n (by omega)]; exact hca)) (fun r9 g9 hq9 => (?_ : RR _ _ _ _ 36 _ _ _ _))
    obtain ⟨rfl, h2, rfl, hf2⟩ := hq9
    show RR _ _ _ _ _ _ [pI _, pR r, pR 147] _ _
    try simp (disch := omega) only [rup_rup, rup_sort, rupS_def, rup_s, rup_n, fup_fup, fup_s, fup_n]
    refine K39 h2 _ ?_ (fun b b1 b2 b3 b4 => by rw [hf2 b b2 b3 b4, rup_n b1]) (by rw [hf2 147 (by omega) (by omega) (by omega), rup_s])
    unfold mgA
    simp (disch := omega) only [rup_n]
    congr 1
    funext i
    rw [mvS_fr (by rw [rup_n (by omega)]) (by rw [rup_n (by omega)]) (by rw [rup_n (by omega)]) (by rw [rup_n (by omega)]) (by rw [rup_n (by omega)]) (by rw [rup_n (by omega)])]
  · have hq : Q (some (pI 2)) (shp0, rf0, rup (rup h 147 (fup (h 147) 30 0)) r (fup (h r) 1 (h r 1 + 1))) := by
      refine hQ _ _ ⟨fun b b1 b2 b3 b4 b5 => by rw [rup_n b2, rup_n b1], fun _ => ⟨rfl, rup_s, by rw [rup_n (by omega), rup_s]⟩, fun q => absurd q hco⟩
    refine R_aload_n dX12_runsBy_0 rfl (?_ : RR _ _ _ _ 1 _ _ _ _)
    refine R_iconst dX12_runsBy_1 (?_ : RR _ _ _ _ 2 _ _ _ _)
    refine R_puti (zk := 30) dX12_runsBy_2 flX12_335 cok_12 (by decide) (fun q hq => by cases hq; rfl) rfl (?_ : RR _ _ _ _ 5 _ _ _ _)
    try simp (disch := omega) only [rup_rup, rup_sort, rupS_def, rup_s, rup_n, fup_fup, fup_s, fup_n]
    refine R_iload_n dX12_runsBy_5 rfl (?_ : RR _ _ _ _ 6 _ _ _ _)
    refine R_aload_n dX12_runsBy_6 rfl (?_ : RR _ _ _ _ 7 _ _ _ _)
    refine R_getr dX12_runsBy_7 flX12_17 cok_12 rfl (by decide) (?_ : RR _ _ _ _ 10 _ _ _ _)
    refine R_aload_n dX12_runsBy_10 rfl (?_ : RR _ _ _ _ 11 _ _ _ _)
    refine R_iconst dX12_runsBy_11 (?_ : RR _ _ _ _ 12 _ _ _ _)
    refine R_iald dX12_runsBy_12 (fun q12 => (?_ : RR _ _ _ _ 13 _ _ _ _))
    try simp (disch := omega) only [rup_rup, rup_sort, rupS_def, rup_s, rup_n, fup_fup, fup_s, fup_n] at q12 ⊢
    refine R_cSi3 dX12_runsBy_13 msX12_isCourse mlX12_345 (by decide) (Nat.le_of_ble_eq_true rfl) (Nat.le_of_ble_eq_true rfl) (T_X12_isCourse) (?_ : RR _ _ _ _ 16 _ _ _ _)
    try simp (disch := omega) only [rup_rup, rup_sort, rupS_def, rup_s, rup_n, fup_fup, fup_s, fup_n]
    refine R_if_ne (t := 28) dX12_runsBy_16 rfl (fun c16 => ?_) (fun c16 => ?_)
    · rw [if_neg hco] at c16; exfalso; omega
    refine R_aload_n dX12_runsBy_19 rfl (?_ : RR _ _ _ _ 20 _ _ _ _)
    refine R_iconst dX12_runsBy_20 (?_ : RR _ _ _ _ 21 _ _ _ _)
    refine R_dup2 dX12_runsBy_21 (fun _ => rfl) (fun _ => rfl) (?_ : RR _ _ _ _ 22 _ _ _ _)
    refine R_iald dX12_runsBy_22 (fun q22 => (?_ : RR _ _ _ _ 23 _ _ _ _))
    try simp (disch := omega) only [rup_rup, rup_sort, rupS_def, rup_s, rup_n, fup_fup, fup_s, fup_n] at q22 ⊢
    refine R_iconst dX12_runsBy_23 (?_ : RR _ _ _ _ 24 _ _ _ _)
    refine R_iadd dX12_runsBy_24 (?_ : RR _ _ _ _ 25 _ _ _ _)
    refine R_iast dX12_runsBy_25 (?_ : RR _ _ _ _ 26 _ _ _ _)
    try simp (disch := omega) only [rup_rup, rup_sort, rupS_def, rup_s, rup_n, fup_fup, fup_s, fup_n]
    refine R_iconst dX12_runsBy_26 (?_ : RR _ _ _ _ 27 _ _ _ _)
    exact R_ireturn dX12_runsBy_27 trivial hq
