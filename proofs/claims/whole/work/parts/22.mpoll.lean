/-- what the other's row of a train must hold, that votes can be asked -/
def mOK (h : Nat → Int → Int) (r np : Nat) : Prop := exB (h 149) ∧ miB (h 150) ∧ farB (h 151) ∧ (∀ j : Nat, j < np → mS (h r) j = -1 ∨ (0 ≤ mS (h r) j ∧ mS (h r) j < 6)) ∧ (∀ j : Nat, j < np → mS (h r) j ≠ -1 → -1 ≤ mP (h r) (mS (h r) j) ∧ mP (h r) (mS (h r) j) < 6 ∧ 0 ≤ halS (h r 0) (mP (h r)) (mA (h r)) (mS (h r) j) ∧ halS (h r 0) (mP (h r)) (mA (h r)) (mS (h r) j) < 9) ∧ (∀ j : Nat, j < np → 0 ≤ h 152 j ∧ h 152 j < 9) ∧ 0 ≤ h r 1
theorem mhal {en z : Int} {pl sd : Int → Int} {c : Int} (hp : -1 ≤ pl c) : (if 0 ≤ pl c then en else sd c) = halS en pl sd c := by
  unfold halS
  by_cases h1 : pl c = -1
  · rw [if_neg (by omega), if_pos h1]
  · rw [if_pos (by omega), if_neg h1]
theorem T_X12_wishOf {r np : Nat} {p : Nat} {h : Nat → Int → Int} (hk : mOK h r np) (hp : p < np) (hse : mS (h r) p ≠ -1) (hr : isRw r := by assumption) (h12 : np ≤ 12 := by omega) : MT mX12_wishOf 2 [pR 147, pR r, pI p] h (some (pI ((wiS (h 149) (h 150) (nds (h 151)) (h 152) (mS (h r)) (mP (h r)) (mA (h r)) (h r 0)) p))) h := by
  obtain ⟨hE, hM, hF, hs, hh, hw, hn⟩ := hk
  have hsp := hs p hp
  have hhp := hh p hp hse
  have hwp := hw p hp
  have hfp := hF (halS (h r 0) (mP (h r)) (mA (h r)) (mS (h r) p) * 9 + h 152 p) (by omega) (by omega)
  refine MT.of (fun Q hQ => (?_ : RR mX12_wishOf _ _ _ _ [pR 147, pR r, pI p, pU] _ _ _))
  unfold wiS at hQ
  rw [if_neg hse] at hQ
  unfold wishS at hQ
  have hnd : nds (h 151) (halS (h r 0) (mP (h r)) (mA (h r)) (mS (h r) p) * 9 + h 152 p) = if 1000000 ≤ h 151 (halS (h r 0) (mP (h r)) (mA (h r)) (mS (h r) p) * 9 + h 152 p) then 100000 else h 151 (halS (h r 0) (mP (h r)) (mA (h r)) (mS (h r) p) * 9 + h 152 p) := rfl
  rw [hnd] at hQ
  have hsr : h r (14 + (p : Int)) = mS (h r) p := rfl
  refine R_aload_n dX12_wishOf_0 rfl (?_ : RR _ _ _ _ 1 _ _ _ _)
  refine R_aload_n dX12_wishOf_1 rfl (?_ : RR _ _ _ _ 2 _ _ _ _)
  refine R_bipush dX12_wishOf_2 rfl (?_ : RR _ _ _ _ 4 _ _ _ _)
  refine R_iload_n dX12_wishOf_4 rfl (?_ : RR _ _ _ _ 5 _ _ _ _)
  refine R_iadd dX12_wishOf_5 (?_ : RR _ _ _ _ 6 _ _ _ _)
  refine R_iald dX12_wishOf_6 (fun q6 => (?_ : RR _ _ _ _ 7 _ _ _ _))
  rw [hsr] at q6 ⊢
  refine R_cSi2 dX12_wishOf_7 msX12_haltOf mlX12_227 (by decide) (Nat.le_of_ble_eq_true rfl) (Nat.le_of_ble_eq_true rfl) (T_X12_haltOf) (?_ : RR _ _ _ _ 10 _ _ _ _)
  rw [mhal (z := 0) hhp.1]
  refine R_istore_n dX12_wishOf_10 (Nat.le_of_ble_eq_true rfl) (?_ : RR _ _ _ _ 11 [_, _, _, _] _ _ _)
  refine R_iload_n dX12_wishOf_11 rfl (?_ : RR _ _ _ _ 12 _ _ _ _)
  refine R_aload_n dX12_wishOf_12 rfl (?_ : RR _ _ _ _ 13 _ _ _ _)
  refine R_getr dX12_wishOf_13 flX12_27 cok_12 rfl (by decide) (?_ : RR _ _ _ _ 16 _ _ _ _)
  refine R_iload_n dX12_wishOf_16 rfl (?_ : RR _ _ _ _ 17 _ _ _ _)
  refine R_iald dX12_wishOf_17 (fun q17 => (?_ : RR _ _ _ _ 18 _ _ _ _))
  refine R_icmp_eq (t := 37) dX12_wishOf_18 rfl (fun c18 => ?_) (fun c18 => ?_)
  · rw [if_pos (Or.inl c18)] at hQ
    refine R_iconst dX12_wishOf_37 (?_ : RR _ _ _ _ 38 _ _ _ _)
    exact R_ireturn dX12_wishOf_38 trivial hQ
  · refine R_aload_n dX12_wishOf_21 rfl (?_ : RR _ _ _ _ 22 _ _ _ _)
    refine R_iload_n dX12_wishOf_22 rfl (?_ : RR _ _ _ _ 23 _ _ _ _)
    refine R_aload_n dX12_wishOf_23 rfl (?_ : RR _ _ _ _ 24 _ _ _ _)
    refine R_getr dX12_wishOf_24 flX12_27 cok_12 rfl (by decide) (?_ : RR _ _ _ _ 27 _ _ _ _)
    refine R_iload_n dX12_wishOf_27 rfl (?_ : RR _ _ _ _ 28 _ _ _ _)
    refine R_iald dX12_wishOf_28 (fun q28 => (?_ : RR _ _ _ _ 29 _ _ _ _))
    refine R_cVi2 dX12_wishOf_29 mvX12_farOf mlX12_145 (by decide) (by decide) (Nat.le_of_ble_eq_true rfl) (Nat.le_of_ble_eq_true rfl) (T_X12_farOf) (?_ : RR _ _ _ _ 32 _ _ _ _)
    refine R_ldc (z := 1000000) dX12_wishOf_32 kwX12_138 (?_ : RR _ _ _ _ 34 _ _ _ _)
    refine R_icmp_lt (t := 39) dX12_wishOf_34 rfl (fun c34 => ?_) (fun c34 => ?_)
    · rw [if_neg (by intro q; rcases q with q | q; exact c18 q; revert q; split <;> omega)] at hQ
      refine R_aload_n dX12_wishOf_39 rfl (?_ : RR _ _ _ _ 40 _ _ _ _)
      refine R_iload_n dX12_wishOf_40 rfl (?_ : RR _ _ _ _ 41 _ _ _ _)
      refine R_aload_n dX12_wishOf_41 rfl (?_ : RR _ _ _ _ 42 _ _ _ _)
      refine R_getr dX12_wishOf_42 flX12_27 cok_12 rfl (by decide) (?_ : RR _ _ _ _ 45 _ _ _ _)
      refine R_iload_n dX12_wishOf_45 rfl (?_ : RR _ _ _ _ 46 _ _ _ _)
      refine R_iald dX12_wishOf_46 (fun q46 => (?_ : RR _ _ _ _ 47 _ _ _ _))
      refine R_iconst dX12_wishOf_47 (?_ : RR _ _ _ _ 48 _ _ _ _)
      refine R_cVi3 dX12_wishOf_48 mvX12_beginsWay mlX12_284 (by decide) (by decide) (Nat.le_of_ble_eq_true rfl) (Nat.le_of_ble_eq_true rfl) (T_X12_beginsWay hE hM hF (hlt := by omega)) (?_ : RR _ _ _ _ 51 _ _ _ _)
      rw [Int.add_zero]
      refine R_if_eq (t := 58) dX12_wishOf_51 rfl (fun c51 => ?_) (fun c51 => ?_)
      · rw [if_neg (by simpa using c51)] at hQ
        refine R_iconst dX12_wishOf_58 (?_ : RR _ _ _ _ 59 _ _ _ _)
        exact R_ireturn dX12_wishOf_59 trivial hQ
      · rw [if_pos (by simpa using c51)] at hQ
        refine R_iconst dX12_wishOf_54 (?_ : RR _ _ _ _ 55 _ _ _ _)
        refine R_goto (t := 59) dX12_wishOf_55 rfl (?_ : RR _ _ _ _ 59 _ _ _ _)
        exact R_ireturn dX12_wishOf_59 trivial hQ
    · rw [if_pos (Or.inr (by split <;> omega))] at hQ
      refine R_iconst dX12_wishOf_37 (?_ : RR _ _ _ _ 38 _ _ _ _)
      exact R_ireturn dX12_wishOf_38 trivial hQ
theorem T_X12_votesOf {r np : Nat} {p : Nat} {sem : Sem} {h : Nat → Int → Int} (hk : mOK h r np) (hm : mrOK h sem) (hnp : h 147 5 = np) (hp : p < np) (hse : mS (h r) p ≠ -1) (hr : isRw r := by assumption) (hrb : r = 154 ∨ r = 155 := by omega) (h12 : np ≤ 12 := by omega) : RR mX12_votesOf 3 0 0 0 (pm_ent [pR 147, pR r, pI p] 5) [] (shp0, rf0, h) (fun r' g' => r' = some (pI ((vtS sem (h 153) (h 152) (nds (h 151)) (mS (h r)) (mP (h r)) (mA (h r)) (h r 0) (h r 1) np) p)) ∧ ∃ sk th, g' = (shp0, rf0, rup (rup h 160 sk) 161 th)) := by
  obtain ⟨hE, hM, hF, hs, hh, hw, hn⟩ := id hk
  have hsp := hs p hp
  have hhp := hh p hp hse
  have hwp := hw p hp
  have hfp := hF (halS (h r 0) (mP (h r)) (mA (h r)) (mS (h r) p) * 9 + h 152 p) (by omega) (by omega)
  suffices hS : ∀ Q : Option PV → PH → Prop, (∀ sk th, Q (some (pI ((vtS sem (h 153) (h 152) (nds (h 151)) (mS (h r)) (mP (h r)) (mA (h r)) (h r 0) (h r 1) np) p))) (shp0, rf0, rup (rup h 160 sk) 161 th)) → RR mX12_votesOf 3 0 0 0 [pR 147, pR r, pI p, pU, pU] [] (shp0, rf0, h) Q from hS _ (fun sk th => ⟨rfl, sk, th, rfl⟩)
  intro Q hQ
  unfold vtS at hQ
  rw [if_neg hse] at hQ
  have hsr : h r (14 + (p : Int)) = mS (h r) p := rfl
  have hcn : ((pop 12 (bset (fun q : Nat => decide (mS (h r) q = mS (h r) p)) np) : Nat) : Int) = cn (mS (h r)) (mS (h r) p) np := by rw [pop_bset h12, cn_sm]
  have hcb := cn_b (se := mS (h r)) (c := mS (h r) p) (n := np)
  have hbl : bset (fun q : Nat => decide (mS (h r) q = mS (h r) p)) np < 4096 := Nat.lt_of_lt_of_le (bset_lt _ _) (show 2 ^ np ≤ 2 ^ 12 from Nat.pow_le_pow_right (by omega) h12)
  have hmm : ∀ TH : Int → Int, mrOK (rup h 161 TH) sem := fun TH => by unfold mrOK; simp (disch := omega) only [rup_n]; exact hm
  have hmP : ∀ TH : Int → Int, mP (rup h 161 TH r) = mP (h r) := fun TH => by rw [rup_n (by omega)]
  have K101 : ∀ (TH : Int → Int) (z : Int), z = (if mP (h r) (mS (h r) p) = -1 then 9 else mP (h r) (mS (h r) p)) → TH 0 = h 153 p → TH 1 = mS (h r) p → TH 2 = cn (mS (h r)) (mS (h r) p) np → TH 3 = thd (nds (h 151)) (halS (h r 0) (mP (h r)) (mA (h r)) (mS (h r) p)) (h 152 p) → RR mX12_votesOf 3 0 0 101 [pR 147, pR r, pI p, pI (mS (h r) p), pI (h 151 (halS (h r 0) (mP (h r)) (mA (h r)) (mS (h r) p) * 9 + h 152 p))] [pI z, pI 4, pR 161] (shp0, rf0, rup h 161 TH) Q := by
    intro TH z hz e0 e1 e2 e3
    have hzr : r32 z := by rw [hz]; split <;> omega
    refine R_iast dX12_votesOf_101 (?_ : RR _ _ _ _ 102 _ _ _ _)
    try simp (disch := omega) only [rup_rup, rup_sort, rupS_def, rup_s, rup_n, fup_fup, fup_s, fup_n]
    refine R_aload_n dX12_votesOf_102 rfl (?_ : RR _ _ _ _ 103 _ _ _ _)
    refine R_getr dX12_votesOf_103 flX12_54 cok_12 rfl (by decide) (?_ : RR _ _ _ _ 106 _ _ _ _)
    refine R_iconst dX12_votesOf_106 (?_ : RR _ _ _ _ 107 _ _ _ _)
    refine R_aload_n dX12_votesOf_107 rfl (?_ : RR _ _ _ _ 108 _ _ _ _)
    refine R_iconst dX12_votesOf_108 (?_ : RR _ _ _ _ 109 _ _ _ _)
    refine R_iald dX12_votesOf_109 (fun q109 => (?_ : RR _ _ _ _ 110 _ _ _ _))
    try simp (disch := omega) only [rup_rup, rup_sort, rupS_def, rup_s, rup_n, fup_fup, fup_s, fup_n] at q109 ⊢
    refine R_bipush dX12_votesOf_110 rfl (?_ : RR _ _ _ _ 112 _ _ _ _)
    refine R_irem dX12_votesOf_112 (by omega) (by omega) (?_ : RR _ _ _ _ 113 _ _ _ _)
    rw [iRem_pos (by omega) (by omega) (by omega) (by omega)]
    refine R_iast dX12_votesOf_113 (?_ : RR _ _ _ _ 114 _ _ _ _)
    try simp (disch := omega) only [rup_rup, rup_sort, rupS_def, rup_s, rup_n, fup_fup, fup_s, fup_n]
    refine R_iconst dX12_votesOf_114 (?_ : RR _ _ _ _ 115 _ _ _ _)
    refine R_bipush dX12_votesOf_115 rfl (?_ : RR _ _ _ _ 117 _ _ _ _)
    refine R_aload_n dX12_votesOf_117 rfl (?_ : RR _ _ _ _ 118 _ _ _ _)
    refine R_qV0 dX12_votesOf_118 mvX12_ruled mlX12_278 (by decide) (by decide) (Nat.le_of_ble_eq_true rfl) (Nat.le_of_ble_eq_true rfl) (T_X12_ruled (sem := sem) (hmm _)) (fun r9 g9 hq9 => (?_ : RR _ _ _ _ 121 _ _ _ _))
    obtain ⟨rfl, hv9, sk, rfl⟩ := hq9
    simp (disch := omega) only [rup_sort, rupS_def, rup_s, fup_s, fup_n, e0, e1, e2, e3, hz] at hv9 ⊢
    show RR _ _ _ _ _ _ [pI _, pI 99, pI 0] _ _
    try simp (disch := omega) only [rup_rup, rup_sort, rupS_def, rup_s, rup_n, fup_fup, fup_s, fup_n]
    refine R_min dX12_votesOf_121 mmX12_139 (by decide) (Nat.le_of_ble_eq_true rfl) (?_ : RR _ _ _ _ 124 _ _ _ _)
    try simp (disch := omega) only [rup_rup, rup_sort, rupS_def, rup_s, rup_n, fup_fup, fup_s, fup_n]
    refine R_max dX12_votesOf_124 mmX12_281 (by decide) (Nat.le_of_ble_eq_true rfl) (?_ : RR _ _ _ _ 127 _ _ _ _)
    try simp (disch := omega) only [rup_rup, rup_sort, rupS_def, rup_s, rup_n, fup_fup, fup_s, fup_n]
    exact R_ireturn dX12_votesOf_127 trivial (hQ sk _)
  have K77 : ∀ (TH : Int → Int) (z : Int), z = thd (nds (h 151)) (halS (h r 0) (mP (h r)) (mA (h r)) (mS (h r) p)) (h 152 p) → TH 0 = h 153 p → TH 1 = mS (h r) p → TH 2 = cn (mS (h r)) (mS (h r) p) np → RR mX12_votesOf 3 0 0 77 [pR 147, pR r, pI p, pI (mS (h r) p), pI (h 151 (halS (h r 0) (mP (h r)) (mA (h r)) (mS (h r) p) * 9 + h 152 p))] [pI z, pI 3, pR 161] (shp0, rf0, rup h 161 TH) Q := by
    intro TH z hz e0 e1 e2
    have hzr : r32 z := by rw [hz]; unfold thd nds; split <;> (split <;> omega)
    refine R_iast dX12_votesOf_77 (?_ : RR _ _ _ _ 78 _ _ _ _)
    try simp (disch := omega) only [rup_rup, rup_sort, rupS_def, rup_s, rup_n, fup_fup, fup_s, fup_n, hmP]
    refine R_aload_n dX12_votesOf_78 rfl (?_ : RR _ _ _ _ 79 _ _ _ _)
    refine R_getr dX12_votesOf_79 flX12_54 cok_12 rfl (by decide) (?_ : RR _ _ _ _ 82 _ _ _ _)
    refine R_iconst dX12_votesOf_82 (?_ : RR _ _ _ _ 83 _ _ _ _)
    refine R_aload_n dX12_votesOf_83 rfl (?_ : RR _ _ _ _ 84 _ _ _ _)
    refine R_iload_n dX12_votesOf_84 rfl (?_ : RR _ _ _ _ 85 _ _ _ _)
    refine R_cSi2 dX12_votesOf_85 msX12_placeOf mlX12_130 (by decide) (Nat.le_of_ble_eq_true rfl) (Nat.le_of_ble_eq_true rfl) (T_X12_placeOf) (?_ : RR _ _ _ _ 88 _ _ _ _)
    try simp (disch := omega) only [rup_rup, rup_sort, rupS_def, rup_s, rup_n, fup_fup, fup_s, fup_n, hmP]
    refine R_if_ge (t := 96) dX12_votesOf_88 rfl (fun c88 => ?_) (fun c88 => ?_)
    · refine R_aload_n dX12_votesOf_96 rfl (?_ : RR _ _ _ _ 97 _ _ _ _)
      refine R_iload_n dX12_votesOf_97 rfl (?_ : RR _ _ _ _ 98 _ _ _ _)
      refine R_cSi2 dX12_votesOf_98 msX12_placeOf mlX12_130 (by decide) (Nat.le_of_ble_eq_true rfl) (Nat.le_of_ble_eq_true rfl) (T_X12_placeOf) (?_ : RR _ _ _ _ 101 _ _ _ _)
      try simp (disch := omega) only [rup_rup, rup_sort, rupS_def, rup_s, rup_n, fup_fup, fup_s, fup_n, hmP]
      exact K101 _ _ (by first | rw [if_pos (by omega)] | rw [if_neg (by omega)]) (by simp (disch := omega) only [fup_n]; exact e0) (by simp (disch := omega) only [fup_n]; exact e1) (by simp (disch := omega) only [fup_n]; exact e2) (by rw [fup_s]; exact hz)
    · refine R_bipush dX12_votesOf_91 rfl (?_ : RR _ _ _ _ 93 _ _ _ _)
      refine R_goto (t := 101) dX12_votesOf_93 rfl (?_ : RR _ _ _ _ 101 _ _ _ _)
      exact K101 _ _ (by first | rw [if_pos (by omega)] | rw [if_neg (by omega)]) (by simp (disch := omega) only [fup_n]; exact e0) (by simp (disch := omega) only [fup_n]; exact e1) (by simp (disch := omega) only [fup_n]; exact e2) (by rw [fup_s]; exact hz)
  refine R_aload_n dX12_votesOf_0 rfl (?_ : RR _ _ _ _ 1 _ _ _ _)
  refine R_bipush dX12_votesOf_1 rfl (?_ : RR _ _ _ _ 3 _ _ _ _)
  refine R_iload_n dX12_votesOf_3 rfl (?_ : RR _ _ _ _ 4 _ _ _ _)
  refine R_iadd dX12_votesOf_4 (?_ : RR _ _ _ _ 5 _ _ _ _)
  refine R_iald dX12_votesOf_5 (fun q5 => (?_ : RR _ _ _ _ 6 _ _ _ _))
  try simp (disch := omega) only [rup_rup, rup_sort, rupS_def, rup_s, rup_n, fup_fup, fup_s, fup_n] at q5 ⊢
  rw [hsr] at q5 ⊢
  refine R_istore_n dX12_votesOf_6 (Nat.le_of_ble_eq_true rfl) (?_ : RR _ _ _ _ 7 [_, _, _, _, _] _ _ _)
  refine R_aload_n dX12_votesOf_7 rfl (?_ : RR _ _ _ _ 8 _ _ _ _)
  refine R_aload_n dX12_votesOf_8 rfl (?_ : RR _ _ _ _ 9 _ _ _ _)
  refine R_iload_n dX12_votesOf_9 rfl (?_ : RR _ _ _ _ 10 _ _ _ _)
  refine R_cSi2 dX12_votesOf_10 msX12_haltOf mlX12_227 (by decide) (Nat.le_of_ble_eq_true rfl) (Nat.le_of_ble_eq_true rfl) (T_X12_haltOf) (?_ : RR _ _ _ _ 13 _ _ _ _)
  try simp (disch := omega) only [rup_rup, rup_sort, rupS_def, rup_s, rup_n, fup_fup, fup_s, fup_n]
  rw [mhal (z := 0) hhp.1]
  refine R_aload_n dX12_votesOf_13 rfl (?_ : RR _ _ _ _ 14 _ _ _ _)
  refine R_getr dX12_votesOf_14 flX12_27 cok_12 rfl (by decide) (?_ : RR _ _ _ _ 17 _ _ _ _)
  refine R_iload_n dX12_votesOf_17 rfl (?_ : RR _ _ _ _ 18 _ _ _ _)
  refine R_iald dX12_votesOf_18 (fun q18 => (?_ : RR _ _ _ _ 19 _ _ _ _))
  try simp (disch := omega) only [rup_rup, rup_sort, rupS_def, rup_s, rup_n, fup_fup, fup_s, fup_n] at q18 ⊢
  refine R_cVi2 dX12_votesOf_19 mvX12_farOf mlX12_145 (by decide) (by decide) (Nat.le_of_ble_eq_true rfl) (Nat.le_of_ble_eq_true rfl) (T_X12_farOf) (?_ : RR _ _ _ _ 22 _ _ _ _)
  try simp (disch := omega) only [rup_rup, rup_sort, rupS_def, rup_s, rup_n, fup_fup, fup_s, fup_n]
  refine R_istore dX12_votesOf_22 (Nat.le_of_ble_eq_true rfl) (?_ : RR _ _ _ _ 24 [_, _, _, _, _] _ _ _)
  refine R_aload_n dX12_votesOf_24 rfl (?_ : RR _ _ _ _ 25 _ _ _ _)
  refine R_getr dX12_votesOf_25 flX12_54 cok_12 rfl (by decide) (?_ : RR _ _ _ _ 28 _ _ _ _)
  refine R_iconst dX12_votesOf_28 (?_ : RR _ _ _ _ 29 _ _ _ _)
  refine R_aload_n dX12_votesOf_29 rfl (?_ : RR _ _ _ _ 30 _ _ _ _)
  refine R_getr dX12_votesOf_30 flX12_30 cok_12 rfl (by decide) (?_ : RR _ _ _ _ 33 _ _ _ _)
  refine R_iload_n dX12_votesOf_33 rfl (?_ : RR _ _ _ _ 34 _ _ _ _)
  refine R_iald dX12_votesOf_34 (fun q34 => (?_ : RR _ _ _ _ 35 _ _ _ _))
  try simp (disch := omega) only [rup_rup, rup_sort, rupS_def, rup_s, rup_n, fup_fup, fup_s, fup_n] at q34 ⊢
  refine R_iast dX12_votesOf_35 (?_ : RR _ _ _ _ 36 _ _ _ _)
  try simp (disch := omega) only [rup_rup, rup_sort, rupS_def, rup_s, rup_n, fup_fup, fup_s, fup_n]
  refine R_aload_n dX12_votesOf_36 rfl (?_ : RR _ _ _ _ 37 _ _ _ _)
  refine R_getr dX12_votesOf_37 flX12_54 cok_12 rfl (by decide) (?_ : RR _ _ _ _ 40 _ _ _ _)
  refine R_iconst dX12_votesOf_40 (?_ : RR _ _ _ _ 41 _ _ _ _)
  refine R_iload_n dX12_votesOf_41 rfl (?_ : RR _ _ _ _ 42 _ _ _ _)
  refine R_iast dX12_votesOf_42 (?_ : RR _ _ _ _ 43 _ _ _ _)
  try simp (disch := omega) only [rup_rup, rup_sort, rupS_def, rup_s, rup_n, fup_fup, fup_s, fup_n]
  refine R_aload_n dX12_votesOf_43 rfl (?_ : RR _ _ _ _ 44 _ _ _ _)
  refine R_getr dX12_votesOf_44 flX12_54 cok_12 rfl (by decide) (?_ : RR _ _ _ _ 47 _ _ _ _)
  refine R_iconst dX12_votesOf_47 (?_ : RR _ _ _ _ 48 _ _ _ _)
  refine R_aload_n dX12_votesOf_48 rfl (?_ : RR _ _ _ _ 49 _ _ _ _)
  refine R_aload_n dX12_votesOf_49 rfl (?_ : RR _ _ _ _ 50 _ _ _ _)
  refine R_iload_n dX12_votesOf_50 rfl (?_ : RR _ _ _ _ 51 _ _ _ _)
  refine R_cVi2 dX12_votesOf_51 mvX12_sitting mlX12_270 (by decide) (by decide) (Nat.le_of_ble_eq_true rfl) (Nat.le_of_ble_eq_true rfl) (T_X12_sitting (np := np) (by simp (disch := omega) only [rup_n]; exact hnp)) (?_ : RR _ _ _ _ 54 _ _ _ _)
  try simp (disch := omega) only [rup_rup, rup_sort, rupS_def, rup_s, rup_n, fup_fup, fup_s, fup_n]
  refine R_cSi1 dX12_votesOf_54 msJ6_bitCount_0f7a4 mlX12_273 (by decide) (Nat.le_of_ble_eq_true rfl) (Nat.le_of_ble_eq_true rfl) (T_J6_bitCount_0f7a4) (?_ : RR _ _ _ _ 57 _ _ _ _)
  try simp (disch := omega) only [rup_rup, rup_sort, rupS_def, rup_s, rup_n, fup_fup, fup_s, fup_n]
  rw [hcn]
  refine R_iast dX12_votesOf_57 (?_ : RR _ _ _ _ 58 _ _ _ _)
  try simp (disch := omega) only [rup_rup, rup_sort, rupS_def, rup_s, rup_n, fup_fup, fup_s, fup_n]
  refine R_aload_n dX12_votesOf_58 rfl (?_ : RR _ _ _ _ 59 _ _ _ _)
  refine R_getr dX12_votesOf_59 flX12_54 cok_12 rfl (by decide) (?_ : RR _ _ _ _ 62 _ _ _ _)
  refine R_iconst dX12_votesOf_62 (?_ : RR _ _ _ _ 63 _ _ _ _)
  refine R_iload dX12_votesOf_63 rfl (?_ : RR _ _ _ _ 65 _ _ _ _)
  refine R_ldc (z := 1000000) dX12_votesOf_65 kwX12_138 (?_ : RR _ _ _ _ 67 _ _ _ _)
  refine R_icmp_lt (t := 75) dX12_votesOf_67 rfl (fun c67 => ?_) (fun c67 => ?_)
  · refine R_iload dX12_votesOf_75 rfl (?_ : RR _ _ _ _ 77 _ _ _ _)
    exact K77 _ _ (by unfold thd nds; split <;> (split <;> first | omega | (exfalso; omega))) (by simp (disch := omega) only [fup_n, fup_s]) (by simp (disch := omega) only [fup_n, fup_s]) (by rw [fup_s])
  · refine R_bipush dX12_votesOf_70 rfl (?_ : RR _ _ _ _ 72 _ _ _ _)
    refine R_goto (t := 77) dX12_votesOf_72 rfl (?_ : RR _ _ _ _ 77 _ _ _ _)
    exact K77 _ _ (by unfold thd nds; split <;> (split <;> first | omega | (exfalso; omega))) (by simp (disch := omega) only [fup_n, fup_s]) (by simp (disch := omega) only [fup_n, fup_s]) (by rw [fup_s])
