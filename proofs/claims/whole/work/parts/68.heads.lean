section HD
variable {k : Nat} {h h3 h4 : Nat → Int → Int} {sem : Sem} {H np nc len r : Nat} {v : Int}
theorem M_runsBy {c : Int} (hB : MBk sem h r H np nc) (hc : 0 ≤ c ∧ c ≤ 2) : RR mX12_runsBy 7 0 0 0 (pm_ent [pR 147, pR r, pI c] 3) [] (shp0, rf0, h) (mPo r h (if c ≠ 2 ∧ 0 ≤ h 149 (2 * h r 0 + c) then c else 2, xRun (cxM sem h np nc) (h r) (xLn (cxM sem h np nc) (h r)) c)) := by
  obtain ⟨hX, hf, hm, hnp, hnc, hnow, hL, hr, hrb⟩ := hB
  obtain ⟨ord, len, hf'⟩ := id hf
  have hln := xLn_eq hf'
  have x3 : np ≤ 12 := hX.2.2.1
  have x4 : nc ≤ 6 := hX.2.2.2.1
  have x2 : H ≤ 9 := hX.2.1
  have f0 := hf'.1
  have fl : len ≤ nc := hf'.2.2.1
  have hle : sm (fun c => if 0 ≤ mP (h r) c then 1 else 0) nc = len := fOK_len hf'
  have hca : ∀ i : Nat, i < len → 0 ≤ caS (h r) i nc ∧ caS (h r) i nc < 6 := fun i hi => by
    have e : caS (h r) i nc = ord i := fOK_ca hf' hi
    have h1 := hf'.2.2.2.1 i hi
    have h2 : ord i < nc := h1.2.1
    rw [e]
    omega
  refine RR.post (T_X12_runsBy (sem := sem) (mOK_of hX hf') hm hnp hnc hle hca (by omega) hnow) (fun r' g' q => ?_)
  obtain ⟨h', rfl, q⟩ := q
  obtain ⟨p1, p2, p3, p4⟩ := ruP_rn q
  refine ⟨h', rfl, p1, ?_, ?_, fun j hj => by rw [p4, fup_n hj], ?_⟩
  · rw [p2, hln]
  · rw [p3]
    rfl
  · rw [p4, fup_s]
    have := or_64 (P := lefP (h r) (xAl (cxM sem h np nc) (h r) len c)) (L := 0) (n := nc) (by omega) x4
    rw [Nat.zero_or] at this
    have this : bset (lefP (h r) (xAl (cxM sem h np nc) (h r) len c)) (xC (cxM sem h np nc)) < 64 := this
    split <;> omega
theorem M_byHeads (hB : MBk sem h r H np nc) : RR mX12_byHeads 6 0 0 0 (pm_ent [pR 147, pR r] 7) [] (shp0, rf0, h) (fun r' g' => r' = some (pI (xCrs (cxM sem h np nc) (h r) 1)) ∧ ∃ h', g' = (shp0, rf0, h') ∧ ∀ a, a ≠ 160 → a ≠ 161 → a ≠ 162 → h' a = h a) := by
  obtain ⟨hX, hf, hm, hnp, hnc, hnow, hL, hr, hrb⟩ := hB
  obtain ⟨ord, len, hf'⟩ := id hf
  have x3 : np ≤ 12 := hX.2.2.1
  have x4 : nc ≤ 6 := hX.2.2.2.1
  have hk := mOK_of hX hf'
  have fl : len ≤ nc := hf'.2.2.1
  obtain ⟨X, hXe⟩ : ∃ X, X = cxM sem h np nc := ⟨_, rfl⟩
  obtain ⟨vt, hvt⟩ : ∃ vt : Nat → Int, vt = fun c : Nat => if 0 ≤ mP (h r) (c : Int) then xVote X (h r) (fun p => decide (mS (h r) p = (c : Int))) else -1 := ⟨_, rfl⟩
  obtain ⟨G, hG⟩ : ∃ G : Int → Nat → Int, G = fun j c => if vt c = j then 1 else 0 := ⟨_, rfl⟩
  have hGx : ∀ j : Int, 0 ≤ j → sm (G j) nc = xHd X (h r) j := fun j hj => by
    rw [show xHd X (h r) j = sm (fun c => if 0 ≤ mP (h r) c then (if xVote X (h r) (fun p => decide (mS (h r) p = (c : Int))) = j then 1 else 0) else 0) nc by rw [hXe]; rfl]
    refine sm_congr (fun c _ => ?_)
    rw [hG, hvt]
    show (if (if 0 ≤ mP (h r) (c : Int) then xVote X (h r) (fun p => decide (mS (h r) p = (c : Int))) else -1) = j then (1 : Int) else 0) = _
    by_cases q : 0 ≤ mP (h r) (c : Int)
    · rw [if_pos q, if_pos q]
    · rw [if_neg q, if_neg q, if_neg (by omega)]
  have hGb : ∀ (j : Int) (n : Nat), 0 ≤ sm (G j) n ∧ sm (G j) n ≤ 1 * n := fun j n => sm_b (by omega) (fun p => by rw [hG]; show 0 ≤ (if vt p = j then (1 : Int) else 0) ∧ (if vt p = j then (1 : Int) else 0) ≤ 1; split <;> omega) n
  suffices hS : ∀ Q : Option PV → PH → Prop, (∀ h', (∀ a, a ≠ 160 → a ≠ 161 → a ≠ 162 → h' a = h a) → Q (some (pI (xCrs X (h r) 1))) (shp0, rf0, h')) → RR mX12_byHeads 6 0 0 0 [pR 147, pR r, pU, pU, pU, pU, pU] [] (shp0, rf0, h) Q from hS _ (fun h' q => ⟨by rw [hXe], h', rfl, q⟩)
  intro Q hQ
  unfold xCrs at hQ
  rw [if_neg (by omega), ← hGx 0 (by omega), ← hGx 1 (by omega), ← hGx 2 (by omega)] at hQ
  have L : ∀ (j i : Nat) (h1 : Nat → Int → Int) (w : PV), i + j = nc → (∀ a, a ≠ 160 → a ≠ 161 → a ≠ 162 → h1 a = h a) → RR mX12_byHeads 6 0 0 10 [pR 147, pR r, pI (sm (G 0) i), pI (sm (G 1) i), pI (sm (G 2) i), pI i, w] [] (shp0, rf0, h1) Q := by
    intro j
    induction j with
    | zero =>
      intro i h1 w hi hf1
      obtain rfl : i = nc := by omega
      have g4 : h1 147 4 = i := by rw [hf1 147 (by omega) (by omega) (by omega)]; exact hnc
      have b0 := hGb 0 i
      have b1 := hGb 1 i
      have b2 := hGb 2 i
      have hq := hQ (rup h1 162 (fup (fup (fup (h1 162) 0 (sm (G 0) i)) 1 (sm (G 1) i)) 2 (sm (G 2) i))) (fun a a1 a2 a3 => by rw [rup_n a3]; exact hf1 a a1 a2 a3)
      refine R_iload dX12_byHeads_10 rfl (?_ : RR _ _ _ _ 12 _ _ _ _)
      refine R_aload_n dX12_byHeads_12 rfl (?_ : RR _ _ _ _ 13 _ _ _ _)
      refine R_geti (z := 4) dX12_byHeads_13 flX12_124 cok_12 rfl (by decide) rfl (fun q13 => (?_ : RR _ _ _ _ 16 _ _ _ _))
      try simp (disch := omega) only [rup_rup, rup_sort, rupS_def, rup_s, rup_n, fup_fup, fup_s, fup_n] at q13 ⊢
      rw [g4] at q13 ⊢
      refine R_icmp_ge (t := 99) dX12_byHeads_16 rfl (fun c16 => ?_) (fun c16 => ?_)
      rotate_left
      · exfalso; omega
      refine R_aload_n dX12_byHeads_99 rfl (?_ : RR _ _ _ _ 100 _ _ _ _)
      refine R_getr dX12_byHeads_100 flX12_57 cok_12 rfl (by decide) (?_ : RR _ _ _ _ 103 _ _ _ _)
      refine R_iconst dX12_byHeads_103 (?_ : RR _ _ _ _ 104 _ _ _ _)
      refine R_iload_n dX12_byHeads_104 rfl (?_ : RR _ _ _ _ 105 _ _ _ _)
      refine R_iast dX12_byHeads_105 (?_ : RR _ _ _ _ 106 _ _ _ _)
      try simp (disch := omega) only [rup_rup, rup_sort, rupS_def, rup_s, rup_n, fup_fup, fup_s, fup_n]
      refine R_aload_n dX12_byHeads_106 rfl (?_ : RR _ _ _ _ 107 _ _ _ _)
      refine R_getr dX12_byHeads_107 flX12_57 cok_12 rfl (by decide) (?_ : RR _ _ _ _ 110 _ _ _ _)
      refine R_iconst dX12_byHeads_110 (?_ : RR _ _ _ _ 111 _ _ _ _)
      refine R_iload_n dX12_byHeads_111 rfl (?_ : RR _ _ _ _ 112 _ _ _ _)
      refine R_iast dX12_byHeads_112 (?_ : RR _ _ _ _ 113 _ _ _ _)
      try simp (disch := omega) only [rup_rup, rup_sort, rupS_def, rup_s, rup_n, fup_fup, fup_s, fup_n]
      refine R_aload_n dX12_byHeads_113 rfl (?_ : RR _ _ _ _ 114 _ _ _ _)
      refine R_getr dX12_byHeads_114 flX12_57 cok_12 rfl (by decide) (?_ : RR _ _ _ _ 117 _ _ _ _)
      refine R_iconst dX12_byHeads_117 (?_ : RR _ _ _ _ 118 _ _ _ _)
      refine R_iload dX12_byHeads_118 rfl (?_ : RR _ _ _ _ 120 _ _ _ _)
      refine R_iast dX12_byHeads_120 (?_ : RR _ _ _ _ 121 _ _ _ _)
      try simp (disch := omega) only [rup_rup, rup_sort, rupS_def, rup_s, rup_n, fup_fup, fup_s, fup_n]
      refine R_aload_n dX12_byHeads_121 rfl (?_ : RR _ _ _ _ 122 _ _ _ _)
      refine R_cVi0 dX12_byHeads_122 mvX12_polled mlX12_300 (by decide) (by decide) (Nat.le_of_ble_eq_true rfl) (Nat.le_of_ble_eq_true rfl) (T_X12_polled (by simp (disch := omega) only [rup_s, fup_n, fup_s]; omega) (by simp (disch := omega) only [rup_s, fup_n, fup_s]; omega) (by simp (disch := omega) only [rup_s, fup_s]; omega)) (?_ : RR _ _ _ _ 125 _ _ _ _)
      try simp (disch := omega) only [rup_rup, rup_sort, rupS_def, rup_s, rup_n, fup_fup, fup_s, fup_n]
      try simp (disch := omega) only [rup_s, fup_n, fup_s]
      exact R_ireturn dX12_byHeads_125 trivial hq
    | succ j ih =>
      intro i h1 w hi hf1
      have g4 : h1 147 4 = nc := by rw [hf1 147 (by omega) (by omega) (by omega)]; exact hnc
      have g5 : h1 147 5 = np := by rw [hf1 147 (by omega) (by omega) (by omega)]; exact hnp
      have er : h1 r = h r := hf1 r (by omega) (by omega) (by omega)
      have hk1 : mOK h1 r np := mOK_fr hk (hf1 149 (by omega) (by omega) (by omega)) (hf1 150 (by omega) (by omega) (by omega)) (hf1 151 (by omega) (by omega) (by omega)) (hf1 152 (by omega) (by omega) (by omega)) er
      have hm1 : mrOK h1 sem := mrOK_fr hm (by rw [hf1 147 (by omega) (by omega) (by omega)]) (hf1 158 (by omega) (by omega) (by omega))
      have eX : cxM sem h1 np nc = X := by rw [hXe]; exact cxM_fr (fun a a1 a2 => hf1 a (by omega) (by omega) (by omega))
      have hvi : vt i = if 0 ≤ mP (h r) (i : Int) then xVote X (h r) (fun p => decide (mS (h r) p = (i : Int))) else -1 := by rw [hvt]
      have s0 : sm (G 0) (i + 1) = sm (G 0) i + (if vt i = 0 then 1 else 0) := by rw [hG]; rfl
      have s1 : sm (G 1) (i + 1) = sm (G 1) i + (if vt i = 1 then 1 else 0) := by rw [hG]; rfl
      have s2 : sm (G 2) (i + 1) = sm (G 2) i + (if vt i = 2 then 1 else 0) := by rw [hG]; rfl
      have K : ∀ h2 : Nat → Int → Int, (∀ a, a ≠ 160 → a ≠ 161 → a ≠ 162 → h2 a = h a) → RR mX12_byHeads 6 0 0 39 [pR 147, pR r, pI (sm (G 0) i), pI (sm (G 1) i), pI (sm (G 2) i), pI i, w] [pI (vt i)] (shp0, rf0, h2) Q := by
        intro h2 hf2
        have IH := fun w => ih (i + 1) h2 w (by omega) hf2
        rw [s0, s1, s2] at IH
        have hb : vt i = -1 ∨ vt i = 0 ∨ vt i = 1 ∨ vt i = 2 := by
          rw [hvi]
          have : 0 ≤ xVote X (h r) (fun p => decide (mS (h r) p = (i : Int))) ∧ xVote X (h r) (fun p => decide (mS (h r) p = (i : Int))) ≤ 2 := chS_b
          split <;> omega
        rcases hb with e | e | e | e
        · rw [e] at IH ⊢
          rw [if_neg (by omega), if_neg (by omega), if_neg (by omega)] at IH
          refine R_istore dX12_byHeads_39 (Nat.le_of_ble_eq_true rfl) (?_ : RR _ _ _ _ 41 [_, _, _, _, _, _, _] _ _ _)
          refine R_iload_n dX12_byHeads_41 rfl (?_ : RR _ _ _ _ 42 _ _ _ _)
          refine R_iload dX12_byHeads_42 rfl (?_ : RR _ _ _ _ 44 _ _ _ _)
          refine R_if_ne (t := 51) dX12_byHeads_44 rfl (fun c44 => ?_) (fun c44 => ?_)
          rotate_left
          · exfalso; omega
          refine R_iconst dX12_byHeads_51 (?_ : RR _ _ _ _ 52 _ _ _ _)
          refine R_cSi1 dX12_byHeads_52 msX12_flag mlX12_134 (by decide) (Nat.le_of_ble_eq_true rfl) (Nat.le_of_ble_eq_true rfl) (T_X12_flag) (?_ : RR _ _ _ _ 55 _ _ _ _)
          refine R_iadd dX12_byHeads_55 (?_ : RR _ _ _ _ 56 _ _ _ _)
          refine R_istore_n dX12_byHeads_56 (Nat.le_of_ble_eq_true rfl) (?_ : RR _ _ _ _ 57 [_, _, _, _, _, _, _] _ _ _)
          refine R_iload_n dX12_byHeads_57 rfl (?_ : RR _ _ _ _ 58 _ _ _ _)
          refine R_iload dX12_byHeads_58 rfl (?_ : RR _ _ _ _ 60 _ _ _ _)
          refine R_iconst dX12_byHeads_60 (?_ : RR _ _ _ _ 61 _ _ _ _)
          refine R_icmp_ne (t := 68) dX12_byHeads_61 rfl (fun c61 => ?_) (fun c61 => ?_)
          rotate_left
          · exfalso; omega
          refine R_iconst dX12_byHeads_68 (?_ : RR _ _ _ _ 69 _ _ _ _)
          refine R_cSi1 dX12_byHeads_69 msX12_flag mlX12_134 (by decide) (Nat.le_of_ble_eq_true rfl) (Nat.le_of_ble_eq_true rfl) (T_X12_flag) (?_ : RR _ _ _ _ 72 _ _ _ _)
          refine R_iadd dX12_byHeads_72 (?_ : RR _ _ _ _ 73 _ _ _ _)
          refine R_istore_n dX12_byHeads_73 (Nat.le_of_ble_eq_true rfl) (?_ : RR _ _ _ _ 74 [_, _, _, _, _, _, _] _ _ _)
          refine R_iload dX12_byHeads_74 rfl (?_ : RR _ _ _ _ 76 _ _ _ _)
          refine R_iload dX12_byHeads_76 rfl (?_ : RR _ _ _ _ 78 _ _ _ _)
          refine R_iconst dX12_byHeads_78 (?_ : RR _ _ _ _ 79 _ _ _ _)
          refine R_icmp_ne (t := 86) dX12_byHeads_79 rfl (fun c79 => ?_) (fun c79 => ?_)
          rotate_left
          · exfalso; omega
          refine R_iconst dX12_byHeads_86 (?_ : RR _ _ _ _ 87 _ _ _ _)
          refine R_cSi1 dX12_byHeads_87 msX12_flag mlX12_134 (by decide) (Nat.le_of_ble_eq_true rfl) (Nat.le_of_ble_eq_true rfl) (T_X12_flag) (?_ : RR _ _ _ _ 90 _ _ _ _)
          refine R_iadd dX12_byHeads_90 (?_ : RR _ _ _ _ 91 _ _ _ _)
          refine R_istore dX12_byHeads_91 (Nat.le_of_ble_eq_true rfl) (?_ : RR _ _ _ _ 93 [_, _, _, _, _, _, _] _ _ _)
          refine R_iinc dX12_byHeads_93 rfl (Nat.le_of_ble_eq_true rfl) (?_ : RR _ _ _ _ 96 [_, _, _, _, _, _, _] _ _ _)
          refine R_goto (t := 10) dX12_byHeads_96 rfl (?_ : RR _ _ _ _ 10 _ _ _ _)
          exact IH _
        · rw [e] at IH ⊢
          rw [if_pos rfl, if_neg (by omega), if_neg (by omega)] at IH
          refine R_istore dX12_byHeads_39 (Nat.le_of_ble_eq_true rfl) (?_ : RR _ _ _ _ 41 [_, _, _, _, _, _, _] _ _ _)
          refine R_iload_n dX12_byHeads_41 rfl (?_ : RR _ _ _ _ 42 _ _ _ _)
          refine R_iload dX12_byHeads_42 rfl (?_ : RR _ _ _ _ 44 _ _ _ _)
          refine R_if_ne (t := 51) dX12_byHeads_44 rfl (fun c44 => ?_) (fun c44 => ?_)
          · exfalso; omega
          refine R_iconst dX12_byHeads_47 (?_ : RR _ _ _ _ 48 _ _ _ _)
          refine R_goto (t := 52) dX12_byHeads_48 rfl (?_ : RR _ _ _ _ 52 _ _ _ _)
          refine R_cSi1 dX12_byHeads_52 msX12_flag mlX12_134 (by decide) (Nat.le_of_ble_eq_true rfl) (Nat.le_of_ble_eq_true rfl) (T_X12_flag) (?_ : RR _ _ _ _ 55 _ _ _ _)
          refine R_iadd dX12_byHeads_55 (?_ : RR _ _ _ _ 56 _ _ _ _)
          refine R_istore_n dX12_byHeads_56 (Nat.le_of_ble_eq_true rfl) (?_ : RR _ _ _ _ 57 [_, _, _, _, _, _, _] _ _ _)
          refine R_iload_n dX12_byHeads_57 rfl (?_ : RR _ _ _ _ 58 _ _ _ _)
          refine R_iload dX12_byHeads_58 rfl (?_ : RR _ _ _ _ 60 _ _ _ _)
          refine R_iconst dX12_byHeads_60 (?_ : RR _ _ _ _ 61 _ _ _ _)
          refine R_icmp_ne (t := 68) dX12_byHeads_61 rfl (fun c61 => ?_) (fun c61 => ?_)
          rotate_left
          · exfalso; omega
          refine R_iconst dX12_byHeads_68 (?_ : RR _ _ _ _ 69 _ _ _ _)
          refine R_cSi1 dX12_byHeads_69 msX12_flag mlX12_134 (by decide) (Nat.le_of_ble_eq_true rfl) (Nat.le_of_ble_eq_true rfl) (T_X12_flag) (?_ : RR _ _ _ _ 72 _ _ _ _)
          refine R_iadd dX12_byHeads_72 (?_ : RR _ _ _ _ 73 _ _ _ _)
          refine R_istore_n dX12_byHeads_73 (Nat.le_of_ble_eq_true rfl) (?_ : RR _ _ _ _ 74 [_, _, _, _, _, _, _] _ _ _)
          refine R_iload dX12_byHeads_74 rfl (?_ : RR _ _ _ _ 76 _ _ _ _)
          refine R_iload dX12_byHeads_76 rfl (?_ : RR _ _ _ _ 78 _ _ _ _)
          refine R_iconst dX12_byHeads_78 (?_ : RR _ _ _ _ 79 _ _ _ _)
          refine R_icmp_ne (t := 86) dX12_byHeads_79 rfl (fun c79 => ?_) (fun c79 => ?_)
          rotate_left
          · exfalso; omega
          refine R_iconst dX12_byHeads_86 (?_ : RR _ _ _ _ 87 _ _ _ _)
          refine R_cSi1 dX12_byHeads_87 msX12_flag mlX12_134 (by decide) (Nat.le_of_ble_eq_true rfl) (Nat.le_of_ble_eq_true rfl) (T_X12_flag) (?_ : RR _ _ _ _ 90 _ _ _ _)
          refine R_iadd dX12_byHeads_90 (?_ : RR _ _ _ _ 91 _ _ _ _)
          refine R_istore dX12_byHeads_91 (Nat.le_of_ble_eq_true rfl) (?_ : RR _ _ _ _ 93 [_, _, _, _, _, _, _] _ _ _)
          refine R_iinc dX12_byHeads_93 rfl (Nat.le_of_ble_eq_true rfl) (?_ : RR _ _ _ _ 96 [_, _, _, _, _, _, _] _ _ _)
          refine R_goto (t := 10) dX12_byHeads_96 rfl (?_ : RR _ _ _ _ 10 _ _ _ _)
          exact IH _
        · rw [e] at IH ⊢
          rw [if_neg (by omega), if_pos rfl, if_neg (by omega)] at IH
          refine R_istore dX12_byHeads_39 (Nat.le_of_ble_eq_true rfl) (?_ : RR _ _ _ _ 41 [_, _, _, _, _, _, _] _ _ _)
          refine R_iload_n dX12_byHeads_41 rfl (?_ : RR _ _ _ _ 42 _ _ _ _)
          refine R_iload dX12_byHeads_42 rfl (?_ : RR _ _ _ _ 44 _ _ _ _)
          refine R_if_ne (t := 51) dX12_byHeads_44 rfl (fun c44 => ?_) (fun c44 => ?_)
          rotate_left
          · exfalso; omega
          refine R_iconst dX12_byHeads_51 (?_ : RR _ _ _ _ 52 _ _ _ _)
          refine R_cSi1 dX12_byHeads_52 msX12_flag mlX12_134 (by decide) (Nat.le_of_ble_eq_true rfl) (Nat.le_of_ble_eq_true rfl) (T_X12_flag) (?_ : RR _ _ _ _ 55 _ _ _ _)
          refine R_iadd dX12_byHeads_55 (?_ : RR _ _ _ _ 56 _ _ _ _)
          refine R_istore_n dX12_byHeads_56 (Nat.le_of_ble_eq_true rfl) (?_ : RR _ _ _ _ 57 [_, _, _, _, _, _, _] _ _ _)
          refine R_iload_n dX12_byHeads_57 rfl (?_ : RR _ _ _ _ 58 _ _ _ _)
          refine R_iload dX12_byHeads_58 rfl (?_ : RR _ _ _ _ 60 _ _ _ _)
          refine R_iconst dX12_byHeads_60 (?_ : RR _ _ _ _ 61 _ _ _ _)
          refine R_icmp_ne (t := 68) dX12_byHeads_61 rfl (fun c61 => ?_) (fun c61 => ?_)
          · exfalso; omega
          refine R_iconst dX12_byHeads_64 (?_ : RR _ _ _ _ 65 _ _ _ _)
          refine R_goto (t := 69) dX12_byHeads_65 rfl (?_ : RR _ _ _ _ 69 _ _ _ _)
          refine R_cSi1 dX12_byHeads_69 msX12_flag mlX12_134 (by decide) (Nat.le_of_ble_eq_true rfl) (Nat.le_of_ble_eq_true rfl) (T_X12_flag) (?_ : RR _ _ _ _ 72 _ _ _ _)
          refine R_iadd dX12_byHeads_72 (?_ : RR _ _ _ _ 73 _ _ _ _)
          refine R_istore_n dX12_byHeads_73 (Nat.le_of_ble_eq_true rfl) (?_ : RR _ _ _ _ 74 [_, _, _, _, _, _, _] _ _ _)
          refine R_iload dX12_byHeads_74 rfl (?_ : RR _ _ _ _ 76 _ _ _ _)
          refine R_iload dX12_byHeads_76 rfl (?_ : RR _ _ _ _ 78 _ _ _ _)
          refine R_iconst dX12_byHeads_78 (?_ : RR _ _ _ _ 79 _ _ _ _)
          refine R_icmp_ne (t := 86) dX12_byHeads_79 rfl (fun c79 => ?_) (fun c79 => ?_)
          rotate_left
          · exfalso; omega
          refine R_iconst dX12_byHeads_86 (?_ : RR _ _ _ _ 87 _ _ _ _)
          refine R_cSi1 dX12_byHeads_87 msX12_flag mlX12_134 (by decide) (Nat.le_of_ble_eq_true rfl) (Nat.le_of_ble_eq_true rfl) (T_X12_flag) (?_ : RR _ _ _ _ 90 _ _ _ _)
          refine R_iadd dX12_byHeads_90 (?_ : RR _ _ _ _ 91 _ _ _ _)
          refine R_istore dX12_byHeads_91 (Nat.le_of_ble_eq_true rfl) (?_ : RR _ _ _ _ 93 [_, _, _, _, _, _, _] _ _ _)
          refine R_iinc dX12_byHeads_93 rfl (Nat.le_of_ble_eq_true rfl) (?_ : RR _ _ _ _ 96 [_, _, _, _, _, _, _] _ _ _)
          refine R_goto (t := 10) dX12_byHeads_96 rfl (?_ : RR _ _ _ _ 10 _ _ _ _)
          exact IH _
        · rw [e] at IH ⊢
          rw [if_neg (by omega), if_neg (by omega), if_pos rfl] at IH
          refine R_istore dX12_byHeads_39 (Nat.le_of_ble_eq_true rfl) (?_ : RR _ _ _ _ 41 [_, _, _, _, _, _, _] _ _ _)
          refine R_iload_n dX12_byHeads_41 rfl (?_ : RR _ _ _ _ 42 _ _ _ _)
          refine R_iload dX12_byHeads_42 rfl (?_ : RR _ _ _ _ 44 _ _ _ _)
          refine R_if_ne (t := 51) dX12_byHeads_44 rfl (fun c44 => ?_) (fun c44 => ?_)
          rotate_left
          · exfalso; omega
          refine R_iconst dX12_byHeads_51 (?_ : RR _ _ _ _ 52 _ _ _ _)
          refine R_cSi1 dX12_byHeads_52 msX12_flag mlX12_134 (by decide) (Nat.le_of_ble_eq_true rfl) (Nat.le_of_ble_eq_true rfl) (T_X12_flag) (?_ : RR _ _ _ _ 55 _ _ _ _)
          refine R_iadd dX12_byHeads_55 (?_ : RR _ _ _ _ 56 _ _ _ _)
          refine R_istore_n dX12_byHeads_56 (Nat.le_of_ble_eq_true rfl) (?_ : RR _ _ _ _ 57 [_, _, _, _, _, _, _] _ _ _)
          refine R_iload_n dX12_byHeads_57 rfl (?_ : RR _ _ _ _ 58 _ _ _ _)
          refine R_iload dX12_byHeads_58 rfl (?_ : RR _ _ _ _ 60 _ _ _ _)
          refine R_iconst dX12_byHeads_60 (?_ : RR _ _ _ _ 61 _ _ _ _)
          refine R_icmp_ne (t := 68) dX12_byHeads_61 rfl (fun c61 => ?_) (fun c61 => ?_)
          rotate_left
          · exfalso; omega
          refine R_iconst dX12_byHeads_68 (?_ : RR _ _ _ _ 69 _ _ _ _)
          refine R_cSi1 dX12_byHeads_69 msX12_flag mlX12_134 (by decide) (Nat.le_of_ble_eq_true rfl) (Nat.le_of_ble_eq_true rfl) (T_X12_flag) (?_ : RR _ _ _ _ 72 _ _ _ _)
          refine R_iadd dX12_byHeads_72 (?_ : RR _ _ _ _ 73 _ _ _ _)
          refine R_istore_n dX12_byHeads_73 (Nat.le_of_ble_eq_true rfl) (?_ : RR _ _ _ _ 74 [_, _, _, _, _, _, _] _ _ _)
          refine R_iload dX12_byHeads_74 rfl (?_ : RR _ _ _ _ 76 _ _ _ _)
          refine R_iload dX12_byHeads_76 rfl (?_ : RR _ _ _ _ 78 _ _ _ _)
          refine R_iconst dX12_byHeads_78 (?_ : RR _ _ _ _ 79 _ _ _ _)
          refine R_icmp_ne (t := 86) dX12_byHeads_79 rfl (fun c79 => ?_) (fun c79 => ?_)
          · exfalso; omega
          refine R_iconst dX12_byHeads_82 (?_ : RR _ _ _ _ 83 _ _ _ _)
          refine R_goto (t := 87) dX12_byHeads_83 rfl (?_ : RR _ _ _ _ 87 _ _ _ _)
          refine R_cSi1 dX12_byHeads_87 msX12_flag mlX12_134 (by decide) (Nat.le_of_ble_eq_true rfl) (Nat.le_of_ble_eq_true rfl) (T_X12_flag) (?_ : RR _ _ _ _ 90 _ _ _ _)
          refine R_iadd dX12_byHeads_90 (?_ : RR _ _ _ _ 91 _ _ _ _)
          refine R_istore dX12_byHeads_91 (Nat.le_of_ble_eq_true rfl) (?_ : RR _ _ _ _ 93 [_, _, _, _, _, _, _] _ _ _)
          refine R_iinc dX12_byHeads_93 rfl (Nat.le_of_ble_eq_true rfl) (?_ : RR _ _ _ _ 96 [_, _, _, _, _, _, _] _ _ _)
          refine R_goto (t := 10) dX12_byHeads_96 rfl (?_ : RR _ _ _ _ 10 _ _ _ _)
          exact IH _
      by_cases q : 0 ≤ mP (h r) (i : Int)
      · rw [if_pos q] at hvi
        have hmv : mvS sem h1 r np (fun p => decide (mS (h1 r) p = (i : Int))) = vt i := by
          rw [hvi, mvS_x (nc := nc), eX, er]
        have hmp := hf'.2.2.2.2.1 i (show i < nc by omega)
        refine R_iload dX12_byHeads_10 rfl (?_ : RR _ _ _ _ 12 _ _ _ _)
        refine R_aload_n dX12_byHeads_12 rfl (?_ : RR _ _ _ _ 13 _ _ _ _)
        refine R_geti (z := 4) dX12_byHeads_13 flX12_124 cok_12 rfl (by decide) rfl (fun q13 => (?_ : RR _ _ _ _ 16 _ _ _ _))
        rw [g4] at q13 ⊢
        refine R_icmp_ge (t := 99) dX12_byHeads_16 rfl (fun c16 => ?_) (fun c16 => ?_)
        · exfalso; omega
        refine R_aload_n dX12_byHeads_19 rfl (?_ : RR _ _ _ _ 20 _ _ _ _)
        refine R_iload dX12_byHeads_20 rfl (?_ : RR _ _ _ _ 22 _ _ _ _)
        refine R_cSi2 dX12_byHeads_22 msX12_placeOf mlX12_130 (by decide) (Nat.le_of_ble_eq_true rfl) (Nat.le_of_ble_eq_true rfl) (T_X12_placeOf) (?_ : RR _ _ _ _ 25 _ _ _ _)
        rw [er]
        refine R_if_ge (t := 32) dX12_byHeads_25 rfl (fun c25 => ?_) (fun c25 => ?_)
        rotate_left
        · exfalso; omega
        refine R_aload_n dX12_byHeads_32 rfl (?_ : RR _ _ _ _ 33 _ _ _ _)
        refine R_aload_n dX12_byHeads_33 rfl (?_ : RR _ _ _ _ 34 _ _ _ _)
        refine R_iload dX12_byHeads_34 rfl (?_ : RR _ _ _ _ 36 _ _ _ _)
        refine R_qV2 dX12_byHeads_36 mvX12_voteOf mlX12_322 (by decide) (by decide) (Nat.le_of_ble_eq_true rfl) (Nat.le_of_ble_eq_true rfl) (T_X12_voteOf (sem := sem) hk1 hm1 g5 (c := (i : Int))) (fun r9 g9 hq9 => (?_ : RR _ _ _ _ 39 _ _ _ _))
        obtain ⟨rfl, h2, rfl, hp2⟩ := hq9
        rw [hmv]
        show RR _ _ _ _ _ _ [pI (vt i)] _ _
        exact K h2 (fun a a1 a2 a3 => (hp2.1 a a1 a2 a3).trans (hf1 a a1 a2 a3))
      · rw [if_neg q] at hvi
        have K1 := K h1 hf1
        rw [hvi] at K1
        have hmp := hf'.2.2.2.2.1 i (show i < nc by omega)
        refine R_iload dX12_byHeads_10 rfl (?_ : RR _ _ _ _ 12 _ _ _ _)
        refine R_aload_n dX12_byHeads_12 rfl (?_ : RR _ _ _ _ 13 _ _ _ _)
        refine R_geti (z := 4) dX12_byHeads_13 flX12_124 cok_12 rfl (by decide) rfl (fun q13 => (?_ : RR _ _ _ _ 16 _ _ _ _))
        rw [g4] at q13 ⊢
        refine R_icmp_ge (t := 99) dX12_byHeads_16 rfl (fun c16 => ?_) (fun c16 => ?_)
        · exfalso; omega
        refine R_aload_n dX12_byHeads_19 rfl (?_ : RR _ _ _ _ 20 _ _ _ _)
        refine R_iload dX12_byHeads_20 rfl (?_ : RR _ _ _ _ 22 _ _ _ _)
        refine R_cSi2 dX12_byHeads_22 msX12_placeOf mlX12_130 (by decide) (Nat.le_of_ble_eq_true rfl) (Nat.le_of_ble_eq_true rfl) (T_X12_placeOf) (?_ : RR _ _ _ _ 25 _ _ _ _)
        rw [er]
        refine R_if_ge (t := 32) dX12_byHeads_25 rfl (fun c25 => ?_) (fun c25 => ?_)
        · exfalso; omega
        refine R_iconst dX12_byHeads_28 (?_ : RR _ _ _ _ 29 _ _ _ _)
        refine R_goto (t := 39) dX12_byHeads_29 rfl (?_ : RR _ _ _ _ 39 _ _ _ _)
        exact K1
  refine R_iconst dX12_byHeads_0 (?_ : RR _ _ _ _ 1 _ _ _ _)
  refine R_istore_n dX12_byHeads_1 (Nat.le_of_ble_eq_true rfl) (?_ : RR _ _ _ _ 2 [_, _, _, _, _, _, _] _ _ _)
  refine R_iconst dX12_byHeads_2 (?_ : RR _ _ _ _ 3 _ _ _ _)
  refine R_istore_n dX12_byHeads_3 (Nat.le_of_ble_eq_true rfl) (?_ : RR _ _ _ _ 4 [_, _, _, _, _, _, _] _ _ _)
  refine R_iconst dX12_byHeads_4 (?_ : RR _ _ _ _ 5 _ _ _ _)
  refine R_istore dX12_byHeads_5 (Nat.le_of_ble_eq_true rfl) (?_ : RR _ _ _ _ 7 [_, _, _, _, _, _, _] _ _ _)
  refine R_iconst dX12_byHeads_7 (?_ : RR _ _ _ _ 8 _ _ _ _)
  refine R_istore dX12_byHeads_8 (Nat.le_of_ble_eq_true rfl) (?_ : RR _ _ _ _ 10 [_, _, _, _, _, _, _] _ _ _)
  exact L nc 0 h _ (by omega) (fun _ _ _ _ => rfl)
theorem A_heads (hs : SRx k h sem H np nc len) (hk : k ≤ 1000) (hv : r32 v) : AG mX11_heads mX12_heads 7 8 [pI v] k h := by
  have x6 := sR6 hs
  have x12 := sR12 hs
  have hX := hs.1.2.2.2.2.1
  have hn := hs.2.2.2.1.2.1
  have hc := hs.2.2.2.1.1
  by_cases q : 1 ≤ v ∧ v ≤ 30
  · obtain ⟨m, rfl⟩ := Int.eq_ofNat_of_zero_le (show 0 ≤ v by omega)
    have hm : m ≤ 30 := by omega
    obtain ⟨X, hXe⟩ : ∃ X, X = cxM sem h np nc := ⟨_, rfl⟩
    obtain ⟨f', hf'⟩ : ∃ f', f' = xIt X 1 m (h 154) := ⟨_, rfl⟩
    have hb1 := oMn_b (X := X) (f := f') (by rw [hXe]; exact x12)
    have hb2 := oMn_b (X := X) (f := h 154) (by rw [hXe]; exact x12)
    refine A_q hs (z := oMn X f' - oMn X (h 154)) (o := some [f' 0]) ?_ (fun h3 e => ?_) (fun L e => by injection e with e; subst e; exact (by omega : 1 ≤ 12))
    · show RR _ _ _ _ _ [pR 0, pI m, pU] _ _ _
      have t14 := isTr_14
      have t24 := isTr_24
      obtain ⟨k1, k2, k3, k4⟩ := tri hs
      have hpo := C_outMoreIn (m := m) (bh := 1) hX k3 k1 k2 (by omega) (by omega) (by omega) k4
      rw [← hXe, ← hf'] at hpo
      have K : ∀ (h2 : Nat → Int → Int) (len2 : Nat), onF 24 29 (trC h 24 14) h2 → Cpl X H h2 24 f' len2 → RR mX11_heads 7 0 0 38 [pR 0, pI m, pU] [pI (oMn X f' - oMn X (h 154))] (shp0, rf0, h2) (cQ h (oMn X f' - oMn X (h 154)) (some [f' 0])) := by
        intro h2 len2 hf2 hc2
        have g1 := hc2.2.1
        refine R_istore_n dX11_heads_38 (Nat.le_of_ble_eq_true rfl) (?_ : RR _ _ _ _ 39 [_, _, _] _ _ _)
        refine R_aload_n dX11_heads_39 rfl (?_ : RR _ _ _ _ 40 _ _ _ _)
        refine R_getr dX11_heads_40 flX11_87 cok_11 rfl (by decide) (?_ : RR _ _ _ _ 43 _ _ _ _)
        refine R_cVv0 dX11_heads_43 mvX3_clear mlX11_239 (by decide) (by decide) (Nat.le_of_ble_eq_true rfl) (Nat.le_of_ble_eq_true rfl) (T_tlc) (?_ : RR _ _ _ _ 46 _ _ _ _)
        refine R_aload_n dX11_heads_46 rfl (?_ : RR _ _ _ _ 47 _ _ _ _)
        refine R_getr dX11_heads_47 flX11_87 cok_11 rfl (by decide) (?_ : RR _ _ _ _ 50 _ _ _ _)
        refine R_aload_n dX11_heads_50 rfl (?_ : RR _ _ _ _ 51 _ _ _ _)
        refine R_getr dX11_heads_51 flX11_43 cok_11 rfl (by decide) (?_ : RR _ _ _ _ 54 _ _ _ _)
        refine R_geti (z := 0) dX11_heads_54 flX11_171 cok_9 rfl (by decide) rfl (fun q54 => (?_ : RR _ _ _ _ 57 _ _ _ _))
        rw [tlR_n (by omega) (by omega), g1] at q54 ⊢
        refine R_i2l dX11_heads_57 (by first | assumption | omega) (?_ : RR _ _ _ _ 58 _ _ _ _)
        refine R_cVv1 dX11_heads_58 mvX3_add mlX11_243 (by decide) (by decide) (Nat.le_of_ble_eq_true rfl) (Nat.le_of_ble_eq_true rfl) (T_tla (by simp) (by omega)) (?_ : RR _ _ _ _ 61 _ _ _ _)
        refine R_iload_n dX11_heads_61 rfl (?_ : RR _ _ _ _ 62 _ _ _ _)
        exact R_ireturn dX11_heads_62 trivial (cQ_tl (cq_on hf2 (fun _ _ _ => rfl)) rfl)
      refine R_iload_n dX11_heads_0 rfl (?_ : RR _ _ _ _ 1 _ _ _ _)
      refine R_iconst dX11_heads_1 (?_ : RR _ _ _ _ 2 _ _ _ _)
      refine R_icmp_lt (t := 11) dX11_heads_2 rfl (fun c2 => ?_) (fun c2 => ?_)
      · exfalso; omega
      refine R_iload_n dX11_heads_5 rfl (?_ : RR _ _ _ _ 6 _ _ _ _)
      refine R_bipush dX11_heads_6 rfl (?_ : RR _ _ _ _ 8 _ _ _ _)
      refine R_icmp_le (t := 13) dX11_heads_8 rfl (fun c8 => ?_) (fun c8 => ?_)
      rotate_left
      · exfalso; omega
      refine R_aload_n dX11_heads_13 rfl (?_ : RR _ _ _ _ 14 _ _ _ _)
      refine R_getr dX11_heads_14 flX11_43 cok_11 rfl (by decide) (?_ : RR _ _ _ _ 17 _ _ _ _)
      refine R_aload_n dX11_heads_17 rfl (?_ : RR _ _ _ _ 18 _ _ _ _)
      refine R_getr dX11_heads_18 flX11_36 cok_11 rfl (by decide) (?_ : RR _ _ _ _ 21 _ _ _ _)
      refine R_cVv1 dX11_heads_21 mvX9_copyFrom mlX11_231 (by decide) (by decide) (Nat.le_of_ble_eq_true rfl) (Nat.le_of_ble_eq_true rfl) (T_X9_copyFrom) (?_ : RR _ _ _ _ 24 _ _ _ _)
      refine R_aload_n dX11_heads_24 rfl (?_ : RR _ _ _ _ 25 _ _ _ _)
      refine R_iload_n dX11_heads_25 rfl (?_ : RR _ _ _ _ 26 _ _ _ _)
      refine R_aload_n dX11_heads_26 rfl (?_ : RR _ _ _ _ 27 _ _ _ _)
      refine R_getr dX11_heads_27 flX11_19 cok_11 rfl (by decide) (?_ : RR _ _ _ _ 30 _ _ _ _)
      refine R_aload_n dX11_heads_30 rfl (?_ : RR _ _ _ _ 31 _ _ _ _)
      refine R_getr dX11_heads_31 flX11_49 cok_11 rfl (by decide) (?_ : RR _ _ _ _ 34 _ _ _ _)
      refine R_iconst dX11_heads_34 (?_ : RR _ _ _ _ 35 _ _ _ _)
      refine R_qV4 dX11_heads_35 mvX11_outMoreIn mlX11_308 (by decide) (by decide) (Nat.le_of_ble_eq_true rfl) (Nat.le_of_ble_eq_true rfl) (hpo) (fun r9 g9 hq9 => (?_ : RR _ _ _ _ 38 _ _ _ _))
      obtain ⟨rfl, h2, len2, rfl, hf2, hc2⟩ := hq9
      show RR _ _ _ _ _ _ [pI _] _ _
      exact K h2 len2 hf2 hc2
    · show RR _ _ _ _ _ [pR 147, pI m, pU] _ _ _
      obtain ⟨h4, h4e⟩ : ∃ h4, h4 = rup (rup h3 147 (fup (h3 147) 0 0)) 155 (h3 154) := ⟨_, rfl⟩
      obtain ⟨hB, eX, e155, e154⟩ := mtri hs hk e h4e
      have hok : okF X H (h 154) := by rw [hXe]; exact okF_c hc
      have hX' : xOK X H := by rw [hXe]; exact hX
      have hXP : xP X = np := by rw [hXe]; rfl
      have r154 := isRw_154
      have r155 := isRw_155
      have L : ∀ (j i : Nat) (h1 : Nat → Int → Int), i + j = m → tnF h4 h1 → h1 155 = xIt X 1 i (h 154) → RR mX12_heads 8 0 0 25 [pR 147, pI m, pI i] [] (shp0, rf0, h1) (mQ h3 (oMn X f' - oMn X (h 154)) (some [f' 0])) := by
        intro j
        induction j with
        | zero =>
          intro i h1 hi hf1 he
          obtain rfl : i = m := by omega
          rw [← hf'] at he
          have g5 : h1 147 5 = np := by rw [hf1.2.1 5 (by omega), h4e, rup_n (by omega), rup_s, fup_n (by omega), e 147 (by omega)]; exact hs.1.2.2.1
          have h154 : h1 154 = h 154 := by rw [hf1.1 154 (by omega) (by omega) (by omega) (by omega) (by omega)]; exact e154
          have hoo : oor f' (h 154) := by rw [hf']; exact xIt_oor (by rw [hXe]; exact x6) (by rw [hXe]; exact x12) _ _
          have hq := mQ_tm (z := oMn X f' - oMn X (h 154)) (L := [f' 0]) (mq_tn hs e h4e hf1 (by rw [he]; exact hoo)) rfl
          unfold oMn at hq hb1 hb2 ⊢
          rw [hXP] at hq hb1 hb2 ⊢
          refine R_iload_n dX12_heads_25 rfl (?_ : RR _ _ _ _ 26 _ _ _ _)
          refine R_iload_n dX12_heads_26 rfl (?_ : RR _ _ _ _ 27 _ _ _ _)
          refine R_icmp_ge (t := 53) dX12_heads_27 rfl (fun c27 => ?_) (fun c27 => ?_)
          rotate_left
          · exfalso; omega
          refine R_aload_n dX12_heads_53 rfl (?_ : RR _ _ _ _ 54 _ _ _ _)
          refine R_iconst dX12_heads_54 (?_ : RR _ _ _ _ 55 _ _ _ _)
          refine R_puti (zk := 1) dX12_heads_55 flX12_113 cok_12 (by decide) (fun q hq => by cases hq; rfl) rfl (?_ : RR _ _ _ _ 58 _ _ _ _)
          show RR _ _ _ _ _ _ _ (shp0, rf0, tmR h1 []) _
          refine R_aload_n dX12_heads_58 rfl (?_ : RR _ _ _ _ 59 _ _ _ _)
          refine R_aload_n dX12_heads_59 rfl (?_ : RR _ _ _ _ 60 _ _ _ _)
          refine R_getr dX12_heads_60 flX12_36 cok_12 rfl (by decide) (?_ : RR _ _ _ _ 63 _ _ _ _)
          refine R_iconst dX12_heads_63 (?_ : RR _ _ _ _ 64 _ _ _ _)
          refine R_iald dX12_heads_64 (fun q64 => (?_ : RR _ _ _ _ 65 _ _ _ _))
          rw [tmR_n (by omega) (by omega), he] at q64 ⊢
          refine R_i2l dX12_heads_65 (by first | assumption | omega) (?_ : RR _ _ _ _ 66 _ _ _ _)
          refine R_cVv1 dX12_heads_66 mvX12_enters mlX12_116 (by decide) (by decide) (Nat.le_of_ble_eq_true rfl) (Nat.le_of_ble_eq_true rfl) (T_tma (by simp) (by omega)) (?_ : RR _ _ _ _ 69 _ _ _ _)
          refine R_aload_n dX12_heads_69 rfl (?_ : RR _ _ _ _ 70 _ _ _ _)
          refine R_aload_n dX12_heads_70 rfl (?_ : RR _ _ _ _ 71 _ _ _ _)
          refine R_getr dX12_heads_71 flX12_36 cok_12 rfl (by decide) (?_ : RR _ _ _ _ 74 _ _ _ _)
          refine R_cVi1 dX12_heads_74 mvX12_outMany mlX12_410 (by decide) (by decide) (Nat.le_of_ble_eq_true rfl) (Nat.le_of_ble_eq_true rfl) (T_X12_outMany (np := np) (by rw [tmR_j (by omega)]; exact g5)) (?_ : RR _ _ _ _ 77 _ _ _ _)
          rw [tmR_n (by omega) (by omega), he]
          refine R_aload_n dX12_heads_77 rfl (?_ : RR _ _ _ _ 78 _ _ _ _)
          refine R_aload_n dX12_heads_78 rfl (?_ : RR _ _ _ _ 79 _ _ _ _)
          refine R_getr dX12_heads_79 flX12_33 cok_12 rfl (by decide) (?_ : RR _ _ _ _ 82 _ _ _ _)
          refine R_cVi1 dX12_heads_82 mvX12_outMany mlX12_410 (by decide) (by decide) (Nat.le_of_ble_eq_true rfl) (Nat.le_of_ble_eq_true rfl) (T_X12_outMany (np := np) (by rw [tmR_j (by omega)]; exact g5)) (?_ : RR _ _ _ _ 85 _ _ _ _)
          rw [tmR_n (by omega) (by omega), h154]
          refine R_isub dX12_heads_85 (?_ : RR _ _ _ _ 86 _ _ _ _)
          exact R_ireturn dX12_heads_86 trivial hq
        | succ j ih =>
          intro i h1 hi hf1 he
          have ho1 := ok_it (bh := 1) hX' i (h 154) hok
          have hn1 := xIt_1 (bh := 1) hX' i (h 154) hok
          obtain ⟨hB1, eX1⟩ := MBk_tn (f := xIt X 1 i (h 154)) hB hf1 he (by rw [eX, ← hXe]; exact ho1) (by omega)
          have hT1 := M_byHeads hB1
          have e1X : cxM sem h1 np nc = X := by rw [eX1, eX, ← hXe]
          rw [e1X, he] at hT1
          obtain ⟨c, hcc⟩ : ∃ c, c = xCrs X (xIt X 1 i (h 154)) 1 := ⟨_, rfl⟩
          have hcb := xCrs_b (X := X) (f := xIt X 1 i (h 154)) (bh := 1)
          rw [← hcc] at hT1 hcb
          have K : ∀ h2 : Nat → Int → Int, (∀ a, a ≠ 160 → a ≠ 161 → a ≠ 162 → h2 a = h1 a) → RR mX12_heads 8 0 0 43 [pR 147, pI m, pI i] [pI c, pR 155, pR 147] (shp0, rf0, h2) (mQ h3 (oMn X f' - oMn X (h 154)) (some [f' 0])) := by
            intro h2 hf2
            have hf12 : tnF h1 h2 := ⟨fun a a1 a2 a3 a4 a5 => hf2 a a3 a4 a5, fun j hj => by rw [hf2 147 (by omega) (by omega) (by omega)], by rw [hf2 147 (by omega) (by omega) (by omega)]; exact hf1.2.2⟩
            have e2 : h2 155 = xIt X 1 i (h 154) := by rw [hf2 155 (by omega) (by omega) (by omega)]; exact he
            obtain ⟨hB2, eX2⟩ := MBk_tn (f := xIt X 1 i (h 154)) hB1 hf12 e2 (by rw [e1X]; exact ho1) (by omega)
            have hT2 := M_runsBy hB2 hcb
            rw [eX2, e1X, e2] at hT2
            refine R_qV2 dX12_heads_43 mvX12_runsBy mlX12_361 (by decide) (by decide) (Nat.le_of_ble_eq_true rfl) (Nat.le_of_ble_eq_true rfl) (hT2) (fun r9 g9 hq9 => (?_ : RR _ _ _ _ 46 _ _ _ _))
            obtain ⟨h5, rfl, m1, m2, rfl, m3, m4⟩ := hq9
            show RR _ _ _ _ _ _ [pI _] _ _
            refine R_pop dX12_heads_46 (fun _ => rfl) (?_ : RR _ _ _ _ 47 _ _ _ _)
            refine R_iinc dX12_heads_47 rfl (Nat.le_of_ble_eq_true rfl) (?_ : RR _ _ _ _ 50 [_, _, _] _ _ _)
            refine R_goto (t := 25) dX12_heads_50 rfl (?_ : RR _ _ _ _ 25 _ _ _ _)
            exact ih (i + 1) h5 (by omega) (tnF_tr (tnF_tr hf1 hf12) ⟨m1, m3, m4⟩) (by rw [m2, xIt_s]; unfold xStep; rw [← hcc])
          refine R_iload_n dX12_heads_25 rfl (?_ : RR _ _ _ _ 26 _ _ _ _)
          refine R_iload_n dX12_heads_26 rfl (?_ : RR _ _ _ _ 27 _ _ _ _)
          refine R_icmp_ge (t := 53) dX12_heads_27 rfl (fun c27 => ?_) (fun c27 => ?_)
          · exfalso; omega
          refine R_aload_n dX12_heads_30 rfl (?_ : RR _ _ _ _ 31 _ _ _ _)
          refine R_aload_n dX12_heads_31 rfl (?_ : RR _ _ _ _ 32 _ _ _ _)
          refine R_getr dX12_heads_32 flX12_36 cok_12 rfl (by decide) (?_ : RR _ _ _ _ 35 _ _ _ _)
          refine R_aload_n dX12_heads_35 rfl (?_ : RR _ _ _ _ 36 _ _ _ _)
          refine R_aload_n dX12_heads_36 rfl (?_ : RR _ _ _ _ 37 _ _ _ _)
          refine R_getr dX12_heads_37 flX12_36 cok_12 rfl (by decide) (?_ : RR _ _ _ _ 40 _ _ _ _)
          refine R_qV1 dX12_heads_40 mvX12_byHeads mlX12_442 (by decide) (by decide) (Nat.le_of_ble_eq_true rfl) (Nat.le_of_ble_eq_true rfl) (hT1) (fun r9 g9 hq9 => (?_ : RR _ _ _ _ 43 _ _ _ _))
          obtain ⟨rfl, h2, rfl, hf2⟩ := hq9
          show RR _ _ _ _ _ _ [pI c, pR 155, pR 147] _ _
          exact K h2 hf2
      refine R_aload_n dX12_heads_0 rfl (?_ : RR _ _ _ _ 1 _ _ _ _)
      refine R_iconst dX12_heads_1 (?_ : RR _ _ _ _ 2 _ _ _ _)
      refine R_puti (zk := 0) dX12_heads_2 flX12_106 cok_12 (by decide) (fun q hq => by cases hq; rfl) rfl (?_ : RR _ _ _ _ 5 _ _ _ _)
      refine R_iload_n dX12_heads_5 rfl (?_ : RR _ _ _ _ 6 _ _ _ _)
      refine R_i2l dX12_heads_6 (by first | assumption | omega) (?_ : RR _ _ _ _ 7 _ _ _ _)
      refine R_lconst (z := 1) dX12_heads_7 rfl (?_ : RR _ _ _ _ 8 _ _ _ _)
      refine R_ldc2 (z := 30) dX12_heads_8 klX12_413 (?_ : RR _ _ _ _ 11 _ _ _ _)
      refine R_cSi3 dX12_heads_11 msX12_in mlX12_120 (by decide) (Nat.le_of_ble_eq_true rfl) (Nat.le_of_ble_eq_true rfl) (T_X12_in) (?_ : RR _ _ _ _ 14 _ _ _ _)
      rw [if_pos q]
      refine R_if_ne (t := 19) dX12_heads_14 rfl (fun c14 => ?_) (fun c14 => ?_)
      rotate_left
      · exfalso; omega
      refine R_aload_n dX12_heads_19 rfl (?_ : RR _ _ _ _ 20 _ _ _ _)
      refine R_cVv0 dX12_heads_20 mvX12_puts mlX12_407 (by decide) (by decide) (Nat.le_of_ble_eq_true rfl) (Nat.le_of_ble_eq_true rfl) (T_X12_puts (puts_oor hs e)) (?_ : RR _ _ _ _ 23 _ _ _ _)
      simp (disch := omega) only [rup_n]
      rw [← h4e]
      refine R_iconst dX12_heads_23 (?_ : RR _ _ _ _ 24 _ _ _ _)
      refine R_istore_n dX12_heads_24 (Nat.le_of_ble_eq_true rfl) (?_ : RR _ _ _ _ 25 [_, _, _] _ _ _)
      exact L m 0 h4 (by omega) ⟨fun _ _ _ _ _ _ => rfl, fun _ _ => rfl, hB.2.2.2.2.2.2.1⟩ e155
  · refine A_q hs (z := -1) (o := none) (cQ_no (M := mX11_heads) (d := 7) (As := [pR 0, pI v]) (MT.of (fun Q hQ => (?_ : RR mX11_heads _ _ _ _ [pR 0, pI v, pU] _ _ _)))) (fun h3 e => mQ_thr (M := mX12_heads) (d := 8) (As := [pR 147, pI v]) (MT.of (fun Q hQ => (?_ : RR mX12_heads _ _ _ _ [pR 147, pI v, pU] _ _ _)))) (fun L e => by cases e)
    · refine R_iload_n dX11_heads_0 rfl (?_ : RR _ _ _ _ 1 _ _ _ _)
      refine R_iconst dX11_heads_1 (?_ : RR _ _ _ _ 2 _ _ _ _)
      refine R_icmp_lt (t := 11) dX11_heads_2 rfl (fun c2 => ?_) (fun c2 => ?_)
      · first
        | (exfalso; omega)
        | (refine R_iconst dX11_heads_11 (?_ : RR _ _ _ _ 12 _ _ _ _)
           exact R_ireturn dX11_heads_12 trivial hQ)
      · first
        | (exfalso; omega)
        | (refine R_iload_n dX11_heads_5 rfl (?_ : RR _ _ _ _ 6 _ _ _ _)
           refine R_bipush dX11_heads_6 rfl (?_ : RR _ _ _ _ 8 _ _ _ _)
           refine R_icmp_le (t := 13) dX11_heads_8 rfl (fun c8 => ?_) (fun c8 => ?_)
           · first
             | (exfalso; omega)
             | (exfalso; omega)
           · first
             | (exfalso; omega)
             | (refine R_iconst dX11_heads_11 (?_ : RR _ _ _ _ 12 _ _ _ _)
                exact R_ireturn dX11_heads_12 trivial hQ))
    · refine R_aload_n dX12_heads_0 rfl (?_ : RR _ _ _ _ 1 _ _ _ _)
      refine R_iconst dX12_heads_1 (?_ : RR _ _ _ _ 2 _ _ _ _)
      refine R_puti (zk := 0) dX12_heads_2 flX12_106 cok_12 (by decide) (fun q hq => by cases hq; rfl) rfl (?_ : RR _ _ _ _ 5 _ _ _ _)
      try simp (disch := omega) only [rup_rup, rup_sort, rupS_def, rup_s, rup_n, fup_fup, fup_s, fup_n]
      refine R_iload_n dX12_heads_5 rfl (?_ : RR _ _ _ _ 6 _ _ _ _)
      refine R_i2l dX12_heads_6 (by first | assumption | omega) (?_ : RR _ _ _ _ 7 _ _ _ _)
      refine R_lconst (z := 1) dX12_heads_7 rfl (?_ : RR _ _ _ _ 8 _ _ _ _)
      refine R_ldc2 (z := 30) dX12_heads_8 klX12_413 (?_ : RR _ _ _ _ 11 _ _ _ _)
      refine R_cSi3 dX12_heads_11 msX12_in mlX12_120 (by decide) (Nat.le_of_ble_eq_true rfl) (Nat.le_of_ble_eq_true rfl) (T_X12_in) (?_ : RR _ _ _ _ 14 _ _ _ _)
      try simp (disch := omega) only [rup_rup, rup_sort, rupS_def, rup_s, rup_n, fup_fup, fup_s, fup_n]
      rw [if_neg q]
      refine R_if_ne (t := 19) dX12_heads_14 rfl (fun c14 => ?_) (fun c14 => ?_)
      · exfalso; omega
      refine R_iconst dX12_heads_17 (?_ : RR _ _ _ _ 18 _ _ _ _)
      exact R_ireturn dX12_heads_18 trivial hQ
end HD
