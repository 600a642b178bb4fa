section SH
variable {k : Nat} {h g h1 h2 h3 h4 : Nat → Int → Int} {sem : Sem} {H np nc len : Nat} {v w a b : Int}
/-- one that changes ranks -/
theorem SR_r (hs : SRx k h sem H np nc len) (hF : gF (fun a => a = 13 ∨ a = 153) h g) (hR : ∀ p : Nat, p < np → g 13 p = g 153 p) (hD : SD g) : SR (k + 1) g := by
  obtain ⟨s1, s2, s3, s4, s5, s6⟩ := id hs
  have e : ∀ a, ¬ scr a → a ≠ 13 → a ≠ 153 → g a = h a := fun a q1 q2 q3 => hF.1 a q1 (by omega)
  have ej : ∀ j : Nat, (j = 3 ∨ j = 4 ∨ j = 5 ∨ j = 6 ∨ j = 15 ∨ j = 23 ∨ j = 28 ∨ j = 40) → g 147 j = h 147 j := fun j q => hF.2.1 j q (by omega)
  have eX : cxM sem g np nc = (sem, h 149, h 150, h 151, h 152, g 153, np, nc) := by
    unfold cxM
    rw [e 149 (by omega) (by omega) (by omega), e 150 (by omega) (by omega) (by omega), e 151 (by omega) (by omega) (by omega), e 152 (by omega) (by omega) (by omega)]
  obtain ⟨b1, b2, b3, b4, b5, b6, b7, b8, b9, b10, b11⟩ := s1
  refine ⟨sem, H, np, nc, len, ⟨?_, ?_, ?_, ?_, ?_, ?_, ?_, ?_, ?_, ?_, b11⟩, gA hF s2 (fun a q z => by omega), hD, ?_, gS hF s5 (fun a q z => by omega), gP hF s6 (fun a q z => by omega)⟩
  · exact (ej 3 (by omega)).trans b1
  · exact (ej 4 (by omega)).trans b2
  · exact (ej 5 (by omega)).trans b3
  · rw [e 3 (by omega) (by omega) (by omega)]; exact b4
  · rw [eX]; exact b5
  · rw [e 149 (by omega) (by omega) (by omega), e 150 (by omega) (by omega) (by omega), e 151 (by omega) (by omega) (by omega)]; exact b6
  · rw [eX]
    obtain ⟨c1, c2, c3, c4, c5, c6, c7⟩ := b7
    unfold CO NetC RidC ruOK
    rw [e (3 + 1) (by omega) (by omega) (by omega), e (3 + 2) (by omega) (by omega) (by omega), e (3 + 3) (by omega) (by omega) (by omega), e 11 (by omega) (by omega) (by omega), e 12 (by omega) (by omega) (by omega), e 29 (by omega) (by omega) (by omega), e (29 + 1) (by omega) (by omega) (by omega)]
    exact ⟨c1, ⟨c2.1, fun p hp => ⟨(c2.2 p hp).1, hR p hp⟩⟩, c3, c4, c5, c6, c7⟩
  · exact mrOK_fr b8 (ej 23 (by omega)) (e 158 (by omega) (by omega) (by omega))
  · rw [e 29 (by omega) (by omega) (by omega)]; exact b9
  · rw [e 29 (by omega) (by omega) (by omega)]; exact b10
  · rw [eX]
    exact gT (X := cxM sem h np nc) hF s4 (sR6 hs) (sR12 hs) rfl rfl (fun _ _ => rfl) (gU (X := cxM sem h np nc) hF (SU_un s4) (sR6 hs) (sR12 hs) rfl rfl (fun _ _ => rfl) (fun a q z => by omega)) (gK (X := cxM sem h np nc) hF (SU_kp s4) (sR6 hs) (sR12 hs) rfl rfl (fun _ _ => rfl) (fun a q z => by omega)) (fun a q z => by omega)
/-- an entry of a sheet, as it is held, put to 1 .. 9 -/
def enS (kd f st : Int) (i : Nat) : Int := if kd = 0 then iB (f + i * st) else if kd = 1 then iS (f + i * st) else f + i * st
def rkS (kd n f st : Int) (i : Int) : Int := if kd = 3 ∨ n ≤ i then 1 else max 1 (min 9 (w32 (enS kd f st i.toNat)))
theorem rkS_b {kd n f st i : Int} : 1 ≤ rkS kd n f st i ∧ rkS kd n f st i ≤ 9 := by
  unfold rkS
  split <;> omega
theorem T_X11_entryOf {kd z : Int} (hk : r32 kd) : MT mX11_entryOf 0 [pI kd, pI z] h (some (pI (if kd = 0 then iB z else if kd = 1 then iS z else z))) h := by
  refine MT.of (fun Q hQ => (?_ : RR mX11_entryOf _ _ _ _ [pI kd, pI z] _ _ _))
  by_cases q0 : kd = 0
  · rw [if_pos q0] at hQ
    refine R_iload_n dX11_entryOf_0 rfl (?_ : RR _ _ _ _ 1 _ _ _ _)
    refine R_if_ne (t := 7) dX11_entryOf_1 rfl (fun c1 => ?_) (fun c1 => ?_)
    · exfalso; omega
    refine R_iload_n dX11_entryOf_4 rfl (?_ : RR _ _ _ _ 5 _ _ _ _)
    refine R_i2b dX11_entryOf_5 (?_ : RR _ _ _ _ 6 _ _ _ _)
    exact R_ireturn dX11_entryOf_6 trivial hQ
  · rw [if_neg q0] at hQ
    by_cases q1 : kd = 1
    · rw [if_pos q1] at hQ
      refine R_iload_n dX11_entryOf_0 rfl (?_ : RR _ _ _ _ 1 _ _ _ _)
      refine R_if_ne (t := 7) dX11_entryOf_1 rfl (fun c1 => ?_) (fun c1 => ?_)
      rotate_left
      · exfalso; omega
      refine R_iload_n dX11_entryOf_7 rfl (?_ : RR _ _ _ _ 8 _ _ _ _)
      refine R_iconst dX11_entryOf_8 (?_ : RR _ _ _ _ 9 _ _ _ _)
      refine R_icmp_ne (t := 17) dX11_entryOf_9 rfl (fun c9 => ?_) (fun c9 => ?_)
      · exfalso; omega
      refine R_iload_n dX11_entryOf_12 rfl (?_ : RR _ _ _ _ 13 _ _ _ _)
      refine R_i2s dX11_entryOf_13 (?_ : RR _ _ _ _ 14 _ _ _ _)
      refine R_goto (t := 18) dX11_entryOf_14 rfl (?_ : RR _ _ _ _ 18 _ _ _ _)
      exact R_ireturn dX11_entryOf_18 trivial hQ
    · rw [if_neg q1] at hQ
      refine R_iload_n dX11_entryOf_0 rfl (?_ : RR _ _ _ _ 1 _ _ _ _)
      refine R_if_ne (t := 7) dX11_entryOf_1 rfl (fun c1 => ?_) (fun c1 => ?_)
      rotate_left
      · exfalso; omega
      refine R_iload_n dX11_entryOf_7 rfl (?_ : RR _ _ _ _ 8 _ _ _ _)
      refine R_iconst dX11_entryOf_8 (?_ : RR _ _ _ _ 9 _ _ _ _)
      refine R_icmp_ne (t := 17) dX11_entryOf_9 rfl (fun c9 => ?_) (fun c9 => ?_)
      rotate_left
      · exfalso; omega
      refine R_iload_n dX11_entryOf_17 rfl (?_ : RR _ _ _ _ 18 _ _ _ _)
      exact R_ireturn dX11_entryOf_18 trivial hQ
theorem T_X11_sheet {kd n f st : Int} (hnp : h 11 0 = np) (h12 : np ≤ 12) (hk : 0 ≤ kd ∧ kd ≤ 3) (hn : n ≤ 12) (hn0 : kd = 3 ∨ 0 ≤ n) (hnr : r32 n) (hf : r32 f) (hst : r32 st) : MT mX11_sheet 1 [pR 0, pI kd, pI n, pI f, pI st] h (some (pI (if kd = 3 then -3 else sm (fun p : Nat => rkS kd n f st p) np))) (rup h 13 (voF (rkS kd n f st) (h 13) np)) := by
  refine MT.of (fun Q hQ => (?_ : RR mX11_sheet _ _ _ _ [pR 0, pI kd, pI n, pI f, pI st, pU, pU, pU, pU] _ _ _))
  obtain ⟨G, hG⟩ : ∃ G : Nat → Int, G = fun p : Nat => rkS kd n f st p := ⟨_, rfl⟩
  rw [← hG] at hQ
  have hGb : ∀ m : Nat, 0 ≤ sm G m ∧ sm G m ≤ 9 * m := sm_b (by omega) (fun p => by rw [hG]; have := rkS_b (kd := kd) (n := n) (f := f) (st := st) (i := p); show 0 ≤ rkS kd n f st p ∧ rkS kd n f st p ≤ 9; omega)
  have L : ∀ (j i : Nat) (w8 : PV), i + j = np → RR mX11_sheet 1 0 0 47 [pR 0, pI kd, pI n, pI f, pI st, pI (if kd = 3 then 0 else n), pI (sm G i), pI i, w8] [] (shp0, rf0, rup h 13 (voF (rkS kd n f st) (h 13) i)) Q := by
    intro j
    induction j with
    | zero =>
      intro i w8 hi
      obtain rfl : i = np := by omega
      have g11 : rup h 13 (voF (rkS kd n f st) (h 13) i) 11 0 = i := by rw [rup_n (by omega)]; exact hnp
      have bb := hGb i
      by_cases q : kd = 3
      · rw [if_pos q] at hQ
        refine R_iload dX11_sheet_47 rfl (?_ : RR _ _ _ _ 49 _ _ _ _)
        refine R_aload_n dX11_sheet_49 rfl (?_ : RR _ _ _ _ 50 _ _ _ _)
        refine R_getr dX11_sheet_50 flX11_29 cok_11 rfl (by decide) (?_ : RR _ _ _ _ 53 _ _ _ _)
        refine R_geti (z := 0) dX11_sheet_53 flX11_116 cok_2 rfl (by decide) rfl (fun q53 => (?_ : RR _ _ _ _ 56 _ _ _ _))
        rw [g11] at q53 ⊢
        refine R_icmp_ge (t := 125) dX11_sheet_56 rfl (fun c56 => ?_) (fun c56 => ?_)
        rotate_left
        · exfalso; omega
        refine R_iload_n dX11_sheet_125 rfl (?_ : RR _ _ _ _ 126 _ _ _ _)
        refine R_iconst dX11_sheet_126 (?_ : RR _ _ _ _ 127 _ _ _ _)
        refine R_icmp_ne (t := 135) dX11_sheet_127 rfl (fun c127 => ?_) (fun c127 => ?_)
        · exfalso; omega
        refine R_bipush dX11_sheet_130 rfl (?_ : RR _ _ _ _ 132 _ _ _ _)
        refine R_goto (t := 137) dX11_sheet_132 rfl (?_ : RR _ _ _ _ 137 _ _ _ _)
        exact R_ireturn dX11_sheet_137 trivial hQ
      · rw [if_neg q] at hQ
        refine R_iload dX11_sheet_47 rfl (?_ : RR _ _ _ _ 49 _ _ _ _)
        refine R_aload_n dX11_sheet_49 rfl (?_ : RR _ _ _ _ 50 _ _ _ _)
        refine R_getr dX11_sheet_50 flX11_29 cok_11 rfl (by decide) (?_ : RR _ _ _ _ 53 _ _ _ _)
        refine R_geti (z := 0) dX11_sheet_53 flX11_116 cok_2 rfl (by decide) rfl (fun q53 => (?_ : RR _ _ _ _ 56 _ _ _ _))
        rw [g11] at q53 ⊢
        refine R_icmp_ge (t := 125) dX11_sheet_56 rfl (fun c56 => ?_) (fun c56 => ?_)
        rotate_left
        · exfalso; omega
        refine R_iload_n dX11_sheet_125 rfl (?_ : RR _ _ _ _ 126 _ _ _ _)
        refine R_iconst dX11_sheet_126 (?_ : RR _ _ _ _ 127 _ _ _ _)
        refine R_icmp_ne (t := 135) dX11_sheet_127 rfl (fun c127 => ?_) (fun c127 => ?_)
        rotate_left
        · exfalso; omega
        refine R_iload dX11_sheet_135 rfl (?_ : RR _ _ _ _ 137 _ _ _ _)
        exact R_ireturn dX11_sheet_137 trivial hQ
    | succ j ih =>
      intro i w8 hi
      have g11 : rup h 13 (voF (rkS kd n f st) (h 13) i) 11 0 = np := by rw [rup_n (by omega)]; exact hnp
      have IH := fun w8 => ih (i + 1) w8 (by omega)
      have es : sm G (i + 1) = sm G i + rkS kd n f st i := by rw [hG]; rfl
      rw [es] at IH
      have bb := hGb i
      have rb := rkS_b (kd := kd) (n := n) (f := f) (st := st) (i := i)
      have K : ∀ E : Int, max 1 (min 9 (w32 E)) = rkS kd n f st i → RR mX11_sheet 1 0 0 81 [pR 0, pI kd, pI n, pI f, pI st, pI (if kd = 3 then 0 else n), pI (sm G i), pI i, w8] [pI E] (shp0, rf0, rup h 13 (voF (rkS kd n f st) (h 13) i)) Q := by
        intro E hE
        have hwr := w32_r E
        refine R_istore dX11_sheet_81 (Nat.le_of_ble_eq_true rfl) (?_ : RR _ _ _ _ 83 [_, _, _, _, _, _, _, _, _] _ _ _)
        refine R_aload_n dX11_sheet_83 rfl (?_ : RR _ _ _ _ 84 _ _ _ _)
        refine R_getr dX11_sheet_84 flX11_29 cok_11 rfl (by decide) (?_ : RR _ _ _ _ 87 _ _ _ _)
        refine R_getr dX11_sheet_87 flX11_211 cok_2 rfl (by decide) (?_ : RR _ _ _ _ 90 _ _ _ _)
        refine R_iload dX11_sheet_90 rfl (?_ : RR _ _ _ _ 92 _ _ _ _)
        refine R_iconst dX11_sheet_92 (?_ : RR _ _ _ _ 93 _ _ _ _)
        refine R_bipush dX11_sheet_93 rfl (?_ : RR _ _ _ _ 95 _ _ _ _)
        refine R_iload dX11_sheet_95 rfl (?_ : RR _ _ _ _ 97 _ _ _ _)
        refine R_wrap ?_
        refine R_min dX11_sheet_97 mmX11_223 (by decide) (Nat.le_of_ble_eq_true rfl) (?_ : RR _ _ _ _ 100 _ _ _ _)
        try simp (disch := omega) only [rup_rup, rup_sort, rupS_def, rup_s, rup_n, fup_fup, fup_s, fup_n]
        refine R_max dX11_sheet_100 mmX11_228 (by decide) (Nat.le_of_ble_eq_true rfl) (?_ : RR _ _ _ _ 103 _ _ _ _)
        try simp (disch := omega) only [rup_rup, rup_sort, rupS_def, rup_s, rup_n, fup_fup, fup_s, fup_n]
        rw [hE]
        refine R_iast dX11_sheet_103 (?_ : RR _ _ _ _ 104 _ _ _ _)
        try simp (disch := omega) only [rup_rup, rup_sort, rupS_def, rup_s, rup_n, fup_fup, fup_s, fup_n]
        rw [voF_s rfl]
        refine R_iload dX11_sheet_104 rfl (?_ : RR _ _ _ _ 106 _ _ _ _)
        refine R_aload_n dX11_sheet_106 rfl (?_ : RR _ _ _ _ 107 _ _ _ _)
        refine R_getr dX11_sheet_107 flX11_29 cok_11 rfl (by decide) (?_ : RR _ _ _ _ 110 _ _ _ _)
        refine R_getr dX11_sheet_110 flX11_211 cok_2 rfl (by decide) (?_ : RR _ _ _ _ 113 _ _ _ _)
        refine R_iload dX11_sheet_113 rfl (?_ : RR _ _ _ _ 115 _ _ _ _)
        refine R_iald dX11_sheet_115 (fun q115 => (?_ : RR _ _ _ _ 116 _ _ _ _))
        try simp (disch := omega) only [rup_rup, rup_sort, rupS_def, rup_s, rup_n, fup_fup, fup_s, fup_n] at q115 ⊢
        rw [show voF (rkS kd n f st) (h 13) (i + 1) (i : Int) = rkS kd n f st i from if_pos (by omega)] at q115 ⊢
        refine R_iadd dX11_sheet_116 (?_ : RR _ _ _ _ 117 _ _ _ _)
        refine R_istore dX11_sheet_117 (Nat.le_of_ble_eq_true rfl) (?_ : RR _ _ _ _ 119 [_, _, _, _, _, _, _, _, _] _ _ _)
        refine R_iinc dX11_sheet_119 rfl (Nat.le_of_ble_eq_true rfl) (?_ : RR _ _ _ _ 122 [_, _, _, _, _, _, _, _, _] _ _ _)
        refine R_goto (t := 47) dX11_sheet_122 rfl (?_ : RR _ _ _ _ 47 _ _ _ _)
        exact IH _
      by_cases q : kd = 3
      · have hr : rkS kd n f st i = 1 := by unfold rkS; rw [if_pos (Or.inl q)]
        have K1 := K 1 (by rw [hr, w32_id (by omega)]; omega)
        rw [if_pos q] at K1 ⊢
        refine R_iload dX11_sheet_47 rfl (?_ : RR _ _ _ _ 49 _ _ _ _)
        refine R_aload_n dX11_sheet_49 rfl (?_ : RR _ _ _ _ 50 _ _ _ _)
        refine R_getr dX11_sheet_50 flX11_29 cok_11 rfl (by decide) (?_ : RR _ _ _ _ 53 _ _ _ _)
        refine R_geti (z := 0) dX11_sheet_53 flX11_116 cok_2 rfl (by decide) rfl (fun q53 => (?_ : RR _ _ _ _ 56 _ _ _ _))
        rw [g11] at q53 ⊢
        refine R_icmp_ge (t := 125) dX11_sheet_56 rfl (fun c56 => ?_) (fun c56 => ?_)
        · exfalso; omega
        refine R_iload dX11_sheet_59 rfl (?_ : RR _ _ _ _ 61 _ _ _ _)
        refine R_iload dX11_sheet_61 rfl (?_ : RR _ _ _ _ 63 _ _ _ _)
        refine R_icmp_ge (t := 80) dX11_sheet_63 rfl (fun c63 => ?_) (fun c63 => ?_)
        rotate_left
        · exfalso; omega
        refine R_iconst dX11_sheet_80 (?_ : RR _ _ _ _ 81 _ _ _ _)
        exact K1
      · by_cases y : n ≤ i
        · have hr : rkS kd n f st i = 1 := by unfold rkS; rw [if_pos (Or.inr y)]
          have K1 := K 1 (by rw [hr, w32_id (by omega)]; omega)
          rw [if_neg q] at K1 ⊢
          refine R_iload dX11_sheet_47 rfl (?_ : RR _ _ _ _ 49 _ _ _ _)
          refine R_aload_n dX11_sheet_49 rfl (?_ : RR _ _ _ _ 50 _ _ _ _)
          refine R_getr dX11_sheet_50 flX11_29 cok_11 rfl (by decide) (?_ : RR _ _ _ _ 53 _ _ _ _)
          refine R_geti (z := 0) dX11_sheet_53 flX11_116 cok_2 rfl (by decide) rfl (fun q53 => (?_ : RR _ _ _ _ 56 _ _ _ _))
          rw [g11] at q53 ⊢
          refine R_icmp_ge (t := 125) dX11_sheet_56 rfl (fun c56 => ?_) (fun c56 => ?_)
          · exfalso; omega
          refine R_iload dX11_sheet_59 rfl (?_ : RR _ _ _ _ 61 _ _ _ _)
          refine R_iload dX11_sheet_61 rfl (?_ : RR _ _ _ _ 63 _ _ _ _)
          refine R_icmp_ge (t := 80) dX11_sheet_63 rfl (fun c63 => ?_) (fun c63 => ?_)
          rotate_left
          · exfalso; omega
          refine R_iconst dX11_sheet_80 (?_ : RR _ _ _ _ 81 _ _ _ _)
          exact K1
        · have K1 := K (enS kd f st i) (by unfold rkS; rw [if_neg (fun z => z.elim q y), Int.toNat_natCast])
          rw [if_neg q] at K1 ⊢
          unfold enS at K1
          refine R_iload dX11_sheet_47 rfl (?_ : RR _ _ _ _ 49 _ _ _ _)
          refine R_aload_n dX11_sheet_49 rfl (?_ : RR _ _ _ _ 50 _ _ _ _)
          refine R_getr dX11_sheet_50 flX11_29 cok_11 rfl (by decide) (?_ : RR _ _ _ _ 53 _ _ _ _)
          refine R_geti (z := 0) dX11_sheet_53 flX11_116 cok_2 rfl (by decide) rfl (fun q53 => (?_ : RR _ _ _ _ 56 _ _ _ _))
          rw [g11] at q53 ⊢
          refine R_icmp_ge (t := 125) dX11_sheet_56 rfl (fun c56 => ?_) (fun c56 => ?_)
          · exfalso; omega
          refine R_iload dX11_sheet_59 rfl (?_ : RR _ _ _ _ 61 _ _ _ _)
          refine R_iload dX11_sheet_61 rfl (?_ : RR _ _ _ _ 63 _ _ _ _)
          refine R_icmp_ge (t := 80) dX11_sheet_63 rfl (fun c63 => ?_) (fun c63 => ?_)
          · exfalso; omega
          refine R_iload_n dX11_sheet_66 rfl (?_ : RR _ _ _ _ 67 _ _ _ _)
          refine R_iload_n dX11_sheet_67 rfl (?_ : RR _ _ _ _ 68 _ _ _ _)
          refine R_iload dX11_sheet_68 rfl (?_ : RR _ _ _ _ 70 _ _ _ _)
          refine R_iload dX11_sheet_70 rfl (?_ : RR _ _ _ _ 72 _ _ _ _)
          refine R_imul dX11_sheet_72 (?_ : RR _ _ _ _ 73 _ _ _ _)
          refine R_iadd dX11_sheet_73 (?_ : RR _ _ _ _ 74 _ _ _ _)
          refine R_cSi2 dX11_sheet_74 msX11_entryOf mlX11_220 (by decide) (Nat.le_of_ble_eq_true rfl) (Nat.le_of_ble_eq_true rfl) (T_X11_entryOf (by omega)) (?_ : RR _ _ _ _ 77 _ _ _ _)
          refine R_goto (t := 81) dX11_sheet_77 rfl (?_ : RR _ _ _ _ 81 _ _ _ _)
          exact K1
  have L0 := L np 0 pU (by omega)
  rw [voF_0, rup_self] at L0
  by_cases q : kd = 3
  · rw [if_pos q] at L0
    refine R_iload_n dX11_sheet_0 rfl (?_ : RR _ _ _ _ 1 _ _ _ _)
    refine R_if_lt (t := 15) dX11_sheet_1 rfl (fun c1 => ?_) (fun c1 => ?_)
    · exfalso; omega
    refine R_iload_n dX11_sheet_4 rfl (?_ : RR _ _ _ _ 5 _ _ _ _)
    refine R_iconst dX11_sheet_5 (?_ : RR _ _ _ _ 6 _ _ _ _)
    refine R_icmp_gt (t := 15) dX11_sheet_6 rfl (fun c6 => ?_) (fun c6 => ?_)
    · exfalso; omega
    refine R_iload_n dX11_sheet_9 rfl (?_ : RR _ _ _ _ 10 _ _ _ _)
    refine R_bipush dX11_sheet_10 rfl (?_ : RR _ _ _ _ 12 _ _ _ _)
    refine R_icmp_le (t := 17) dX11_sheet_12 rfl (fun c12 => ?_) (fun c12 => ?_)
    rotate_left
    · exfalso; omega
    refine R_iload_n dX11_sheet_17 rfl (?_ : RR _ _ _ _ 18 _ _ _ _)
    refine R_iconst dX11_sheet_18 (?_ : RR _ _ _ _ 19 _ _ _ _)
    refine R_icmp_ge (t := 29) dX11_sheet_19 rfl (fun c19 => ?_) (fun c19 => ?_)
    rotate_left
    · exfalso; omega
    refine R_iload_n dX11_sheet_29 rfl (?_ : RR _ _ _ _ 30 _ _ _ _)
    refine R_iconst dX11_sheet_30 (?_ : RR _ _ _ _ 31 _ _ _ _)
    refine R_icmp_ne (t := 38) dX11_sheet_31 rfl (fun c31 => ?_) (fun c31 => ?_)
    · exfalso; omega
    refine R_iconst dX11_sheet_34 (?_ : RR _ _ _ _ 35 _ _ _ _)
    refine R_goto (t := 39) dX11_sheet_35 rfl (?_ : RR _ _ _ _ 39 _ _ _ _)
    refine R_istore dX11_sheet_39 (Nat.le_of_ble_eq_true rfl) (?_ : RR _ _ _ _ 41 [_, _, _, _, _, _, _, _, _] _ _ _)
    refine R_iconst dX11_sheet_41 (?_ : RR _ _ _ _ 42 _ _ _ _)
    refine R_istore dX11_sheet_42 (Nat.le_of_ble_eq_true rfl) (?_ : RR _ _ _ _ 44 [_, _, _, _, _, _, _, _, _] _ _ _)
    refine R_iconst dX11_sheet_44 (?_ : RR _ _ _ _ 45 _ _ _ _)
    refine R_istore dX11_sheet_45 (Nat.le_of_ble_eq_true rfl) (?_ : RR _ _ _ _ 47 [_, _, _, _, _, _, _, _, _] _ _ _)
    exact L0
  · rw [if_neg q] at L0
    refine R_iload_n dX11_sheet_0 rfl (?_ : RR _ _ _ _ 1 _ _ _ _)
    refine R_if_lt (t := 15) dX11_sheet_1 rfl (fun c1 => ?_) (fun c1 => ?_)
    · exfalso; omega
    refine R_iload_n dX11_sheet_4 rfl (?_ : RR _ _ _ _ 5 _ _ _ _)
    refine R_iconst dX11_sheet_5 (?_ : RR _ _ _ _ 6 _ _ _ _)
    refine R_icmp_gt (t := 15) dX11_sheet_6 rfl (fun c6 => ?_) (fun c6 => ?_)
    · exfalso; omega
    refine R_iload_n dX11_sheet_9 rfl (?_ : RR _ _ _ _ 10 _ _ _ _)
    refine R_bipush dX11_sheet_10 rfl (?_ : RR _ _ _ _ 12 _ _ _ _)
    refine R_icmp_le (t := 17) dX11_sheet_12 rfl (fun c12 => ?_) (fun c12 => ?_)
    rotate_left
    · exfalso; omega
    refine R_iload_n dX11_sheet_17 rfl (?_ : RR _ _ _ _ 18 _ _ _ _)
    refine R_iconst dX11_sheet_18 (?_ : RR _ _ _ _ 19 _ _ _ _)
    refine R_icmp_ge (t := 29) dX11_sheet_19 rfl (fun c19 => ?_) (fun c19 => ?_)
    · exfalso; omega
    refine R_iload_n dX11_sheet_22 rfl (?_ : RR _ _ _ _ 23 _ _ _ _)
    refine R_if_ge (t := 29) dX11_sheet_23 rfl (fun c23 => ?_) (fun c23 => ?_)
    rotate_left
    · exfalso; omega
    refine R_iload_n dX11_sheet_29 rfl (?_ : RR _ _ _ _ 30 _ _ _ _)
    refine R_iconst dX11_sheet_30 (?_ : RR _ _ _ _ 31 _ _ _ _)
    refine R_icmp_ne (t := 38) dX11_sheet_31 rfl (fun c31 => ?_) (fun c31 => ?_)
    rotate_left
    · exfalso; omega
    refine R_iload_n dX11_sheet_38 rfl (?_ : RR _ _ _ _ 39 _ _ _ _)
    refine R_istore dX11_sheet_39 (Nat.le_of_ble_eq_true rfl) (?_ : RR _ _ _ _ 41 [_, _, _, _, _, _, _, _, _] _ _ _)
    refine R_iconst dX11_sheet_41 (?_ : RR _ _ _ _ 42 _ _ _ _)
    refine R_istore dX11_sheet_42 (Nat.le_of_ble_eq_true rfl) (?_ : RR _ _ _ _ 44 [_, _, _, _, _, _, _, _, _] _ _ _)
    refine R_iconst dX11_sheet_44 (?_ : RR _ _ _ _ 45 _ _ _ _)
    refine R_istore dX11_sheet_45 (Nat.le_of_ble_eq_true rfl) (?_ : RR _ _ _ _ 47 [_, _, _, _, _, _, _, _, _] _ _ _)
    exact L0
theorem T_X12_sheet {kd n f st : Int} (hnp : h 147 5 = np) (h12 : np ≤ 12) (hk : 0 ≤ kd ∧ kd ≤ 3) (hn : n ≤ 12) (hn0 : kd = 3 ∨ 0 ≤ n) (hnr : r32 n) (hf : r32 f) (hst : r32 st) : MT mX12_sheet 1 [pR 147, pI kd, pI n, pI f, pI st] h (some (pI (if kd = 3 then -3 else sm (fun p : Nat => rkS kd n f st p) np))) (rup (rup h 147 (fup (h 147) 0 0)) 153 (voF (rkS kd n f st) (h 153) np)) := by
  refine MT.of (fun Q hQ => (?_ : RR mX12_sheet _ _ _ _ [pR 147, pI kd, pI n, pI f, pI st, pU, pU, pU, pU] _ _ _))
  obtain ⟨G, hG⟩ : ∃ G : Nat → Int, G = fun p : Nat => rkS kd n f st p := ⟨_, rfl⟩
  rw [← hG] at hQ
  obtain ⟨h4, h4e⟩ : ∃ h4, h4 = rup h 147 (fup (h 147) 0 0) := ⟨_, rfl⟩
  have e153 : h4 153 = h 153 := by rw [h4e, rup_n (by omega)]
  have e5 : h4 147 5 = np := by rw [h4e, rup_s, fup_n (by omega)]; exact hnp
  rw [← h4e, ← e153] at hQ
  have hGb : ∀ m : Nat, 0 ≤ sm G m ∧ sm G m ≤ 9 * m := sm_b (by omega) (fun p => by rw [hG]; have := rkS_b (kd := kd) (n := n) (f := f) (st := st) (i := p); show 0 ≤ rkS kd n f st p ∧ rkS kd n f st p ≤ 9; omega)
  have L : ∀ (j i : Nat) (w8 : PV), i + j = np → RR mX12_sheet 1 0 0 46 [pR 147, pI kd, pI n, pI f, pI st, pI (sm G i), pI (f + i * st), pI i, w8] [] (shp0, rf0, rup h4 153 (voF (rkS kd n f st) (h4 153) i)) Q := by
    intro j
    induction j with
    | zero =>
      intro i w8 hi
      obtain rfl : i = np := by omega
      have g5 : rup h4 153 (voF (rkS kd n f st) (h4 153) i) 147 5 = i := by rw [rup_n (by omega)]; exact e5
      have bb := hGb i
      by_cases q : kd = 3
      · rw [if_pos q] at hQ
        refine R_iload dX12_sheet_46 rfl (?_ : RR _ _ _ _ 48 _ _ _ _)
        refine R_aload_n dX12_sheet_48 rfl (?_ : RR _ _ _ _ 49 _ _ _ _)
        refine R_geti (z := 5) dX12_sheet_49 flX12_127 cok_12 rfl (by decide) rfl (fun q49 => (?_ : RR _ _ _ _ 52 _ _ _ _))
        rw [g5] at q49 ⊢
        refine R_icmp_ge (t := 138) dX12_sheet_52 rfl (fun c52 => ?_) (fun c52 => ?_)
        rotate_left
        · exfalso; omega
        refine R_iload_n dX12_sheet_138 rfl (?_ : RR _ _ _ _ 139 _ _ _ _)
        refine R_iconst dX12_sheet_139 (?_ : RR _ _ _ _ 140 _ _ _ _)
        refine R_icmp_ne (t := 148) dX12_sheet_140 rfl (fun c140 => ?_) (fun c140 => ?_)
        · exfalso; omega
        refine R_bipush dX12_sheet_143 rfl (?_ : RR _ _ _ _ 145 _ _ _ _)
        refine R_goto (t := 150) dX12_sheet_145 rfl (?_ : RR _ _ _ _ 150 _ _ _ _)
        exact R_ireturn dX12_sheet_150 trivial hQ
      · rw [if_neg q] at hQ
        refine R_iload dX12_sheet_46 rfl (?_ : RR _ _ _ _ 48 _ _ _ _)
        refine R_aload_n dX12_sheet_48 rfl (?_ : RR _ _ _ _ 49 _ _ _ _)
        refine R_geti (z := 5) dX12_sheet_49 flX12_127 cok_12 rfl (by decide) rfl (fun q49 => (?_ : RR _ _ _ _ 52 _ _ _ _))
        rw [g5] at q49 ⊢
        refine R_icmp_ge (t := 138) dX12_sheet_52 rfl (fun c52 => ?_) (fun c52 => ?_)
        rotate_left
        · exfalso; omega
        refine R_iload_n dX12_sheet_138 rfl (?_ : RR _ _ _ _ 139 _ _ _ _)
        refine R_iconst dX12_sheet_139 (?_ : RR _ _ _ _ 140 _ _ _ _)
        refine R_icmp_ne (t := 148) dX12_sheet_140 rfl (fun c140 => ?_) (fun c140 => ?_)
        rotate_left
        · exfalso; omega
        refine R_iload dX12_sheet_148 rfl (?_ : RR _ _ _ _ 150 _ _ _ _)
        exact R_ireturn dX12_sheet_150 trivial hQ
    | succ j ih =>
      intro i w8 hi
      have g5 : rup h4 153 (voF (rkS kd n f st) (h4 153) i) 147 5 = np := by rw [rup_n (by omega)]; exact e5
      have IH := fun w8 => ih (i + 1) w8 (by omega)
      have es : sm G (i + 1) = sm G i + rkS kd n f st i := by rw [hG]; rfl
      rw [es, show f + ((i + 1 : Nat) : Int) * st = f + i * st + st by rw [show ((i + 1 : Nat) : Int) = (i : Int) + 1 from rfl, Int.add_mul, Int.one_mul, Int.add_assoc]] at IH
      have bb := hGb i
      have rb := rkS_b (kd := kd) (n := n) (f := f) (st := st) (i := i)
      have K2 : ∀ w8 : PV, RR mX12_sheet 1 0 0 112 [pR 147, pI kd, pI n, pI f, pI st, pI (sm G i), pI (f + i * st), pI i, w8] [pI (rkS kd n f st i), pI i, pR 153] (shp0, rf0, rup h4 153 (voF (rkS kd n f st) (h4 153) i)) Q := by
        intro w8
        refine R_iast dX12_sheet_112 (?_ : RR _ _ _ _ 113 _ _ _ _)
        try simp (disch := omega) only [rup_rup, rup_sort, rupS_def, rup_s, rup_n, fup_fup, fup_s, fup_n]
        rw [voF_s rfl]
        refine R_iload dX12_sheet_113 rfl (?_ : RR _ _ _ _ 115 _ _ _ _)
        refine R_aload_n dX12_sheet_115 rfl (?_ : RR _ _ _ _ 116 _ _ _ _)
        refine R_getr dX12_sheet_116 flX12_30 cok_12 rfl (by decide) (?_ : RR _ _ _ _ 119 _ _ _ _)
        refine R_iload dX12_sheet_119 rfl (?_ : RR _ _ _ _ 121 _ _ _ _)
        refine R_iald dX12_sheet_121 (fun q121 => (?_ : RR _ _ _ _ 122 _ _ _ _))
        try simp (disch := omega) only [rup_rup, rup_sort, rupS_def, rup_s, rup_n, fup_fup, fup_s, fup_n] at q121 ⊢
        rw [show voF (rkS kd n f st) (h4 153) (i + 1) (i : Int) = rkS kd n f st i from if_pos (by omega)] at q121 ⊢
        refine R_iadd dX12_sheet_122 (?_ : RR _ _ _ _ 123 _ _ _ _)
        refine R_istore dX12_sheet_123 (Nat.le_of_ble_eq_true rfl) (?_ : RR _ _ _ _ 125 [_, _, _, _, _, _, _, _, _] _ _ _)
        refine R_iload dX12_sheet_125 rfl (?_ : RR _ _ _ _ 127 _ _ _ _)
        refine R_iload dX12_sheet_127 rfl (?_ : RR _ _ _ _ 129 _ _ _ _)
        refine R_iadd dX12_sheet_129 (?_ : RR _ _ _ _ 130 _ _ _ _)
        refine R_istore dX12_sheet_130 (Nat.le_of_ble_eq_true rfl) (?_ : RR _ _ _ _ 132 [_, _, _, _, _, _, _, _, _] _ _ _)
        refine R_iinc dX12_sheet_132 rfl (Nat.le_of_ble_eq_true rfl) (?_ : RR _ _ _ _ 135 [_, _, _, _, _, _, _, _, _] _ _ _)
        refine R_goto (t := 46) dX12_sheet_135 rfl (?_ : RR _ _ _ _ 46 _ _ _ _)
        exact IH _
      have K : RR mX12_sheet 1 0 0 78 [pR 147, pI kd, pI n, pI f, pI st, pI (sm G i), pI (f + i * st), pI i, w8] [pI (enS kd f st i)] (shp0, rf0, rup h4 153 (voF (rkS kd n f st) (h4 153) i)) Q := by
        by_cases q : kd = 3
        · have hr : rkS kd n f st i = 1 := by unfold rkS; rw [if_pos (Or.inl q)]
          rw [hr] at K2
          refine R_istore dX12_sheet_78 (Nat.le_of_ble_eq_true rfl) (?_ : RR _ _ _ _ 80 [_, _, _, _, _, _, _, _, _] _ _ _)
          refine R_aload_n dX12_sheet_80 rfl (?_ : RR _ _ _ _ 81 _ _ _ _)
          refine R_getr dX12_sheet_81 flX12_30 cok_12 rfl (by decide) (?_ : RR _ _ _ _ 84 _ _ _ _)
          refine R_iload dX12_sheet_84 rfl (?_ : RR _ _ _ _ 86 _ _ _ _)
          refine R_iload_n dX12_sheet_86 rfl (?_ : RR _ _ _ _ 87 _ _ _ _)
          refine R_iconst dX12_sheet_87 (?_ : RR _ _ _ _ 88 _ _ _ _)
          refine R_icmp_eq (t := 97) dX12_sheet_88 rfl (fun c88 => ?_) (fun c88 => ?_)
          rotate_left
          · exfalso; omega
          refine R_iconst dX12_sheet_97 (?_ : RR _ _ _ _ 98 _ _ _ _)
          refine R_goto (t := 112) dX12_sheet_98 rfl (?_ : RR _ _ _ _ 112 _ _ _ _)
          exact K2 _
        · by_cases y : n ≤ i
          · have hr : rkS kd n f st i = 1 := by unfold rkS; rw [if_pos (Or.inr y)]
            rw [hr] at K2
            refine R_istore dX12_sheet_78 (Nat.le_of_ble_eq_true rfl) (?_ : RR _ _ _ _ 80 [_, _, _, _, _, _, _, _, _] _ _ _)
            refine R_aload_n dX12_sheet_80 rfl (?_ : RR _ _ _ _ 81 _ _ _ _)
            refine R_getr dX12_sheet_81 flX12_30 cok_12 rfl (by decide) (?_ : RR _ _ _ _ 84 _ _ _ _)
            refine R_iload dX12_sheet_84 rfl (?_ : RR _ _ _ _ 86 _ _ _ _)
            refine R_iload_n dX12_sheet_86 rfl (?_ : RR _ _ _ _ 87 _ _ _ _)
            refine R_iconst dX12_sheet_87 (?_ : RR _ _ _ _ 88 _ _ _ _)
            refine R_icmp_eq (t := 97) dX12_sheet_88 rfl (fun c88 => ?_) (fun c88 => ?_)
            · exfalso; omega
            refine R_iload dX12_sheet_91 rfl (?_ : RR _ _ _ _ 93 _ _ _ _)
            refine R_iload_n dX12_sheet_93 rfl (?_ : RR _ _ _ _ 94 _ _ _ _)
            refine R_icmp_lt (t := 101) dX12_sheet_94 rfl (fun c94 => ?_) (fun c94 => ?_)
            · exfalso; omega
            refine R_iconst dX12_sheet_97 (?_ : RR _ _ _ _ 98 _ _ _ _)
            refine R_goto (t := 112) dX12_sheet_98 rfl (?_ : RR _ _ _ _ 112 _ _ _ _)
            exact K2 _
          · have hr : rkS kd n f st i = max 1 (min 9 (w32 (enS kd f st i))) := by unfold rkS; rw [if_neg (fun z => z.elim q y), Int.toNat_natCast]
            have hwr := w32_r (enS kd f st i)
            rw [hr] at K2
            refine R_istore dX12_sheet_78 (Nat.le_of_ble_eq_true rfl) (?_ : RR _ _ _ _ 80 [_, _, _, _, _, _, _, _, _] _ _ _)
            refine R_aload_n dX12_sheet_80 rfl (?_ : RR _ _ _ _ 81 _ _ _ _)
            refine R_getr dX12_sheet_81 flX12_30 cok_12 rfl (by decide) (?_ : RR _ _ _ _ 84 _ _ _ _)
            refine R_iload dX12_sheet_84 rfl (?_ : RR _ _ _ _ 86 _ _ _ _)
            refine R_iload_n dX12_sheet_86 rfl (?_ : RR _ _ _ _ 87 _ _ _ _)
            refine R_iconst dX12_sheet_87 (?_ : RR _ _ _ _ 88 _ _ _ _)
            refine R_icmp_eq (t := 97) dX12_sheet_88 rfl (fun c88 => ?_) (fun c88 => ?_)
            · exfalso; omega
            refine R_iload dX12_sheet_91 rfl (?_ : RR _ _ _ _ 93 _ _ _ _)
            refine R_iload_n dX12_sheet_93 rfl (?_ : RR _ _ _ _ 94 _ _ _ _)
            refine R_icmp_lt (t := 101) dX12_sheet_94 rfl (fun c94 => ?_) (fun c94 => ?_)
            rotate_left
            · exfalso; omega
            refine R_iconst dX12_sheet_101 (?_ : RR _ _ _ _ 102 _ _ _ _)
            refine R_bipush dX12_sheet_102 rfl (?_ : RR _ _ _ _ 104 _ _ _ _)
            refine R_iload dX12_sheet_104 rfl (?_ : RR _ _ _ _ 106 _ _ _ _)
            refine R_wrap ?_
            refine R_min dX12_sheet_106 mmX12_139 (by decide) (Nat.le_of_ble_eq_true rfl) (?_ : RR _ _ _ _ 109 _ _ _ _)
            refine R_max dX12_sheet_109 mmX12_281 (by decide) (Nat.le_of_ble_eq_true rfl) (?_ : RR _ _ _ _ 112 _ _ _ _)
            exact K2 _
      unfold enS at K
      by_cases q0 : kd = 0
      · rw [if_pos q0] at K
        refine R_iload dX12_sheet_46 rfl (?_ : RR _ _ _ _ 48 _ _ _ _)
        refine R_aload_n dX12_sheet_48 rfl (?_ : RR _ _ _ _ 49 _ _ _ _)
        refine R_geti (z := 5) dX12_sheet_49 flX12_127 cok_12 rfl (by decide) rfl (fun q49 => (?_ : RR _ _ _ _ 52 _ _ _ _))
        rw [g5] at q49 ⊢
        refine R_icmp_ge (t := 138) dX12_sheet_52 rfl (fun c52 => ?_) (fun c52 => ?_)
        · exfalso; omega
        refine R_iload_n dX12_sheet_55 rfl (?_ : RR _ _ _ _ 56 _ _ _ _)
        refine R_if_ne (t := 65) dX12_sheet_56 rfl (fun c56 => ?_) (fun c56 => ?_)
        · exfalso; omega
        refine R_iload dX12_sheet_59 rfl (?_ : RR _ _ _ _ 61 _ _ _ _)
        refine R_i2b dX12_sheet_61 (?_ : RR _ _ _ _ 62 _ _ _ _)
        refine R_goto (t := 78) dX12_sheet_62 rfl (?_ : RR _ _ _ _ 78 _ _ _ _)
        exact K
      · rw [if_neg q0] at K
        by_cases q1 : kd = 1
        · rw [if_pos q1] at K
          refine R_iload dX12_sheet_46 rfl (?_ : RR _ _ _ _ 48 _ _ _ _)
          refine R_aload_n dX12_sheet_48 rfl (?_ : RR _ _ _ _ 49 _ _ _ _)
          refine R_geti (z := 5) dX12_sheet_49 flX12_127 cok_12 rfl (by decide) rfl (fun q49 => (?_ : RR _ _ _ _ 52 _ _ _ _))
          rw [g5] at q49 ⊢
          refine R_icmp_ge (t := 138) dX12_sheet_52 rfl (fun c52 => ?_) (fun c52 => ?_)
          · exfalso; omega
          refine R_iload_n dX12_sheet_55 rfl (?_ : RR _ _ _ _ 56 _ _ _ _)
          refine R_if_ne (t := 65) dX12_sheet_56 rfl (fun c56 => ?_) (fun c56 => ?_)
          rotate_left
          · exfalso; omega
          refine R_iload_n dX12_sheet_65 rfl (?_ : RR _ _ _ _ 66 _ _ _ _)
          refine R_iconst dX12_sheet_66 (?_ : RR _ _ _ _ 67 _ _ _ _)
          refine R_icmp_ne (t := 76) dX12_sheet_67 rfl (fun c67 => ?_) (fun c67 => ?_)
          · exfalso; omega
          refine R_iload dX12_sheet_70 rfl (?_ : RR _ _ _ _ 72 _ _ _ _)
          refine R_i2s dX12_sheet_72 (?_ : RR _ _ _ _ 73 _ _ _ _)
          refine R_goto (t := 78) dX12_sheet_73 rfl (?_ : RR _ _ _ _ 78 _ _ _ _)
          exact K
        · rw [if_neg q1] at K
          refine R_iload dX12_sheet_46 rfl (?_ : RR _ _ _ _ 48 _ _ _ _)
          refine R_aload_n dX12_sheet_48 rfl (?_ : RR _ _ _ _ 49 _ _ _ _)
          refine R_geti (z := 5) dX12_sheet_49 flX12_127 cok_12 rfl (by decide) rfl (fun q49 => (?_ : RR _ _ _ _ 52 _ _ _ _))
          rw [g5] at q49 ⊢
          refine R_icmp_ge (t := 138) dX12_sheet_52 rfl (fun c52 => ?_) (fun c52 => ?_)
          · exfalso; omega
          refine R_iload_n dX12_sheet_55 rfl (?_ : RR _ _ _ _ 56 _ _ _ _)
          refine R_if_ne (t := 65) dX12_sheet_56 rfl (fun c56 => ?_) (fun c56 => ?_)
          rotate_left
          · exfalso; omega
          refine R_iload_n dX12_sheet_65 rfl (?_ : RR _ _ _ _ 66 _ _ _ _)
          refine R_iconst dX12_sheet_66 (?_ : RR _ _ _ _ 67 _ _ _ _)
          refine R_icmp_ne (t := 76) dX12_sheet_67 rfl (fun c67 => ?_) (fun c67 => ?_)
          rotate_left
          · exfalso; omega
          refine R_iload dX12_sheet_76 rfl (?_ : RR _ _ _ _ 78 _ _ _ _)
          exact K
  have L0 := L np 0 pU (by omega)
  rw [voF_0, rup_self, show f + ((0 : Nat) : Int) * st = f by rw [show ((0 : Nat) : Int) = 0 from rfl, Int.zero_mul, Int.add_zero]] at L0
  by_cases q : kd = 3
  · refine R_aload_n dX12_sheet_0 rfl (?_ : RR _ _ _ _ 1 _ _ _ _)
    refine R_iconst dX12_sheet_1 (?_ : RR _ _ _ _ 2 _ _ _ _)
    refine R_puti (zk := 0) dX12_sheet_2 flX12_106 cok_12 (by decide) (fun q hq => by cases hq; rfl) rfl (?_ : RR _ _ _ _ 5 _ _ _ _)
    rw [← h4e]
    refine R_iload_n dX12_sheet_5 rfl (?_ : RR _ _ _ _ 6 _ _ _ _)
    refine R_i2l dX12_sheet_6 (by first | assumption | omega) (?_ : RR _ _ _ _ 7 _ _ _ _)
    refine R_lconst (z := 0) dX12_sheet_7 rfl (?_ : RR _ _ _ _ 8 _ _ _ _)
    refine R_ldc2 (z := 3) dX12_sheet_8 klX12_330 (?_ : RR _ _ _ _ 11 _ _ _ _)
    refine R_cSi3 dX12_sheet_11 msX12_in mlX12_120 (by decide) (Nat.le_of_ble_eq_true rfl) (Nat.le_of_ble_eq_true rfl) (T_X12_in) (?_ : RR _ _ _ _ 14 _ _ _ _)
    rw [if_pos hk]
    refine R_if_eq (t := 23) dX12_sheet_14 rfl (fun c14 => ?_) (fun c14 => ?_)
    · exfalso; omega
    refine R_iload_n dX12_sheet_17 rfl (?_ : RR _ _ _ _ 18 _ _ _ _)
    refine R_bipush dX12_sheet_18 rfl (?_ : RR _ _ _ _ 20 _ _ _ _)
    refine R_icmp_le (t := 25) dX12_sheet_20 rfl (fun c20 => ?_) (fun c20 => ?_)
    rotate_left
    · exfalso; omega
    refine R_iload_n dX12_sheet_25 rfl (?_ : RR _ _ _ _ 26 _ _ _ _)
    refine R_iconst dX12_sheet_26 (?_ : RR _ _ _ _ 27 _ _ _ _)
    refine R_icmp_eq (t := 37) dX12_sheet_27 rfl (fun c27 => ?_) (fun c27 => ?_)
    rotate_left
    · exfalso; omega
    refine R_iconst dX12_sheet_37 (?_ : RR _ _ _ _ 38 _ _ _ _)
    refine R_istore dX12_sheet_38 (Nat.le_of_ble_eq_true rfl) (?_ : RR _ _ _ _ 40 [_, _, _, _, _, _, _, _, _] _ _ _)
    refine R_iload_n dX12_sheet_40 rfl (?_ : RR _ _ _ _ 41 _ _ _ _)
    refine R_istore dX12_sheet_41 (Nat.le_of_ble_eq_true rfl) (?_ : RR _ _ _ _ 43 [_, _, _, _, _, _, _, _, _] _ _ _)
    refine R_iconst dX12_sheet_43 (?_ : RR _ _ _ _ 44 _ _ _ _)
    refine R_istore dX12_sheet_44 (Nat.le_of_ble_eq_true rfl) (?_ : RR _ _ _ _ 46 [_, _, _, _, _, _, _, _, _] _ _ _)
    exact L0
  · refine R_aload_n dX12_sheet_0 rfl (?_ : RR _ _ _ _ 1 _ _ _ _)
    refine R_iconst dX12_sheet_1 (?_ : RR _ _ _ _ 2 _ _ _ _)
    refine R_puti (zk := 0) dX12_sheet_2 flX12_106 cok_12 (by decide) (fun q hq => by cases hq; rfl) rfl (?_ : RR _ _ _ _ 5 _ _ _ _)
    rw [← h4e]
    refine R_iload_n dX12_sheet_5 rfl (?_ : RR _ _ _ _ 6 _ _ _ _)
    refine R_i2l dX12_sheet_6 (by first | assumption | omega) (?_ : RR _ _ _ _ 7 _ _ _ _)
    refine R_lconst (z := 0) dX12_sheet_7 rfl (?_ : RR _ _ _ _ 8 _ _ _ _)
    refine R_ldc2 (z := 3) dX12_sheet_8 klX12_330 (?_ : RR _ _ _ _ 11 _ _ _ _)
    refine R_cSi3 dX12_sheet_11 msX12_in mlX12_120 (by decide) (Nat.le_of_ble_eq_true rfl) (Nat.le_of_ble_eq_true rfl) (T_X12_in) (?_ : RR _ _ _ _ 14 _ _ _ _)
    rw [if_pos hk]
    refine R_if_eq (t := 23) dX12_sheet_14 rfl (fun c14 => ?_) (fun c14 => ?_)
    · exfalso; omega
    refine R_iload_n dX12_sheet_17 rfl (?_ : RR _ _ _ _ 18 _ _ _ _)
    refine R_bipush dX12_sheet_18 rfl (?_ : RR _ _ _ _ 20 _ _ _ _)
    refine R_icmp_le (t := 25) dX12_sheet_20 rfl (fun c20 => ?_) (fun c20 => ?_)
    rotate_left
    · exfalso; omega
    refine R_iload_n dX12_sheet_25 rfl (?_ : RR _ _ _ _ 26 _ _ _ _)
    refine R_iconst dX12_sheet_26 (?_ : RR _ _ _ _ 27 _ _ _ _)
    refine R_icmp_eq (t := 37) dX12_sheet_27 rfl (fun c27 => ?_) (fun c27 => ?_)
    · exfalso; omega
    refine R_iload_n dX12_sheet_30 rfl (?_ : RR _ _ _ _ 31 _ _ _ _)
    refine R_if_ge (t := 37) dX12_sheet_31 rfl (fun c31 => ?_) (fun c31 => ?_)
    rotate_left
    · exfalso; omega
    refine R_iconst dX12_sheet_37 (?_ : RR _ _ _ _ 38 _ _ _ _)
    refine R_istore dX12_sheet_38 (Nat.le_of_ble_eq_true rfl) (?_ : RR _ _ _ _ 40 [_, _, _, _, _, _, _, _, _] _ _ _)
    refine R_iload_n dX12_sheet_40 rfl (?_ : RR _ _ _ _ 41 _ _ _ _)
    refine R_istore dX12_sheet_41 (Nat.le_of_ble_eq_true rfl) (?_ : RR _ _ _ _ 43 [_, _, _, _, _, _, _, _, _] _ _ _)
    refine R_iconst dX12_sheet_43 (?_ : RR _ _ _ _ 44 _ _ _ _)
    refine R_istore dX12_sheet_44 (Nat.le_of_ble_eq_true rfl) (?_ : RR _ _ _ _ 46 [_, _, _, _, _, _, _, _, _] _ _ _)
    exact L0
theorem A_sheet {kd n f st : Int} (hs : SRx k h sem H np nc len) (hk : r32 kd) (hn : r32 n) (hf : r32 f) (hst : r32 st) : AG mX11_sheet mX12_sheet 1 1 [pI kd, pI n, pI f, pI st] k h := by
  have h11 : h 11 0 = np := hs.1.2.2.2.2.2.2.1.2.1.1
  have h5 : h 147 5 = np := hs.1.2.2.1
  have x12 := sR12 hs
  by_cases q : (0 ≤ kd ∧ kd ≤ 3) ∧ n ≤ 12
  · by_cases y : kd = 3 ∨ 0 ≤ n
    · have hm := T_X12_sheet (h := rup h 13 (voF (rkS kd n f st) (h 13) np)) (np := np) (by rw [rup_n (by omega)]; exact h5) x12 q.1 q.2 y hn hf hst
      rw [rup_n (by omega), rup_n (by omega)] at hm
      refine AG_det (T_X11_sheet h11 x12 q.1 q.2 y hn hf hst) hm (SR_r hs ⟨fun a q1 q2 => by rw [rup_n (by omega), rup_n (by omega), rup_n (by omega)], fun j q1 q2 => by rw [rup_n (by omega), rup_s, fup_n (by omega)], fun q => by rw [rup_n (by omega), rup_s, fup_n (by omega)]; exact q, fun j q => by rw [rup_n (by omega), rup_n (by omega), rup_n (by omega)]⟩ (fun p hp => ?_) (SD_same hs.2.2.1 ?_ ?_ ?_ ?_))
      · rw [rup_s, rup_n (by omega), rup_n (by omega), rup_s]
        unfold voF
        rw [if_pos (by omega), if_pos (by omega)]
      · simp (disch := omega) only [rup_n]
      · rw [rup_n (by omega), rup_s, fup_n (by omega)]
      · simp (disch := omega) only [rup_n]
      · simp (disch := omega) only [rup_n]
    · refine AG_det (h1 := h) (h2 := rup h 147 (fup (h 147) 0 0)) (r := some (pI (-2))) (MT.of (fun Q hQ => (?_ : RR mX11_sheet _ _ _ _ [pR 0, pI kd, pI n, pI f, pI st, pU, pU, pU, pU] _ _ _))) (MT.of (fun Q hQ => (?_ : RR mX12_sheet _ _ _ _ [pR 147, pI kd, pI n, pI f, pI st, pU, pU, pU, pU] _ _ _))) (SR_thr hs)
      · refine R_iload_n dX11_sheet_0 rfl (?_ : RR _ _ _ _ 1 _ _ _ _)
        refine R_if_lt (t := 15) dX11_sheet_1 rfl (fun c1 => ?_) (fun c1 => ?_)
        · exfalso; omega
        refine R_iload_n dX11_sheet_4 rfl (?_ : RR _ _ _ _ 5 _ _ _ _)
        refine R_iconst dX11_sheet_5 (?_ : RR _ _ _ _ 6 _ _ _ _)
        refine R_icmp_gt (t := 15) dX11_sheet_6 rfl (fun c6 => ?_) (fun c6 => ?_)
        · exfalso; omega
        refine R_iload_n dX11_sheet_9 rfl (?_ : RR _ _ _ _ 10 _ _ _ _)
        refine R_bipush dX11_sheet_10 rfl (?_ : RR _ _ _ _ 12 _ _ _ _)
        refine R_icmp_le (t := 17) dX11_sheet_12 rfl (fun c12 => ?_) (fun c12 => ?_)
        rotate_left
        · exfalso; omega
        refine R_iload_n dX11_sheet_17 rfl (?_ : RR _ _ _ _ 18 _ _ _ _)
        refine R_iconst dX11_sheet_18 (?_ : RR _ _ _ _ 19 _ _ _ _)
        refine R_icmp_ge (t := 29) dX11_sheet_19 rfl (fun c19 => ?_) (fun c19 => ?_)
        · exfalso; omega
        refine R_iload_n dX11_sheet_22 rfl (?_ : RR _ _ _ _ 23 _ _ _ _)
        refine R_if_ge (t := 29) dX11_sheet_23 rfl (fun c23 => ?_) (fun c23 => ?_)
        · exfalso; omega
        refine R_bipush dX11_sheet_26 rfl (?_ : RR _ _ _ _ 28 _ _ _ _)
        exact R_ireturn dX11_sheet_28 trivial hQ
      · refine R_aload_n dX12_sheet_0 rfl (?_ : RR _ _ _ _ 1 _ _ _ _)
        refine R_iconst dX12_sheet_1 (?_ : RR _ _ _ _ 2 _ _ _ _)
        refine R_puti (zk := 0) dX12_sheet_2 flX12_106 cok_12 (by decide) (fun q hq => by cases hq; rfl) rfl (?_ : RR _ _ _ _ 5 _ _ _ _)
        try simp (disch := omega) only [rup_rup, rup_sort, rupS_def, rup_s, rup_n, fup_fup, fup_s, fup_n]
        refine R_iload_n dX12_sheet_5 rfl (?_ : RR _ _ _ _ 6 _ _ _ _)
        refine R_i2l dX12_sheet_6 (by first | assumption | omega) (?_ : RR _ _ _ _ 7 _ _ _ _)
        refine R_lconst (z := 0) dX12_sheet_7 rfl (?_ : RR _ _ _ _ 8 _ _ _ _)
        refine R_ldc2 (z := 3) dX12_sheet_8 klX12_330 (?_ : RR _ _ _ _ 11 _ _ _ _)
        refine R_cSi3 dX12_sheet_11 msX12_in mlX12_120 (by decide) (Nat.le_of_ble_eq_true rfl) (Nat.le_of_ble_eq_true rfl) (T_X12_in) (?_ : RR _ _ _ _ 14 _ _ _ _)
        try simp (disch := omega) only [rup_rup, rup_sort, rupS_def, rup_s, rup_n, fup_fup, fup_s, fup_n]
        rw [if_pos q.1]
        refine R_if_eq (t := 23) dX12_sheet_14 rfl (fun c14 => ?_) (fun c14 => ?_)
        · exfalso; omega
        refine R_iload_n dX12_sheet_17 rfl (?_ : RR _ _ _ _ 18 _ _ _ _)
        refine R_bipush dX12_sheet_18 rfl (?_ : RR _ _ _ _ 20 _ _ _ _)
        refine R_icmp_le (t := 25) dX12_sheet_20 rfl (fun c20 => ?_) (fun c20 => ?_)
        rotate_left
        · exfalso; omega
        refine R_iload_n dX12_sheet_25 rfl (?_ : RR _ _ _ _ 26 _ _ _ _)
        refine R_iconst dX12_sheet_26 (?_ : RR _ _ _ _ 27 _ _ _ _)
        refine R_icmp_eq (t := 37) dX12_sheet_27 rfl (fun c27 => ?_) (fun c27 => ?_)
        · exfalso; omega
        refine R_iload_n dX12_sheet_30 rfl (?_ : RR _ _ _ _ 31 _ _ _ _)
        refine R_if_ge (t := 37) dX12_sheet_31 rfl (fun c31 => ?_) (fun c31 => ?_)
        · exfalso; omega
        refine R_bipush dX12_sheet_34 rfl (?_ : RR _ _ _ _ 36 _ _ _ _)
        exact R_ireturn dX12_sheet_36 trivial hQ
  · refine AG_det (h1 := h) (h2 := rup h 147 (fup (h 147) 0 0)) (r := some (pI (-1))) (MT.of (fun Q hQ => (?_ : RR mX11_sheet _ _ _ _ [pR 0, pI kd, pI n, pI f, pI st, pU, pU, pU, pU] _ _ _))) (MT.of (fun Q hQ => (?_ : RR mX12_sheet _ _ _ _ [pR 147, pI kd, pI n, pI f, pI st, pU, pU, pU, pU] _ _ _))) (SR_thr hs)
    · by_cases y : 0 ≤ kd ∧ kd ≤ 3
      · refine R_iload_n dX11_sheet_0 rfl (?_ : RR _ _ _ _ 1 _ _ _ _)
        refine R_if_lt (t := 15) dX11_sheet_1 rfl (fun c1 => ?_) (fun c1 => ?_)
        · exfalso; omega
        refine R_iload_n dX11_sheet_4 rfl (?_ : RR _ _ _ _ 5 _ _ _ _)
        refine R_iconst dX11_sheet_5 (?_ : RR _ _ _ _ 6 _ _ _ _)
        refine R_icmp_gt (t := 15) dX11_sheet_6 rfl (fun c6 => ?_) (fun c6 => ?_)
        · exfalso; omega
        refine R_iload_n dX11_sheet_9 rfl (?_ : RR _ _ _ _ 10 _ _ _ _)
        refine R_bipush dX11_sheet_10 rfl (?_ : RR _ _ _ _ 12 _ _ _ _)
        refine R_icmp_le (t := 17) dX11_sheet_12 rfl (fun c12 => ?_) (fun c12 => ?_)
        · exfalso; omega
        refine R_iconst dX11_sheet_15 (?_ : RR _ _ _ _ 16 _ _ _ _)
        exact R_ireturn dX11_sheet_16 trivial hQ
      · refine R_iload_n dX11_sheet_0 rfl (?_ : RR _ _ _ _ 1 _ _ _ _)
        refine R_if_lt (t := 15) dX11_sheet_1 rfl (fun c1 => ?_) (fun c1 => ?_)
        · first
          | (exfalso; omega)
          | (refine R_iconst dX11_sheet_15 (?_ : RR _ _ _ _ 16 _ _ _ _)
             exact R_ireturn dX11_sheet_16 trivial hQ)
        · first
          | (exfalso; omega)
          | (refine R_iload_n dX11_sheet_4 rfl (?_ : RR _ _ _ _ 5 _ _ _ _)
             refine R_iconst dX11_sheet_5 (?_ : RR _ _ _ _ 6 _ _ _ _)
             refine R_icmp_gt (t := 15) dX11_sheet_6 rfl (fun c6 => ?_) (fun c6 => ?_)
             · first
               | (exfalso; omega)
               | (refine R_iconst dX11_sheet_15 (?_ : RR _ _ _ _ 16 _ _ _ _)
                  exact R_ireturn dX11_sheet_16 trivial hQ)
             · first
               | (exfalso; omega)
               | (exfalso; omega))
    · by_cases y : 0 ≤ kd ∧ kd ≤ 3
      · refine R_aload_n dX12_sheet_0 rfl (?_ : RR _ _ _ _ 1 _ _ _ _)
        refine R_iconst dX12_sheet_1 (?_ : RR _ _ _ _ 2 _ _ _ _)
        refine R_puti (zk := 0) dX12_sheet_2 flX12_106 cok_12 (by decide) (fun q hq => by cases hq; rfl) rfl (?_ : RR _ _ _ _ 5 _ _ _ _)
        try simp (disch := omega) only [rup_rup, rup_sort, rupS_def, rup_s, rup_n, fup_fup, fup_s, fup_n]
        refine R_iload_n dX12_sheet_5 rfl (?_ : RR _ _ _ _ 6 _ _ _ _)
        refine R_i2l dX12_sheet_6 (by first | assumption | omega) (?_ : RR _ _ _ _ 7 _ _ _ _)
        refine R_lconst (z := 0) dX12_sheet_7 rfl (?_ : RR _ _ _ _ 8 _ _ _ _)
        refine R_ldc2 (z := 3) dX12_sheet_8 klX12_330 (?_ : RR _ _ _ _ 11 _ _ _ _)
        refine R_cSi3 dX12_sheet_11 msX12_in mlX12_120 (by decide) (Nat.le_of_ble_eq_true rfl) (Nat.le_of_ble_eq_true rfl) (T_X12_in) (?_ : RR _ _ _ _ 14 _ _ _ _)
        try simp (disch := omega) only [rup_rup, rup_sort, rupS_def, rup_s, rup_n, fup_fup, fup_s, fup_n]
        rw [if_pos y]
        refine R_if_eq (t := 23) dX12_sheet_14 rfl (fun c14 => ?_) (fun c14 => ?_)
        · exfalso; omega
        refine R_iload_n dX12_sheet_17 rfl (?_ : RR _ _ _ _ 18 _ _ _ _)
        refine R_bipush dX12_sheet_18 rfl (?_ : RR _ _ _ _ 20 _ _ _ _)
        refine R_icmp_le (t := 25) dX12_sheet_20 rfl (fun c20 => ?_) (fun c20 => ?_)
        · exfalso; omega
        refine R_iconst dX12_sheet_23 (?_ : RR _ _ _ _ 24 _ _ _ _)
        exact R_ireturn dX12_sheet_24 trivial hQ
      · refine R_aload_n dX12_sheet_0 rfl (?_ : RR _ _ _ _ 1 _ _ _ _)
        refine R_iconst dX12_sheet_1 (?_ : RR _ _ _ _ 2 _ _ _ _)
        refine R_puti (zk := 0) dX12_sheet_2 flX12_106 cok_12 (by decide) (fun q hq => by cases hq; rfl) rfl (?_ : RR _ _ _ _ 5 _ _ _ _)
        try simp (disch := omega) only [rup_rup, rup_sort, rupS_def, rup_s, rup_n, fup_fup, fup_s, fup_n]
        refine R_iload_n dX12_sheet_5 rfl (?_ : RR _ _ _ _ 6 _ _ _ _)
        refine R_i2l dX12_sheet_6 (by first | assumption | omega) (?_ : RR _ _ _ _ 7 _ _ _ _)
        refine R_lconst (z := 0) dX12_sheet_7 rfl (?_ : RR _ _ _ _ 8 _ _ _ _)
        refine R_ldc2 (z := 3) dX12_sheet_8 klX12_330 (?_ : RR _ _ _ _ 11 _ _ _ _)
        refine R_cSi3 dX12_sheet_11 msX12_in mlX12_120 (by decide) (Nat.le_of_ble_eq_true rfl) (Nat.le_of_ble_eq_true rfl) (T_X12_in) (?_ : RR _ _ _ _ 14 _ _ _ _)
        try simp (disch := omega) only [rup_rup, rup_sort, rupS_def, rup_s, rup_n, fup_fup, fup_s, fup_n]
        rw [if_neg y]
        refine R_if_eq (t := 23) dX12_sheet_14 rfl (fun c14 => ?_) (fun c14 => ?_)
        rotate_left
        · exfalso; omega
        refine R_iconst dX12_sheet_23 (?_ : RR _ _ _ _ 24 _ _ _ _)
        exact R_ireturn dX12_sheet_24 trivial hQ
end SH
