section CT2
variable {k : Nat} {h h1 h2 h3 h4 : Nat → Int → Int} {H l : Nat} {ex mi : Int → Int} {fit : Int → Int → Bool} {st : Int}
theorem wyS_at {kk m : Nat} {c : Int} (hk : kk + m = l) : wyS ex fit l m c = if fit kk c then (if m = 0 then 1 else rbS ex (wyS ex fit l (m - 1)) (2 * c) + rbS ex (wyS ex fit l (m - 1)) (2 * c + 1)) else 0 := by
  cases m with
  | zero =>
    obtain rfl : kk = l := by omega
    rfl
  | succ m =>
    show (if fit ((l : Int) - (m + 1 : Nat)) c then _ else _) = _
    rw [show (l : Int) - (m + 1 : Nat) = (kk : Int) by omega, if_neg (show ¬ m + 1 = 0 by omega), Nat.add_sub_cancel]
theorem rbS_congr {ex' w w' : Int → Int} {e : Int} (h1 : ex e = ex' e) (h2 : 0 ≤ ex' e → w (ex' e) = w' (ex' e)) : rbS ex w e = rbS ex' w' e := by
  unfold rbS
  rw [h1]
  by_cases q : ex' e < 0
  · rw [if_pos q, if_pos q]
  · rw [if_neg q, if_neg q, h2 (by omega)]
/-- what the class's traces rest on -/
def trK (h : Nat → Int → Int) (H l : Nat) (ex mi : Int → Int) (fit : Int → Int → Bool) (st : Int) : Prop :=
  h 3 0 = H ∧ H ≤ 9 ∧ exB (h 4) ∧ (∀ e : Int, 0 ≤ e → e < 2 * H → h 4 e = ex e) ∧ exK H ex mi ∧ h 138 1 = l ∧ l ≤ 12 ∧ (∀ k : Nat, k ≤ 12 → ∃ al : Nat, al < 512 ∧ h 139 k = al ∧ ∀ c : Nat, c < 9 → al.testBit c = fit k c) ∧ 0 ≤ st ∧ st < H
/-- the ways behind some steps -/
def trW (H l : Nat) (ex : Int → Int) (fit : Int → Int → Bool) (m : Nat) (w : Int → Int) : Prop := ∀ m' c : Nat, m' < m → c < H → w (((l : Int) - m') * 9 + c) = wyS ex fit l m' c
theorem trW_i {m : Nat} {w : Int → Int} (hw : trW H l ex fit m w) {m' : Nat} {c : Int} (h1 : m' < m) (h2 : 0 ≤ c) (h3 : c < H) : w (((l : Int) - m') * 9 + c) = wyS ex fit l m' c := by
  obtain ⟨n, rfl⟩ := Int.eq_ofNat_of_zero_le h2
  exact hw m' n h1 (by omega)
theorem C_trace (hT : trK h H l ex mi fit st) : RR mX6_trace 2 0 0 0 (pm_ent [pR 138, pR 3, pI st] mX6_trace.2.2.1) [] (shp0, rf0, h) (fun r' g' => r' = none ∧ ∃ f w : Int → Int, g' = (shp0, rf0, rup (rup h 140 f) 141 w) ∧ trW H l ex fit (l + 1) w ∧ ∀ k : Nat, k ≤ l → f k = ((rcK ex fit l H st k : Nat) : Int)) := by
  obtain ⟨hH, hH9, hE4, hEx, hK, hl, hl12, hal, hst⟩ := hT
  have n3 := isNet_3
  suffices hS : ∀ Q : Option PV → PH → Prop, (∀ f w : Int → Int, trW H l ex fit (l + 1) w → (∀ k : Nat, k ≤ l → f k = ((rcK ex fit l H st k : Nat) : Int)) → Q none (shp0, rf0, rup (rup h 140 f) 141 w)) → RR mX6_trace 2 0 0 0 [pR 138, pR 3, pI st, pU, pU, pU] [] (shp0, rf0, h) Q from hS _ (fun f w a b => ⟨rfl, f, w, rfl, a, b⟩)
  intro Q hQ
  have hrl := rcK_lt (fit := fit) (l := l) hK hst
  have h29 : 2 ^ H ≤ 2 ^ 9 := Nat.pow_le_pow_right (by omega) hH9
  -- the halts
  have KC : ∀ (j k : Nat) (f w : Int → Int) (w4 w5 : PV), k + j = l → trW H l ex fit (l + 1) w → (∀ i : Nat, i ≤ k → f i = ((rcK ex fit l H st i : Nat) : Int)) → RR mX6_trace 2 0 0 108 [pR 138, pR 3, pI st, pI ((k : Int) + 1), w4, w5] [] (shp0, rf0, rup (rup h 140 f) 141 w) Q := by
    intro j
    induction j with
    | zero =>
      intro k f w w4 w5 hk hw hf
      obtain rfl : k = l := by omega
      have g1 : rup (rup h 140 f) 141 w 138 1 = k := by rw [rup_n (by omega), rup_n (by omega)]; exact hl
      refine R_iload_n dX6_trace_108 rfl (?_ : RR _ _ _ _ 109 _ _ _ _)
      refine R_aload_n dX6_trace_109 rfl (?_ : RR _ _ _ _ 110 _ _ _ _)
      refine R_geti (z := 1) dX6_trace_110 flX6_25 cok_6 rfl (by decide) rfl (fun q110 => (?_ : RR _ _ _ _ 113 _ _ _ _))
      first | rw [g1] at q110 ⊢ | rw [hl] at q110 ⊢
      refine R_icmp_gt (t := 136) dX6_trace_113 rfl (fun c113 => ?_) (fun c113 => ?_)
      rotate_left
      · exfalso; omega
      exact R_return dX6_trace_136 trivial (hQ f w hw hf)
    | succ j ih =>
      intro k f w w4 w5 hk hw hf
      have g1 : rup (rup h 140 f) 141 w 138 1 = l := by rw [rup_n (by omega), rup_n (by omega)]; exact hl
      have hrk := hrl k
      have hrk1 := hrl (k + 1)
      have hrf := T_X6_reachedFrom (h := rup (rup h 140 f) 141 w) (n := 3) (k := k) (R := rcK ex fit l H st k) (H := H) (by rw [rup_n (by omega), rup_n (by omega)]; exact hH) hH9 (by rw [rup_n (by omega), rup_n (by omega)]; exact hE4) (by rw [rup_n (by omega), rup_s]; exact hf k (by omega)) (by omega) (by omega)
      have ere : rcS (rup (rup h 140 f) 141 w (3 + 1)) (fun d => rup (rup h 140 f) 141 w 141 (((k : Int) + 1) * 9 + d)) (rcK ex fit l H st k) (2 * H) = rcK ex fit l H st (k + 1) := by
        show _ = rcS ex (wyS ex fit l (l - (k + 1))) (rcK ex fit l H st k) (2 * H)
        rw [rup_n (by omega), rup_n (by omega)]
        refine rcS_congr (fun e he => ⟨hEx e (by omega) (by omega), fun hne => ?_⟩)
        have hxe := hK e (by omega) (by omega)
        show rup (rup h 140 f) 141 w 141 (((k : Int) + 1) * 9 + ex e) = _
        rw [rup_s, ← trW_i hw (m' := l - (k + 1)) (by omega) (show 0 ≤ ex e by omega) (by omega)]
        congr 2
        omega
      rw [ere] at hrf
      have IH := fun w4 w5 => ih (k + 1) (fup f ((k : Int) + 1) (rcK ex fit l H st (k + 1) : Nat)) w w4 w5 (by omega) hw (fun i hi => by
        by_cases y : i = k + 1
        · subst y
          rw [show (((k + 1 : Nat)) : Int) = (k : Int) + 1 from rfl, fup_s]
        · rw [fup_n (by omega)]
          exact hf i (by omega))
      refine R_iload_n dX6_trace_108 rfl (?_ : RR _ _ _ _ 109 _ _ _ _)
      refine R_aload_n dX6_trace_109 rfl (?_ : RR _ _ _ _ 110 _ _ _ _)
      refine R_geti (z := 1) dX6_trace_110 flX6_25 cok_6 rfl (by decide) rfl (fun q110 => (?_ : RR _ _ _ _ 113 _ _ _ _))
      try simp (disch := omega) only [rup_rup, rup_sort, rupS_def, rup_s, rup_n, fup_fup, fup_s, fup_n] at q110 ⊢
      first | rw [g1] at q110 ⊢ | rw [hl] at q110 ⊢
      refine R_icmp_gt (t := 136) dX6_trace_113 rfl (fun c113 => ?_) (fun c113 => ?_)
      · exfalso; omega
      refine R_aload_n dX6_trace_116 rfl (?_ : RR _ _ _ _ 117 _ _ _ _)
      refine R_getr dX6_trace_117 flX6_15 cok_6 rfl (by decide) (?_ : RR _ _ _ _ 120 _ _ _ _)
      refine R_iload_n dX6_trace_120 rfl (?_ : RR _ _ _ _ 121 _ _ _ _)
      refine R_aload_n dX6_trace_121 rfl (?_ : RR _ _ _ _ 122 _ _ _ _)
      refine R_aload_n dX6_trace_122 rfl (?_ : RR _ _ _ _ 123 _ _ _ _)
      refine R_iload_n dX6_trace_123 rfl (?_ : RR _ _ _ _ 124 _ _ _ _)
      refine R_iconst dX6_trace_124 (?_ : RR _ _ _ _ 125 _ _ _ _)
      refine R_isub dX6_trace_125 (?_ : RR _ _ _ _ 126 _ _ _ _)
      rw [show (k : Int) + 1 - 1 = k by omega]
      refine R_cVi2 dX6_trace_126 mvX6_reachedFrom mlX6_46 (by decide) (by decide) (Nat.le_of_ble_eq_true rfl) (Nat.le_of_ble_eq_true rfl) (hrf) (?_ : RR _ _ _ _ 129 _ _ _ _)
      try simp (disch := omega) only [rup_rup, rup_sort, rupS_def, rup_s, rup_n, fup_fup, fup_s, fup_n]
      refine R_iast dX6_trace_129 (?_ : RR _ _ _ _ 130 _ _ _ _)
      try simp (disch := omega) only [rup_rup, rup_sort, rupS_def, rup_s, rup_n, fup_fup, fup_s, fup_n]
      refine R_iinc dX6_trace_130 rfl (Nat.le_of_ble_eq_true rfl) (?_ : RR _ _ _ _ 133 [_, _, _, _, _, _] _ _ _)
      refine R_goto (t := 108) dX6_trace_133 rfl (?_ : RR _ _ _ _ 108 _ _ _ _)
      exact IH _ _
  have KB : ∀ (w : Int → Int) (w3 w4 w5 : PV), trW H l ex fit (l + 1) w → RR mX6_trace 2 0 0 84 [pR 138, pR 3, pI st, w3, w4, w5] [] (shp0, rf0, rup h 141 w) Q := by
    intro w w3 w4 w5 hw
    have e0 : w (0 * 9 + st) = wyS ex fit l l st := by
      rw [← trW_i hw (m' := l) (by omega) hst.1 hst.2]
      congr 2
      omega
    have hb := wyS_4096 (ex := ex) (fit := fit) (l := l) (c := st) hl12
    have C0 := fun z w4 w5 (hz : z = ((rcK ex fit l H st 0 : Nat) : Int)) => KC l 0 (fup (h 140) 0 z) w w4 w5 (by omega) hw (fun i hi => by
      obtain rfl : i = 0 := by omega
      rw [show (((0 : Nat)) : Int) = 0 from rfl, fup_s, hz])
    have er : rcK ex fit l H st 0 = if 0 < wyS ex fit l l st then 2 ^ st.toNat else 0 := rfl
    have hsh := pw_9 (a := st) (by omega)
    have hp : 2 ^ st.toNat < 2 ^ 9 := Nat.pow_lt_pow_right (by omega) (by omega)
    by_cases y : 0 < wyS ex fit l l st
    · rw [if_pos y] at er
      refine R_aload_n dX6_trace_84 rfl (?_ : RR _ _ _ _ 85 _ _ _ _)
      refine R_getr dX6_trace_85 flX6_15 cok_6 rfl (by decide) (?_ : RR _ _ _ _ 88 _ _ _ _)
      refine R_iconst dX6_trace_88 (?_ : RR _ _ _ _ 89 _ _ _ _)
      refine R_aload_n dX6_trace_89 rfl (?_ : RR _ _ _ _ 90 _ _ _ _)
      refine R_iconst dX6_trace_90 (?_ : RR _ _ _ _ 91 _ _ _ _)
      refine R_iload_n dX6_trace_91 rfl (?_ : RR _ _ _ _ 92 _ _ _ _)
      refine R_cVi2 dX6_trace_92 mvX6_waysFrom mlX6_43 (by decide) (by decide) (Nat.le_of_ble_eq_true rfl) (Nat.le_of_ble_eq_true rfl) (T_X6_waysFrom) (?_ : RR _ _ _ _ 95 _ _ _ _)
      try simp (disch := omega) only [rup_rup, rup_sort, rupS_def, rup_s, rup_n, fup_fup, fup_s, fup_n]
      first | rw [rup_s, e0] | rw [e0]
      refine R_if_le (t := 104) dX6_trace_95 rfl (fun c95 => ?_) (fun c95 => ?_)
      · exfalso; omega
      refine R_iconst dX6_trace_98 (?_ : RR _ _ _ _ 99 _ _ _ _)
      refine R_iload_n dX6_trace_99 rfl (?_ : RR _ _ _ _ 100 _ _ _ _)
      refine R_ishl dX6_trace_100 (?_ : RR _ _ _ _ 101 _ _ _ _)
      rw [hsh]
      refine R_goto (t := 105) dX6_trace_101 rfl (?_ : RR _ _ _ _ 105 _ _ _ _)
      refine R_iast dX6_trace_105 (?_ : RR _ _ _ _ 106 _ _ _ _)
      try simp (disch := omega) only [rup_rup, rup_sort, rupS_def, rup_s, rup_n, fup_fup, fup_s, fup_n]
      refine R_iconst dX6_trace_106 (?_ : RR _ _ _ _ 107 _ _ _ _)
      refine R_istore_n dX6_trace_107 (Nat.le_of_ble_eq_true rfl) (?_ : RR _ _ _ _ 108 [_, _, _, _, _, _] _ _ _)
      exact C0 _ _ _ (by rw [er])
    · rw [if_neg y] at er
      refine R_aload_n dX6_trace_84 rfl (?_ : RR _ _ _ _ 85 _ _ _ _)
      refine R_getr dX6_trace_85 flX6_15 cok_6 rfl (by decide) (?_ : RR _ _ _ _ 88 _ _ _ _)
      refine R_iconst dX6_trace_88 (?_ : RR _ _ _ _ 89 _ _ _ _)
      refine R_aload_n dX6_trace_89 rfl (?_ : RR _ _ _ _ 90 _ _ _ _)
      refine R_iconst dX6_trace_90 (?_ : RR _ _ _ _ 91 _ _ _ _)
      refine R_iload_n dX6_trace_91 rfl (?_ : RR _ _ _ _ 92 _ _ _ _)
      refine R_cVi2 dX6_trace_92 mvX6_waysFrom mlX6_43 (by decide) (by decide) (Nat.le_of_ble_eq_true rfl) (Nat.le_of_ble_eq_true rfl) (T_X6_waysFrom) (?_ : RR _ _ _ _ 95 _ _ _ _)
      try simp (disch := omega) only [rup_rup, rup_sort, rupS_def, rup_s, rup_n, fup_fup, fup_s, fup_n]
      first | rw [rup_s, e0] | rw [e0]
      refine R_if_le (t := 104) dX6_trace_95 rfl (fun c95 => ?_) (fun c95 => ?_)
      rotate_left
      · exfalso; omega
      refine R_iconst dX6_trace_104 (?_ : RR _ _ _ _ 105 _ _ _ _)
      refine R_iast dX6_trace_105 (?_ : RR _ _ _ _ 106 _ _ _ _)
      try simp (disch := omega) only [rup_rup, rup_sort, rupS_def, rup_s, rup_n, fup_fup, fup_s, fup_n]
      refine R_iconst dX6_trace_106 (?_ : RR _ _ _ _ 107 _ _ _ _)
      refine R_istore_n dX6_trace_107 (Nat.le_of_ble_eq_true rfl) (?_ : RR _ _ _ _ 108 [_, _, _, _, _, _] _ _ _)
      exact C0 _ _ _ (by rw [er]; rfl)
  have L1 : ∀ (j m : Nat) (w : Int → Int) (w4 w5 : PV), m + j = l + 1 → trW H l ex fit m w → RR mX6_trace 2 0 0 5 [pR 138, pR 3, pI st, pI ((l : Int) - m), w4, w5] [] (shp0, rf0, rup h 141 w) Q := by
    intro j
    induction j with
    | zero =>
      intro m w w4 w5 hm hw
      obtain rfl : m = l + 1 := by omega
      refine R_iload_n dX6_trace_5 rfl (?_ : RR _ _ _ _ 6 _ _ _ _)
      refine R_if_lt (t := 84) dX6_trace_6 rfl (fun c6 => ?_) (fun c6 => ?_)
      rotate_left
      · exfalso; omega
      exact KB w _ _ _ hw
    | succ j ih =>
      intro m w w4 w5 hm hw
      obtain ⟨kk, hkk⟩ : ∃ kk : Nat, kk + m = l := ⟨l - m, by omega⟩
      obtain ⟨al, al1, al2, al3⟩ := hal kk (by omega)
      have L2 : ∀ (j2 c : Nat) (w : Int → Int) (w5 : PV), c + j2 = H → trW H l ex fit m w → (∀ c' : Nat, c' < c → w ((kk : Int) * 9 + c') = wyS ex fit l m c') → RR mX6_trace 2 0 0 12 [pR 138, pR 3, pI st, pI (kk : Int), pI c, w5] [] (shp0, rf0, rup h 141 w) Q := by
        intro j2
        induction j2 with
        | zero =>
          intro c w w5 hc hw hwc
          obtain rfl : c = H := by omega
          have g3 : rup h 141 w 3 0 = c := by rw [rup_n (by omega)]; exact hH
          have IH := fun w4 w5 => ih (m + 1) w w4 w5 (by omega) (fun m' c' hm' hc' => by
            by_cases y : m' = m
            · subst y
              rw [show (l : Int) - m' = kk by omega]
              exact hwc c' hc'
            · exact hw m' c' (by omega) hc')
          rw [show (l : Int) - ((m + 1 : Nat) : Int) = (kk : Int) + (-1) by omega] at IH
          refine R_iload dX6_trace_12 rfl (?_ : RR _ _ _ _ 14 _ _ _ _)
          refine R_aload_n dX6_trace_14 rfl (?_ : RR _ _ _ _ 15 _ _ _ _)
          refine R_geti (z := 0) dX6_trace_15 flX6_34 cok_0 rfl (by decide) rfl (fun q15 => (?_ : RR _ _ _ _ 18 _ _ _ _))
          first | rw [g3] at q15 ⊢ | rw [hH] at q15 ⊢
          refine R_icmp_ge (t := 78) dX6_trace_18 rfl (fun c18 => ?_) (fun c18 => ?_)
          rotate_left
          · exfalso; omega
          refine R_iinc dX6_trace_78 rfl (Nat.le_of_ble_eq_true rfl) (?_ : RR _ _ _ _ 81 [_, _, _, _, _, _] _ _ _)
          refine R_goto (t := 5) dX6_trace_81 rfl (?_ : RR _ _ _ _ 5 _ _ _ _)
          exact IH _ _
        | succ j2 ih2 =>
          intro c w w5 hc hw hwc
          have g3 : rup h 141 w 3 0 = H := by rw [rup_n (by omega)]; exact hH
          have g139 : rup h 141 w 139 (kk : Int) = al := by rw [rup_n (by omega)]; exact al2
          have hbit := iBit (s := al) (i := c) (by omega) (by omega)
          rw [al3 c (by omega)] at hbit
          have hat := wyS_at (ex := ex) (fit := fit) (c := (c : Int)) hkk
          have hwb := wyS_4096 (ex := ex) (fit := fit) (l := l) (m := m) (c := c) (by omega)
          have IH := fun w5 => ih2 (c + 1) (fup w ((kk : Int) * 9 + c) (wyS ex fit l m c)) w5 (by omega) (fun m' c' hm' hc' => by rw [fup_n (by omega)]; exact hw m' c' hm' hc') (fun c' hc' => by
            by_cases y : c' = c
            · subst y; rw [fup_s]
            · rw [fup_n (by omega)]; exact hwc c' (by omega))
          have g1 : rup h 141 w 138 1 = l := by rw [rup_n (by omega)]; exact hl
          by_cases y : fit kk c = true
          · rw [if_pos y] at hbit hat
            by_cases z : m = 0
            · rw [if_pos z] at hat
              have hw1 := T_X6_waysOn1 (h := rup h 141 w) (n := 3) (k := (kk : Int)) (c := (c : Int)) (by rw [g1]; omega) (by omega)
              rw [hat] at IH
              refine R_iload dX6_trace_12 rfl (?_ : RR _ _ _ _ 14 _ _ _ _)
              refine R_aload_n dX6_trace_14 rfl (?_ : RR _ _ _ _ 15 _ _ _ _)
              refine R_geti (z := 0) dX6_trace_15 flX6_34 cok_0 rfl (by decide) rfl (fun q15 => (?_ : RR _ _ _ _ 18 _ _ _ _))
              try simp (disch := omega) only [rup_rup, rup_sort, rupS_def, rup_s, rup_n, fup_fup, fup_s, fup_n] at q15 ⊢
              first | rw [g3] at q15 ⊢ | rw [hH] at q15 ⊢
              refine R_icmp_ge (t := 78) dX6_trace_18 rfl (fun c18 => ?_) (fun c18 => ?_)
              · exfalso; omega
              refine R_aload_n dX6_trace_21 rfl (?_ : RR _ _ _ _ 22 _ _ _ _)
              refine R_getr dX6_trace_22 flX6_11 cok_6 rfl (by decide) (?_ : RR _ _ _ _ 25 _ _ _ _)
              refine R_iload_n dX6_trace_25 rfl (?_ : RR _ _ _ _ 26 _ _ _ _)
              refine R_iald dX6_trace_26 (fun q26 => (?_ : RR _ _ _ _ 27 _ _ _ _))
              try simp (disch := omega) only [rup_rup, rup_sort, rupS_def, rup_s, rup_n, fup_fup, fup_s, fup_n] at q26 ⊢
              rw [al2] at q26 ⊢
              refine R_iload dX6_trace_27 rfl (?_ : RR _ _ _ _ 29 _ _ _ _)
              refine R_ishr dX6_trace_29 (?_ : RR _ _ _ _ 30 _ _ _ _)
              refine R_iconst dX6_trace_30 (?_ : RR _ _ _ _ 31 _ _ _ _)
              refine R_iand dX6_trace_31 (?_ : RR _ _ _ _ 32 _ _ _ _)
              rw [hbit]
              refine R_iconst dX6_trace_32 (?_ : RR _ _ _ _ 33 _ _ _ _)
              refine R_icmp_ne (t := 40) dX6_trace_33 rfl (fun c33 => ?_) (fun c33 => ?_)
              · exfalso; omega
              refine R_iconst dX6_trace_36 (?_ : RR _ _ _ _ 37 _ _ _ _)
              refine R_goto (t := 41) dX6_trace_37 rfl (?_ : RR _ _ _ _ 41 _ _ _ _)
              refine R_istore dX6_trace_41 (Nat.le_of_ble_eq_true rfl) (?_ : RR _ _ _ _ 43 [_, _, _, _, _, _] _ _ _)
              refine R_aload_n dX6_trace_43 rfl (?_ : RR _ _ _ _ 44 _ _ _ _)
              refine R_getr dX6_trace_44 flX6_18 cok_6 rfl (by decide) (?_ : RR _ _ _ _ 47 _ _ _ _)
              refine R_iload_n dX6_trace_47 rfl (?_ : RR _ _ _ _ 48 _ _ _ _)
              refine R_bipush dX6_trace_48 rfl (?_ : RR _ _ _ _ 50 _ _ _ _)
              refine R_imul dX6_trace_50 (?_ : RR _ _ _ _ 51 _ _ _ _)
              refine R_iload dX6_trace_51 rfl (?_ : RR _ _ _ _ 53 _ _ _ _)
              refine R_iadd dX6_trace_53 (?_ : RR _ _ _ _ 54 _ _ _ _)
              refine R_iload dX6_trace_54 rfl (?_ : RR _ _ _ _ 56 _ _ _ _)
              refine R_if_eq (t := 70) dX6_trace_56 rfl (fun c56 => ?_) (fun c56 => ?_)
              · exfalso; omega
              refine R_aload_n dX6_trace_59 rfl (?_ : RR _ _ _ _ 60 _ _ _ _)
              refine R_aload_n dX6_trace_60 rfl (?_ : RR _ _ _ _ 61 _ _ _ _)
              refine R_iload_n dX6_trace_61 rfl (?_ : RR _ _ _ _ 62 _ _ _ _)
              refine R_iload dX6_trace_62 rfl (?_ : RR _ _ _ _ 64 _ _ _ _)
              refine R_cVi3 dX6_trace_64 mvX6_waysOn mlX6_39 (by decide) (by decide) (Nat.le_of_ble_eq_true rfl) (Nat.le_of_ble_eq_true rfl) (hw1) (?_ : RR _ _ _ _ 67 _ _ _ _)
              try simp (disch := omega) only [rup_rup, rup_sort, rupS_def, rup_s, rup_n, fup_fup, fup_s, fup_n]
              refine R_goto (t := 71) dX6_trace_67 rfl (?_ : RR _ _ _ _ 71 _ _ _ _)
              refine R_iast dX6_trace_71 (?_ : RR _ _ _ _ 72 _ _ _ _)
              try simp (disch := omega) only [rup_rup, rup_sort, rupS_def, rup_s, rup_n, fup_fup, fup_s, fup_n]
              refine R_iinc dX6_trace_72 rfl (Nat.le_of_ble_eq_true rfl) (?_ : RR _ _ _ _ 75 [_, _, _, _, _, _] _ _ _)
              refine R_goto (t := 12) dX6_trace_75 rfl (?_ : RR _ _ _ _ 12 _ _ _ _)
              exact IH _
            · rw [if_neg z] at hat
              have hw2 := T_X6_waysOn2 (h := rup h 141 w) (n := 3) (k := (kk : Int)) (c := (c : Int)) (by rw [rup_n (by omega)]; exact hE4) (by rw [g1]; omega) (by omega) (by omega)
              have eq2 : ∀ e : Int, 0 ≤ e → e < 2 * H → rbS (rup h 141 w (3 + 1)) (fun d => rup h 141 w 141 (((kk : Int) + 1) * 9 + d)) e = rbS ex (wyS ex fit l (m - 1)) e := fun e e0 e1 => by
                rw [rup_n (by omega)]
                refine rbS_congr (hEx e e0 e1) (fun hp => ?_)
                have hxe := hK e e0 e1
                show rup h 141 w 141 (((kk : Int) + 1) * 9 + ex e) = _
                rw [rup_s, ← trW_i hw (m' := m - 1) (by omega) hp (by omega)]
                congr 2
                omega
              rw [eq2 (2 * c) (by omega) (by omega), eq2 (2 * c + 1) (by omega) (by omega), Int.zero_add, ← hat] at hw2
              refine R_iload dX6_trace_12 rfl (?_ : RR _ _ _ _ 14 _ _ _ _)
              refine R_aload_n dX6_trace_14 rfl (?_ : RR _ _ _ _ 15 _ _ _ _)
              refine R_geti (z := 0) dX6_trace_15 flX6_34 cok_0 rfl (by decide) rfl (fun q15 => (?_ : RR _ _ _ _ 18 _ _ _ _))
              try simp (disch := omega) only [rup_rup, rup_sort, rupS_def, rup_s, rup_n, fup_fup, fup_s, fup_n] at q15 ⊢
              first | rw [g3] at q15 ⊢ | rw [hH] at q15 ⊢
              refine R_icmp_ge (t := 78) dX6_trace_18 rfl (fun c18 => ?_) (fun c18 => ?_)
              · exfalso; omega
              refine R_aload_n dX6_trace_21 rfl (?_ : RR _ _ _ _ 22 _ _ _ _)
              refine R_getr dX6_trace_22 flX6_11 cok_6 rfl (by decide) (?_ : RR _ _ _ _ 25 _ _ _ _)
              refine R_iload_n dX6_trace_25 rfl (?_ : RR _ _ _ _ 26 _ _ _ _)
              refine R_iald dX6_trace_26 (fun q26 => (?_ : RR _ _ _ _ 27 _ _ _ _))
              try simp (disch := omega) only [rup_rup, rup_sort, rupS_def, rup_s, rup_n, fup_fup, fup_s, fup_n] at q26 ⊢
              rw [al2] at q26 ⊢
              refine R_iload dX6_trace_27 rfl (?_ : RR _ _ _ _ 29 _ _ _ _)
              refine R_ishr dX6_trace_29 (?_ : RR _ _ _ _ 30 _ _ _ _)
              refine R_iconst dX6_trace_30 (?_ : RR _ _ _ _ 31 _ _ _ _)
              refine R_iand dX6_trace_31 (?_ : RR _ _ _ _ 32 _ _ _ _)
              rw [hbit]
              refine R_iconst dX6_trace_32 (?_ : RR _ _ _ _ 33 _ _ _ _)
              refine R_icmp_ne (t := 40) dX6_trace_33 rfl (fun c33 => ?_) (fun c33 => ?_)
              · exfalso; omega
              refine R_iconst dX6_trace_36 (?_ : RR _ _ _ _ 37 _ _ _ _)
              refine R_goto (t := 41) dX6_trace_37 rfl (?_ : RR _ _ _ _ 41 _ _ _ _)
              refine R_istore dX6_trace_41 (Nat.le_of_ble_eq_true rfl) (?_ : RR _ _ _ _ 43 [_, _, _, _, _, _] _ _ _)
              refine R_aload_n dX6_trace_43 rfl (?_ : RR _ _ _ _ 44 _ _ _ _)
              refine R_getr dX6_trace_44 flX6_18 cok_6 rfl (by decide) (?_ : RR _ _ _ _ 47 _ _ _ _)
              refine R_iload_n dX6_trace_47 rfl (?_ : RR _ _ _ _ 48 _ _ _ _)
              refine R_bipush dX6_trace_48 rfl (?_ : RR _ _ _ _ 50 _ _ _ _)
              refine R_imul dX6_trace_50 (?_ : RR _ _ _ _ 51 _ _ _ _)
              refine R_iload dX6_trace_51 rfl (?_ : RR _ _ _ _ 53 _ _ _ _)
              refine R_iadd dX6_trace_53 (?_ : RR _ _ _ _ 54 _ _ _ _)
              refine R_iload dX6_trace_54 rfl (?_ : RR _ _ _ _ 56 _ _ _ _)
              refine R_if_eq (t := 70) dX6_trace_56 rfl (fun c56 => ?_) (fun c56 => ?_)
              · exfalso; omega
              refine R_aload_n dX6_trace_59 rfl (?_ : RR _ _ _ _ 60 _ _ _ _)
              refine R_aload_n dX6_trace_60 rfl (?_ : RR _ _ _ _ 61 _ _ _ _)
              refine R_iload_n dX6_trace_61 rfl (?_ : RR _ _ _ _ 62 _ _ _ _)
              refine R_iload dX6_trace_62 rfl (?_ : RR _ _ _ _ 64 _ _ _ _)
              refine R_cVi3 dX6_trace_64 mvX6_waysOn mlX6_39 (by decide) (by decide) (Nat.le_of_ble_eq_true rfl) (Nat.le_of_ble_eq_true rfl) (hw2) (?_ : RR _ _ _ _ 67 _ _ _ _)
              try simp (disch := omega) only [rup_rup, rup_sort, rupS_def, rup_s, rup_n, fup_fup, fup_s, fup_n]
              refine R_goto (t := 71) dX6_trace_67 rfl (?_ : RR _ _ _ _ 71 _ _ _ _)
              refine R_iast dX6_trace_71 (?_ : RR _ _ _ _ 72 _ _ _ _)
              try simp (disch := omega) only [rup_rup, rup_sort, rupS_def, rup_s, rup_n, fup_fup, fup_s, fup_n]
              refine R_iinc dX6_trace_72 rfl (Nat.le_of_ble_eq_true rfl) (?_ : RR _ _ _ _ 75 [_, _, _, _, _, _] _ _ _)
              refine R_goto (t := 12) dX6_trace_75 rfl (?_ : RR _ _ _ _ 12 _ _ _ _)
              exact IH _
          · rw [if_neg y] at hbit hat
            rw [hat] at IH
            refine R_iload dX6_trace_12 rfl (?_ : RR _ _ _ _ 14 _ _ _ _)
            refine R_aload_n dX6_trace_14 rfl (?_ : RR _ _ _ _ 15 _ _ _ _)
            refine R_geti (z := 0) dX6_trace_15 flX6_34 cok_0 rfl (by decide) rfl (fun q15 => (?_ : RR _ _ _ _ 18 _ _ _ _))
            try simp (disch := omega) only [rup_rup, rup_sort, rupS_def, rup_s, rup_n, fup_fup, fup_s, fup_n] at q15 ⊢
            first | rw [g3] at q15 ⊢ | rw [hH] at q15 ⊢
            refine R_icmp_ge (t := 78) dX6_trace_18 rfl (fun c18 => ?_) (fun c18 => ?_)
            · exfalso; omega
            refine R_aload_n dX6_trace_21 rfl (?_ : RR _ _ _ _ 22 _ _ _ _)
            refine R_getr dX6_trace_22 flX6_11 cok_6 rfl (by decide) (?_ : RR _ _ _ _ 25 _ _ _ _)
            refine R_iload_n dX6_trace_25 rfl (?_ : RR _ _ _ _ 26 _ _ _ _)
            refine R_iald dX6_trace_26 (fun q26 => (?_ : RR _ _ _ _ 27 _ _ _ _))
            try simp (disch := omega) only [rup_rup, rup_sort, rupS_def, rup_s, rup_n, fup_fup, fup_s, fup_n] at q26 ⊢
            rw [al2] at q26 ⊢
            refine R_iload dX6_trace_27 rfl (?_ : RR _ _ _ _ 29 _ _ _ _)
            refine R_ishr dX6_trace_29 (?_ : RR _ _ _ _ 30 _ _ _ _)
            refine R_iconst dX6_trace_30 (?_ : RR _ _ _ _ 31 _ _ _ _)
            refine R_iand dX6_trace_31 (?_ : RR _ _ _ _ 32 _ _ _ _)
            rw [hbit]
            refine R_iconst dX6_trace_32 (?_ : RR _ _ _ _ 33 _ _ _ _)
            refine R_icmp_ne (t := 40) dX6_trace_33 rfl (fun c33 => ?_) (fun c33 => ?_)
            rotate_left
            · exfalso; omega
            refine R_iconst dX6_trace_40 (?_ : RR _ _ _ _ 41 _ _ _ _)
            refine R_istore dX6_trace_41 (Nat.le_of_ble_eq_true rfl) (?_ : RR _ _ _ _ 43 [_, _, _, _, _, _] _ _ _)
            refine R_aload_n dX6_trace_43 rfl (?_ : RR _ _ _ _ 44 _ _ _ _)
            refine R_getr dX6_trace_44 flX6_18 cok_6 rfl (by decide) (?_ : RR _ _ _ _ 47 _ _ _ _)
            refine R_iload_n dX6_trace_47 rfl (?_ : RR _ _ _ _ 48 _ _ _ _)
            refine R_bipush dX6_trace_48 rfl (?_ : RR _ _ _ _ 50 _ _ _ _)
            refine R_imul dX6_trace_50 (?_ : RR _ _ _ _ 51 _ _ _ _)
            refine R_iload dX6_trace_51 rfl (?_ : RR _ _ _ _ 53 _ _ _ _)
            refine R_iadd dX6_trace_53 (?_ : RR _ _ _ _ 54 _ _ _ _)
            refine R_iload dX6_trace_54 rfl (?_ : RR _ _ _ _ 56 _ _ _ _)
            refine R_if_eq (t := 70) dX6_trace_56 rfl (fun c56 => ?_) (fun c56 => ?_)
            rotate_left
            · exfalso; omega
            refine R_iconst dX6_trace_70 (?_ : RR _ _ _ _ 71 _ _ _ _)
            refine R_iast dX6_trace_71 (?_ : RR _ _ _ _ 72 _ _ _ _)
            try simp (disch := omega) only [rup_rup, rup_sort, rupS_def, rup_s, rup_n, fup_fup, fup_s, fup_n]
            refine R_iinc dX6_trace_72 rfl (Nat.le_of_ble_eq_true rfl) (?_ : RR _ _ _ _ 75 [_, _, _, _, _, _] _ _ _)
            refine R_goto (t := 12) dX6_trace_75 rfl (?_ : RR _ _ _ _ 12 _ _ _ _)
            exact IH _
      have hkI : (l : Int) - m = kk := by omega
      rw [hkI]
      refine R_iload_n dX6_trace_5 rfl (?_ : RR _ _ _ _ 6 _ _ _ _)
      refine R_if_lt (t := 84) dX6_trace_6 rfl (fun c6 => ?_) (fun c6 => ?_)
      · exfalso; omega
      refine R_iconst dX6_trace_9 (?_ : RR _ _ _ _ 10 _ _ _ _)
      refine R_istore dX6_trace_10 (Nat.le_of_ble_eq_true rfl) (?_ : RR _ _ _ _ 12 [_, _, _, _, _, _] _ _ _)
      exact L2 H 0 w _ (by omega) hw (fun c hc => by omega)
  have L0 := fun w4 w5 => L1 (l + 1) 0 (h 141) w4 w5 (by omega) (fun m' c hm' => by omega)
  rw [rup_self, show (l : Int) - ((0 : Nat) : Int) = l by omega] at L0
  refine R_aload_n dX6_trace_0 rfl (?_ : RR _ _ _ _ 1 _ _ _ _)
  refine R_geti (z := 1) dX6_trace_1 flX6_25 cok_6 rfl (by decide) rfl (fun q1 => (?_ : RR _ _ _ _ 4 _ _ _ _))
  rw [hl] at q1 ⊢
  refine R_istore_n dX6_trace_4 (Nat.le_of_ble_eq_true rfl) (?_ : RR _ _ _ _ 5 [_, _, _, _, _, _] _ _ _)
  exact L0 _ _
/-- the least row, its last step first -/
def lsL (ex : Int → Int) (fit : Int → Int → Bool) (l : Nat) : Nat → Int → List Int → List Int
  | 0, _, L => L
  | m + 1, c, L => if 0 < rbS ex (wyS ex fit l m) (2 * c) then lsL ex fit l m (ex (2 * c)) (0 :: L) else lsL ex fit l m (ex (2 * c + 1)) (1 :: L)
theorem lsL_l {ex : Int → Int} {fit : Int → Int → Bool} {l : Nat} : ∀ (m : Nat) (c : Int) (L : List Int), (lsL ex fit l m c L).length = m + L.length
  | 0, c, L => by show L.length = 0 + L.length; omega
  | m + 1, c, L => by
    unfold lsL
    split
    · rw [lsL_l m, List.length_cons]; omega
    · rw [lsL_l m, List.length_cons]; omega
theorem rb_go {c : Int} {m : Nat} (hK : exK H ex mi) (hc : 0 ≤ c ∧ c < H) (hp : 0 < wyS ex fit l (m + 1) c) : (0 < rbS ex (wyS ex fit l m) (2 * c) → (0 ≤ ex (2 * c) ∧ ex (2 * c) < H) ∧ 0 < wyS ex fit l m (ex (2 * c))) ∧ (¬ 0 < rbS ex (wyS ex fit l m) (2 * c) → (0 ≤ ex (2 * c + 1) ∧ ex (2 * c + 1) < H) ∧ 0 < wyS ex fit l m (ex (2 * c + 1))) := by
  have k1 := hK (2 * c) (by omega) (by omega)
  have k2 := hK (2 * c + 1) (by omega) (by omega)
  have key : ∀ e : Int, 0 < rbS ex (wyS ex fit l m) e → 0 ≤ ex e ∧ 0 < wyS ex fit l m (ex e) := fun e he => by
    unfold rbS at he
    split at he
    · omega
    · exact ⟨by omega, he⟩
  refine ⟨fun q => ?_, fun q => ?_⟩
  · have := key _ q
    exact ⟨by omega, this.2⟩
  · have hs : 0 < rbS ex (wyS ex fit l m) (2 * c + 1) := by
      have hh : wyS ex fit l (m + 1) c = if fit ((l : Int) - (m + 1 : Nat)) c then rbS ex (wyS ex fit l m) (2 * c) + rbS ex (wyS ex fit l m) (2 * c + 1) else 0 := rfl
      rw [hh] at hp
      split at hp <;> omega
    have := key _ hs
    exact ⟨by omega, this.2⟩
theorem C_tellLeast {w : Int → Int} (hT : trK h H l ex mi fit st) (hw : trW H l ex fit (l + 1) w) (h141 : h 141 = w) (hp : 0 < wyS ex fit l l st) : RR mX6_tellLeast 1 0 0 0 (pm_ent [pR 138, pR 3, pI st, pR 145] mX6_tellLeast.2.2.1) [] (shp0, rf0, tlR h []) (fun r' g' => r' = none ∧ g' = (shp0, rf0, tlR h (lsL ex fit l l st []))) := by
  obtain ⟨hH, hH9, hE4, hEx, hK, hl, hl12, hal, hst⟩ := hT
  have n3 := isNet_3
  suffices hS : ∀ Q : Option PV → PH → Prop, Q none (shp0, rf0, tlR h (lsL ex fit l l st [])) → RR mX6_tellLeast 1 0 0 0 [pR 138, pR 3, pI st, pR 145, pU, pU, pU, pU, pU] [] (shp0, rf0, tlR h []) Q from hS _ ⟨rfl, rfl⟩
  intro Q hQ
  have L : ∀ (m k : Nat) (c : Int) (LL : List Int) (w6 w7 w8 : PV), k + m = l → LL.length = k → 0 ≤ c → c < H → 0 < wyS ex fit l m c → lsL ex fit l m c LL = lsL ex fit l l st [] → RR mX6_tellLeast 1 0 0 6 [pR 138, pR 3, pI st, pR 145, pI c, pI k, w6, w7, w8] [] (shp0, rf0, tlR h LL) Q := by
    intro m
    induction m with
    | zero =>
      intro k c LL w6 w7 w8 hk hL c0 c1 hpc hLL
      have g1 : tlR h LL 138 1 = l := by rw [tlR_n (by omega) (by omega)]; exact hl
      have hLL : LL = lsL ex fit l l st [] := hLL
      rw [← hLL] at hQ
      refine R_iload dX6_tellLeast_6 rfl (?_ : RR _ _ _ _ 8 _ _ _ _)
      refine R_aload_n dX6_tellLeast_8 rfl (?_ : RR _ _ _ _ 9 _ _ _ _)
      refine R_geti (z := 1) dX6_tellLeast_9 flX6_25 cok_6 rfl (by decide) rfl (fun q9 => (?_ : RR _ _ _ _ 12 _ _ _ _))
      rw [g1] at q9 ⊢
      refine R_icmp_ge (t := 110) dX6_tellLeast_12 rfl (fun c12 => ?_) (fun c12 => ?_)
      rotate_left
      · exfalso; omega
      exact R_return dX6_tellLeast_110 trivial hQ
    | succ m ih =>
      intro k c LL w6 w7 w8 hk hL c0 c1 hpc hLL
      have g1 : tlR h LL 138 1 = l := by rw [tlR_n (by omega) (by omega)]; exact hl
      obtain ⟨r1, r2⟩ := rb_go hK ⟨c0, c1⟩ hpc
      have k1 := hK (2 * c) (by omega) (by omega)
      have k2 := hK (2 * c + 1) (by omega) (by omega)
      have e1 : tlR h LL 4 (2 * c) = ex (2 * c) := by rw [tlR_n (by omega) (by omega)]; exact hEx _ (by omega) (by omega)
      have e2 : tlR h LL 4 (2 * c + 1) = ex (2 * c + 1) := by rw [tlR_n (by omega) (by omega)]; exact hEx _ (by omega) (by omega)
      have hLL : (if 0 < rbS ex (wyS ex fit l m) (2 * c) then lsL ex fit l m (ex (2 * c)) (0 :: LL) else lsL ex fit l m (ex (2 * c + 1)) (1 :: LL)) = lsL ex fit l l st [] := hLL
      have ew : 0 ≤ ex (2 * c) → tlR h LL 141 (((k : Int) + 1) * 9 + ex (2 * c)) = wyS ex fit l m (ex (2 * c)) := fun z => by
        rw [tlR_n (by omega) (by omega), h141, ← trW_i hw (m' := m) (by omega) z (by omega)]
        congr 2
        omega
      have hwb := wyS_4096 (ex := ex) (fit := fit) (l := l) (m := m) (c := ex (2 * c)) (by omega)
      by_cases y : 0 < rbS ex (wyS ex fit l m) (2 * c)
      · rw [if_pos y] at hLL
        obtain ⟨a1, a2⟩ := r1 y
        have IH := fun w6 w7 w8 => ih (k + 1) (ex (2 * c)) (0 :: LL) w6 w7 w8 (by omega) (by rw [List.length_cons, hL]) a1.1 a1.2 a2 hLL
        refine R_iload dX6_tellLeast_6 rfl (?_ : RR _ _ _ _ 8 _ _ _ _)
        refine R_aload_n dX6_tellLeast_8 rfl (?_ : RR _ _ _ _ 9 _ _ _ _)
        refine R_geti (z := 1) dX6_tellLeast_9 flX6_25 cok_6 rfl (by decide) rfl (fun q9 => (?_ : RR _ _ _ _ 12 _ _ _ _))
        rw [g1] at q9 ⊢
        refine R_icmp_ge (t := 110) dX6_tellLeast_12 rfl (fun c12 => ?_) (fun c12 => ?_)
        · exfalso; omega
        refine R_aload_n dX6_tellLeast_15 rfl (?_ : RR _ _ _ _ 16 _ _ _ _)
        refine R_getr dX6_tellLeast_16 flX6_50 cok_0 rfl (by decide) (?_ : RR _ _ _ _ 19 _ _ _ _)
        refine R_iconst dX6_tellLeast_19 (?_ : RR _ _ _ _ 20 _ _ _ _)
        refine R_iload dX6_tellLeast_20 rfl (?_ : RR _ _ _ _ 22 _ _ _ _)
        refine R_imul dX6_tellLeast_22 (?_ : RR _ _ _ _ 23 _ _ _ _)
        refine R_iald dX6_tellLeast_23 (fun q23 => (?_ : RR _ _ _ _ 24 _ _ _ _))
        rw [e1] at q23 ⊢
        refine R_istore dX6_tellLeast_24 (Nat.le_of_ble_eq_true rfl) (?_ : RR _ _ _ _ 26 [_, _, _, _, _, _, _, _, _] _ _ _)
        refine R_iload dX6_tellLeast_26 rfl (?_ : RR _ _ _ _ 28 _ _ _ _)
        refine R_iconst dX6_tellLeast_28 (?_ : RR _ _ _ _ 29 _ _ _ _)
        refine R_icmp_eq (t := 49) dX6_tellLeast_29 rfl (fun c29 => ?_) (fun c29 => ?_)
        · exfalso; omega
        refine R_aload_n dX6_tellLeast_32 rfl (?_ : RR _ _ _ _ 33 _ _ _ _)
        refine R_iload dX6_tellLeast_33 rfl (?_ : RR _ _ _ _ 35 _ _ _ _)
        refine R_iconst dX6_tellLeast_35 (?_ : RR _ _ _ _ 36 _ _ _ _)
        refine R_iadd dX6_tellLeast_36 (?_ : RR _ _ _ _ 37 _ _ _ _)
        refine R_iload dX6_tellLeast_37 rfl (?_ : RR _ _ _ _ 39 _ _ _ _)
        refine R_cVi2 dX6_tellLeast_39 mvX6_waysFrom mlX6_43 (by decide) (by decide) (Nat.le_of_ble_eq_true rfl) (Nat.le_of_ble_eq_true rfl) (T_X6_waysFrom) (?_ : RR _ _ _ _ 42 _ _ _ _)
        rw [ew a1.1]
        refine R_if_le (t := 49) dX6_tellLeast_42 rfl (fun c42 => ?_) (fun c42 => ?_)
        · exfalso; omega
        refine R_iconst dX6_tellLeast_45 (?_ : RR _ _ _ _ 46 _ _ _ _)
        refine R_goto (t := 50) dX6_tellLeast_46 rfl (?_ : RR _ _ _ _ 50 _ _ _ _)
        refine R_istore dX6_tellLeast_50 (Nat.le_of_ble_eq_true rfl) (?_ : RR _ _ _ _ 52 [_, _, _, _, _, _, _, _, _] _ _ _)
        refine R_iload dX6_tellLeast_52 rfl (?_ : RR _ _ _ _ 54 _ _ _ _)
        refine R_if_eq (t := 62) dX6_tellLeast_54 rfl (fun c54 => ?_) (fun c54 => ?_)
        · exfalso; omega
        refine R_iload dX6_tellLeast_57 rfl (?_ : RR _ _ _ _ 59 _ _ _ _)
        refine R_goto (t := 73) dX6_tellLeast_59 rfl (?_ : RR _ _ _ _ 73 _ _ _ _)
        refine R_istore dX6_tellLeast_73 (Nat.le_of_ble_eq_true rfl) (?_ : RR _ _ _ _ 75 [_, _, _, _, _, _, _, _, _] _ _ _)
        refine R_aload_n dX6_tellLeast_75 rfl (?_ : RR _ _ _ _ 76 _ _ _ _)
        refine R_iload dX6_tellLeast_76 rfl (?_ : RR _ _ _ _ 78 _ _ _ _)
        refine R_if_eq (t := 85) dX6_tellLeast_78 rfl (fun c78 => ?_) (fun c78 => ?_)
        · exfalso; omega
        refine R_lconst (z := 0) dX6_tellLeast_81 rfl (?_ : RR _ _ _ _ 82 _ _ _ _)
        refine R_goto (t := 86) dX6_tellLeast_82 rfl (?_ : RR _ _ _ _ 86 _ _ _ _)
        refine R_cVv1 dX6_tellLeast_86 mvX3_add mlX6_53 (by decide) (by decide) (Nat.le_of_ble_eq_true rfl) (Nat.le_of_ble_eq_true rfl) (T_tla (by omega) (by omega)) (?_ : RR _ _ _ _ 89 _ _ _ _)
        refine R_iload dX6_tellLeast_89 rfl (?_ : RR _ _ _ _ 91 _ _ _ _)
        refine R_iconst dX6_tellLeast_91 (?_ : RR _ _ _ _ 92 _ _ _ _)
        refine R_icmp_ne (t := 100) dX6_tellLeast_92 rfl (fun c92 => ?_) (fun c92 => ?_)
        rotate_left
        · exfalso; omega
        refine R_iload dX6_tellLeast_100 rfl (?_ : RR _ _ _ _ 102 _ _ _ _)
        refine R_istore dX6_tellLeast_102 (Nat.le_of_ble_eq_true rfl) (?_ : RR _ _ _ _ 104 [_, _, _, _, _, _, _, _, _] _ _ _)
        refine R_iinc dX6_tellLeast_104 rfl (Nat.le_of_ble_eq_true rfl) (?_ : RR _ _ _ _ 107 [_, _, _, _, _, _, _, _, _] _ _ _)
        refine R_goto (t := 6) dX6_tellLeast_107 rfl (?_ : RR _ _ _ _ 6 _ _ _ _)
        exact IH _ _ _
      · rw [if_neg y] at hLL
        obtain ⟨a1, a2⟩ := r2 y
        have IH := fun w6 w7 w8 => ih (k + 1) (ex (2 * c + 1)) (1 :: LL) w6 w7 w8 (by omega) (by rw [List.length_cons, hL]) a1.1 a1.2 a2 hLL
        by_cases u : ex (2 * c) = -1
        · refine R_iload dX6_tellLeast_6 rfl (?_ : RR _ _ _ _ 8 _ _ _ _)
          refine R_aload_n dX6_tellLeast_8 rfl (?_ : RR _ _ _ _ 9 _ _ _ _)
          refine R_geti (z := 1) dX6_tellLeast_9 flX6_25 cok_6 rfl (by decide) rfl (fun q9 => (?_ : RR _ _ _ _ 12 _ _ _ _))
          rw [g1] at q9 ⊢
          refine R_icmp_ge (t := 110) dX6_tellLeast_12 rfl (fun c12 => ?_) (fun c12 => ?_)
          · exfalso; omega
          refine R_aload_n dX6_tellLeast_15 rfl (?_ : RR _ _ _ _ 16 _ _ _ _)
          refine R_getr dX6_tellLeast_16 flX6_50 cok_0 rfl (by decide) (?_ : RR _ _ _ _ 19 _ _ _ _)
          refine R_iconst dX6_tellLeast_19 (?_ : RR _ _ _ _ 20 _ _ _ _)
          refine R_iload dX6_tellLeast_20 rfl (?_ : RR _ _ _ _ 22 _ _ _ _)
          refine R_imul dX6_tellLeast_22 (?_ : RR _ _ _ _ 23 _ _ _ _)
          refine R_iald dX6_tellLeast_23 (fun q23 => (?_ : RR _ _ _ _ 24 _ _ _ _))
          rw [e1] at q23 ⊢
          refine R_istore dX6_tellLeast_24 (Nat.le_of_ble_eq_true rfl) (?_ : RR _ _ _ _ 26 [_, _, _, _, _, _, _, _, _] _ _ _)
          refine R_iload dX6_tellLeast_26 rfl (?_ : RR _ _ _ _ 28 _ _ _ _)
          refine R_iconst dX6_tellLeast_28 (?_ : RR _ _ _ _ 29 _ _ _ _)
          refine R_icmp_eq (t := 49) dX6_tellLeast_29 rfl (fun c29 => ?_) (fun c29 => ?_)
          rotate_left
          · exfalso; omega
          refine R_iconst dX6_tellLeast_49 (?_ : RR _ _ _ _ 50 _ _ _ _)
          refine R_istore dX6_tellLeast_50 (Nat.le_of_ble_eq_true rfl) (?_ : RR _ _ _ _ 52 [_, _, _, _, _, _, _, _, _] _ _ _)
          refine R_iload dX6_tellLeast_52 rfl (?_ : RR _ _ _ _ 54 _ _ _ _)
          refine R_if_eq (t := 62) dX6_tellLeast_54 rfl (fun c54 => ?_) (fun c54 => ?_)
          rotate_left
          · exfalso; omega
          refine R_aload_n dX6_tellLeast_62 rfl (?_ : RR _ _ _ _ 63 _ _ _ _)
          refine R_getr dX6_tellLeast_63 flX6_50 cok_0 rfl (by decide) (?_ : RR _ _ _ _ 66 _ _ _ _)
          refine R_iconst dX6_tellLeast_66 (?_ : RR _ _ _ _ 67 _ _ _ _)
          refine R_iload dX6_tellLeast_67 rfl (?_ : RR _ _ _ _ 69 _ _ _ _)
          refine R_imul dX6_tellLeast_69 (?_ : RR _ _ _ _ 70 _ _ _ _)
          refine R_iconst dX6_tellLeast_70 (?_ : RR _ _ _ _ 71 _ _ _ _)
          refine R_iadd dX6_tellLeast_71 (?_ : RR _ _ _ _ 72 _ _ _ _)
          refine R_iald dX6_tellLeast_72 (fun q72 => (?_ : RR _ _ _ _ 73 _ _ _ _))
          rw [e2] at q72 ⊢
          refine R_istore dX6_tellLeast_73 (Nat.le_of_ble_eq_true rfl) (?_ : RR _ _ _ _ 75 [_, _, _, _, _, _, _, _, _] _ _ _)
          refine R_aload_n dX6_tellLeast_75 rfl (?_ : RR _ _ _ _ 76 _ _ _ _)
          refine R_iload dX6_tellLeast_76 rfl (?_ : RR _ _ _ _ 78 _ _ _ _)
          refine R_if_eq (t := 85) dX6_tellLeast_78 rfl (fun c78 => ?_) (fun c78 => ?_)
          rotate_left
          · exfalso; omega
          refine R_lconst (z := 1) dX6_tellLeast_85 rfl (?_ : RR _ _ _ _ 86 _ _ _ _)
          refine R_cVv1 dX6_tellLeast_86 mvX3_add mlX6_53 (by decide) (by decide) (Nat.le_of_ble_eq_true rfl) (Nat.le_of_ble_eq_true rfl) (T_tla (by omega) (by omega)) (?_ : RR _ _ _ _ 89 _ _ _ _)
          refine R_iload dX6_tellLeast_89 rfl (?_ : RR _ _ _ _ 91 _ _ _ _)
          refine R_iconst dX6_tellLeast_91 (?_ : RR _ _ _ _ 92 _ _ _ _)
          refine R_icmp_ne (t := 100) dX6_tellLeast_92 rfl (fun c92 => ?_) (fun c92 => ?_)
          rotate_left
          · exfalso; omega
          refine R_iload dX6_tellLeast_100 rfl (?_ : RR _ _ _ _ 102 _ _ _ _)
          refine R_istore dX6_tellLeast_102 (Nat.le_of_ble_eq_true rfl) (?_ : RR _ _ _ _ 104 [_, _, _, _, _, _, _, _, _] _ _ _)
          refine R_iinc dX6_tellLeast_104 rfl (Nat.le_of_ble_eq_true rfl) (?_ : RR _ _ _ _ 107 [_, _, _, _, _, _, _, _, _] _ _ _)
          refine R_goto (t := 6) dX6_tellLeast_107 rfl (?_ : RR _ _ _ _ 6 _ _ _ _)
          exact IH _ _ _
        · have y2 : ¬ 0 < wyS ex fit l m (ex (2 * c)) := fun z => y (by unfold rbS; rw [if_neg (by omega)]; exact z)
          refine R_iload dX6_tellLeast_6 rfl (?_ : RR _ _ _ _ 8 _ _ _ _)
          refine R_aload_n dX6_tellLeast_8 rfl (?_ : RR _ _ _ _ 9 _ _ _ _)
          refine R_geti (z := 1) dX6_tellLeast_9 flX6_25 cok_6 rfl (by decide) rfl (fun q9 => (?_ : RR _ _ _ _ 12 _ _ _ _))
          rw [g1] at q9 ⊢
          refine R_icmp_ge (t := 110) dX6_tellLeast_12 rfl (fun c12 => ?_) (fun c12 => ?_)
          · exfalso; omega
          refine R_aload_n dX6_tellLeast_15 rfl (?_ : RR _ _ _ _ 16 _ _ _ _)
          refine R_getr dX6_tellLeast_16 flX6_50 cok_0 rfl (by decide) (?_ : RR _ _ _ _ 19 _ _ _ _)
          refine R_iconst dX6_tellLeast_19 (?_ : RR _ _ _ _ 20 _ _ _ _)
          refine R_iload dX6_tellLeast_20 rfl (?_ : RR _ _ _ _ 22 _ _ _ _)
          refine R_imul dX6_tellLeast_22 (?_ : RR _ _ _ _ 23 _ _ _ _)
          refine R_iald dX6_tellLeast_23 (fun q23 => (?_ : RR _ _ _ _ 24 _ _ _ _))
          rw [e1] at q23 ⊢
          refine R_istore dX6_tellLeast_24 (Nat.le_of_ble_eq_true rfl) (?_ : RR _ _ _ _ 26 [_, _, _, _, _, _, _, _, _] _ _ _)
          refine R_iload dX6_tellLeast_26 rfl (?_ : RR _ _ _ _ 28 _ _ _ _)
          refine R_iconst dX6_tellLeast_28 (?_ : RR _ _ _ _ 29 _ _ _ _)
          refine R_icmp_eq (t := 49) dX6_tellLeast_29 rfl (fun c29 => ?_) (fun c29 => ?_)
          · exfalso; omega
          refine R_aload_n dX6_tellLeast_32 rfl (?_ : RR _ _ _ _ 33 _ _ _ _)
          refine R_iload dX6_tellLeast_33 rfl (?_ : RR _ _ _ _ 35 _ _ _ _)
          refine R_iconst dX6_tellLeast_35 (?_ : RR _ _ _ _ 36 _ _ _ _)
          refine R_iadd dX6_tellLeast_36 (?_ : RR _ _ _ _ 37 _ _ _ _)
          refine R_iload dX6_tellLeast_37 rfl (?_ : RR _ _ _ _ 39 _ _ _ _)
          refine R_cVi2 dX6_tellLeast_39 mvX6_waysFrom mlX6_43 (by decide) (by decide) (Nat.le_of_ble_eq_true rfl) (Nat.le_of_ble_eq_true rfl) (T_X6_waysFrom) (?_ : RR _ _ _ _ 42 _ _ _ _)
          rw [ew (by omega)]
          refine R_if_le (t := 49) dX6_tellLeast_42 rfl (fun c42 => ?_) (fun c42 => ?_)
          rotate_left
          · exfalso; omega
          refine R_iconst dX6_tellLeast_49 (?_ : RR _ _ _ _ 50 _ _ _ _)
          refine R_istore dX6_tellLeast_50 (Nat.le_of_ble_eq_true rfl) (?_ : RR _ _ _ _ 52 [_, _, _, _, _, _, _, _, _] _ _ _)
          refine R_iload dX6_tellLeast_52 rfl (?_ : RR _ _ _ _ 54 _ _ _ _)
          refine R_if_eq (t := 62) dX6_tellLeast_54 rfl (fun c54 => ?_) (fun c54 => ?_)
          rotate_left
          · exfalso; omega
          refine R_aload_n dX6_tellLeast_62 rfl (?_ : RR _ _ _ _ 63 _ _ _ _)
          refine R_getr dX6_tellLeast_63 flX6_50 cok_0 rfl (by decide) (?_ : RR _ _ _ _ 66 _ _ _ _)
          refine R_iconst dX6_tellLeast_66 (?_ : RR _ _ _ _ 67 _ _ _ _)
          refine R_iload dX6_tellLeast_67 rfl (?_ : RR _ _ _ _ 69 _ _ _ _)
          refine R_imul dX6_tellLeast_69 (?_ : RR _ _ _ _ 70 _ _ _ _)
          refine R_iconst dX6_tellLeast_70 (?_ : RR _ _ _ _ 71 _ _ _ _)
          refine R_iadd dX6_tellLeast_71 (?_ : RR _ _ _ _ 72 _ _ _ _)
          refine R_iald dX6_tellLeast_72 (fun q72 => (?_ : RR _ _ _ _ 73 _ _ _ _))
          rw [e2] at q72 ⊢
          refine R_istore dX6_tellLeast_73 (Nat.le_of_ble_eq_true rfl) (?_ : RR _ _ _ _ 75 [_, _, _, _, _, _, _, _, _] _ _ _)
          refine R_aload_n dX6_tellLeast_75 rfl (?_ : RR _ _ _ _ 76 _ _ _ _)
          refine R_iload dX6_tellLeast_76 rfl (?_ : RR _ _ _ _ 78 _ _ _ _)
          refine R_if_eq (t := 85) dX6_tellLeast_78 rfl (fun c78 => ?_) (fun c78 => ?_)
          rotate_left
          · exfalso; omega
          refine R_lconst (z := 1) dX6_tellLeast_85 rfl (?_ : RR _ _ _ _ 86 _ _ _ _)
          refine R_cVv1 dX6_tellLeast_86 mvX3_add mlX6_53 (by decide) (by decide) (Nat.le_of_ble_eq_true rfl) (Nat.le_of_ble_eq_true rfl) (T_tla (by omega) (by omega)) (?_ : RR _ _ _ _ 89 _ _ _ _)
          refine R_iload dX6_tellLeast_89 rfl (?_ : RR _ _ _ _ 91 _ _ _ _)
          refine R_iconst dX6_tellLeast_91 (?_ : RR _ _ _ _ 92 _ _ _ _)
          refine R_icmp_ne (t := 100) dX6_tellLeast_92 rfl (fun c92 => ?_) (fun c92 => ?_)
          rotate_left
          · exfalso; omega
          refine R_iload dX6_tellLeast_100 rfl (?_ : RR _ _ _ _ 102 _ _ _ _)
          refine R_istore dX6_tellLeast_102 (Nat.le_of_ble_eq_true rfl) (?_ : RR _ _ _ _ 104 [_, _, _, _, _, _, _, _, _] _ _ _)
          refine R_iinc dX6_tellLeast_104 rfl (Nat.le_of_ble_eq_true rfl) (?_ : RR _ _ _ _ 107 [_, _, _, _, _, _, _, _, _] _ _ _)
          refine R_goto (t := 6) dX6_tellLeast_107 rfl (?_ : RR _ _ _ _ 6 _ _ _ _)
          exact IH _ _ _
  refine R_iload_n dX6_tellLeast_0 rfl (?_ : RR _ _ _ _ 1 _ _ _ _)
  refine R_istore dX6_tellLeast_1 (Nat.le_of_ble_eq_true rfl) (?_ : RR _ _ _ _ 3 [_, _, _, _, _, _, _, _, _] _ _ _)
  refine R_iconst dX6_tellLeast_3 (?_ : RR _ _ _ _ 4 _ _ _ _)
  refine R_istore dX6_tellLeast_4 (Nat.le_of_ble_eq_true rfl) (?_ : RR _ _ _ _ 6 [_, _, _, _, _, _, _, _, _] _ _ _)
  exact L l 0 st [] _ _ _ (by omega) rfl hst.1 hst.2 hp rfl
end CT2
