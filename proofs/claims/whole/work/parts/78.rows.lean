section RW
variable {k : Nat} {h h1 h2 h3 h4 : Nat → Int → Int} {sem : Sem} {H np nc len N l : Nat} {v : Int}
/-- what the traces of both sides rest on -/
theorem sTr (hs : SRx k h sem H np nc len) : ∃ (N l : Nat) (fit : Int → Int → Bool), h 138 0 = N ∧ h 147 40 = N ∧ N ≤ 12 ∧ h 138 1 = l ∧ l ≤ 12 ∧ (1 ≤ N → lsS (h 170) N = l) ∧ (N = 0 → lsS (h 170) N = -1) ∧ (∀ i : Nat, i < N → 0 ≤ h 170 i ∧ h 170 i ≤ 12) ∧ trK h H l (h 149) (h 150) fit (h 154 0) ∧ (∀ k c : Int, fiS (h 170) (h 171) (h 172) k c N = fit k c) ∧ h 14 0 = h 154 0 := by
  obtain ⟨N, n1, n2, n3, n4, n5, n6⟩ := hs.2.2.2.2.1
  obtain ⟨b1, b2, b3, b4, hX, ⟨hE, hG⟩, hCO, -⟩ := hs.1
  have hH := sRH hs
  have hb : ∀ i : Nat, i < N → 0 ≤ h 170 i ∧ h 170 i ≤ 12 := fun i hi => by have := n4 i hi; omega
  have hlb := lsS_b (f := h 170) (n := N) hb
  have hc := hs.2.2.2.1.1
  have f0 := hc.1.1
  refine ⟨N, (max 0 (lsS (h 170) N)).toNat, fun k c => fiS (h 170) (h 171) (h 172) k c N, n1, n2, n3, by rw [n5]; omega, by omega, fun z => by have := hlb.2.2 z; omega, fun z => by subst z; rfl, hb, ⟨b4, hH.2, hCO.2.2.2.1, fun e e0 e1 => (hCO.1.1 e e0 e1).1, hE, by rw [n5]; omega, by omega, n6, f0.1, f0.2⟩, fun _ _ => rfl, hc.2.1⟩
theorem trK_fr {ex mi : Int → Int} {fit : Int → Int → Bool} {st : Int} (hT : trK h H l ex mi fit st) (e3 : h1 3 = h 3) (e4 : h1 4 = h 4) (e138 : h1 138 = h 138) (e139 : h1 139 = h 139) : trK h1 H l ex mi fit st := by
  unfold trK
  rw [e3, e4, e138, e139]
  exact hT
theorem mtK_of {fit : Int → Int → Bool} (hs : SRx k h sem H np nc len) (hN : h 147 40 = N) (hN12 : N ≤ 12) (hl : l ≤ 12) (hf : ∀ k c : Int, fiS (h 170) (h 171) (h 172) k c N = fit k c) (e : ∀ a, 147 < a → h4 a = h a) (e3 : h4 147 3 = h 147 3) (e40 : h4 147 40 = h 147 40) : mtK h4 H l N (h 150) fit (h 154 0) := by
  obtain ⟨b1, b2, b3, b4, hX, ⟨hE, hG⟩, hCO, -⟩ := hs.1
  have f0 := hs.2.2.2.1.1.1.1
  unfold mtK
  rw [e 149 (by omega), e 170 (by omega), e 171 (by omega), e 172 (by omega), e 154 (by omega), e3, e40]
  exact ⟨b1, (sRH hs).2, hX.2.2.2.2.1, hE, hl, hN, hN12, hf, rfl, f0.1, f0.2⟩
theorem mq_tr {w f : Int → Int} (h4e : h4 = rup h3 147 (fup (h3 147) 0 0)) : mqF h3 (rup (rup h4 173 w) 174 f) := by
  refine ⟨fun a q => ?_, fun j q => ?_, fun q => ?_, fun j q => ?_⟩
  · rw [rup_n (by omega), rup_n (by omega), h4e, rup_n (by omega)]
  · rw [rup_n (by omega), rup_n (by omega), h4e, rup_s, fup_n (by omega)]
  · rw [rup_n (by omega), rup_n (by omega), h4e, rup_s, fup_n (by omega)]; exact q
  · rw [rup_n (by omega), rup_n (by omega), h4e, rup_n (by omega)]
theorem cq_tr {w f : Int → Int} : cqF h (rup (rup h 140 f) 141 w) := fun a q => by rw [rup_n (by omega), rup_n (by omega)]
theorem A_rows (hs : SRx k h sem H np nc len) : AG mX11_rows mX12_rows 3 3 [] k h := by
  obtain ⟨N, l, fit, n1, n2, n3, hl, hl12, hls, hl0, hb, hT, hfi, h14⟩ := sTr hs
  have hH := sRH hs
  obtain ⟨ex, hex⟩ : ∃ ex, ex = h 149 := ⟨_, rfl⟩
  obtain ⟨st, hst⟩ : ∃ st, st = h 154 0 := ⟨_, rfl⟩
  have f0 := hs.2.2.2.1.1.1.1
  have hE := hs.1.2.2.2.2.2.1.1
  have hls2 := lsS_b (f := h 170) (n := N) hb
  rw [← hex] at hT hE
  rw [← hst] at hT h14 f0
  by_cases q : N = 0
  · refine A_q hs (z := -1) (o := none) (cQ_no (M := mX11_rows) (d := 3) (As := [pR 0]) (MT.of (fun Q hQ => (?_ : RR mX11_rows _ _ _ _ [pR 0, pU] _ _ _)))) (fun h3 e => mQ_thr (M := mX12_rows) (d := 3) (As := [pR 147]) (MT.of (fun Q hQ => (?_ : RR mX12_rows _ _ _ _ [pR 147, pU, pU, pU, pU, pU] _ _ _)))) (fun L e => by cases e)
    · refine R_aload_n dX11_rows_0 rfl (?_ : RR _ _ _ _ 1 _ _ _ _)
      refine R_getr dX11_rows_1 flX11_73 cok_11 rfl (by decide) (?_ : RR _ _ _ _ 4 _ _ _ _)
      refine R_geti (z := 0) dX11_rows_4 flX11_369 cok_6 rfl (by decide) rfl (fun q4 => (?_ : RR _ _ _ _ 7 _ _ _ _))
      rw [n1] at q4 ⊢
      refine R_if_ne (t := 12) dX11_rows_7 rfl (fun c7 => ?_) (fun c7 => ?_)
      · exfalso; omega
      refine R_iconst dX11_rows_10 (?_ : RR _ _ _ _ 11 _ _ _ _)
      exact R_ireturn dX11_rows_11 trivial hQ
    · have hq := T_X12_lastSeen (h := rup h3 147 (fup (h3 147) 0 0)) (N := N) (by rw [rup_s, fup_n (by omega), e 147 (by omega)]; exact n2) n3 (fun i hi => by rw [rup_n (by omega), e 170 (by omega)]; exact hb i hi)
      rw [rup_n (by omega), e 170 (by omega), hl0 q] at hq
      refine R_aload_n dX12_rows_0 rfl (?_ : RR _ _ _ _ 1 _ _ _ _)
      refine R_iconst dX12_rows_1 (?_ : RR _ _ _ _ 2 _ _ _ _)
      refine R_puti (zk := 0) dX12_rows_2 flX12_106 cok_12 (by decide) (fun q hq => by cases hq; rfl) rfl (?_ : RR _ _ _ _ 5 _ _ _ _)
      refine R_aload_n dX12_rows_5 rfl (?_ : RR _ _ _ _ 6 _ _ _ _)
      refine R_cVi0 dX12_rows_6 mvX12_lastSeen mlX12_451 (by decide) (by decide) (Nat.le_of_ble_eq_true rfl) (Nat.le_of_ble_eq_true rfl) (hq) (?_ : RR _ _ _ _ 9 _ _ _ _)
      refine R_istore_n dX12_rows_9 (Nat.le_of_ble_eq_true rfl) (?_ : RR _ _ _ _ 10 [_, _, _, _, _, _] _ _ _)
      refine R_iload_n dX12_rows_10 rfl (?_ : RR _ _ _ _ 11 _ _ _ _)
      refine R_if_ge (t := 16) dX12_rows_11 rfl (fun c11 => ?_) (fun c11 => ?_)
      · exfalso; omega
      refine R_iconst dX12_rows_14 (?_ : RR _ _ _ _ 15 _ _ _ _)
      exact R_ireturn dX12_rows_15 trivial hQ
  · obtain ⟨z, hz⟩ : ∃ z, z = wyS ex fit l l st := ⟨_, rfl⟩
    have hzb := wyS_4096 (ex := ex) (fit := fit) (l := l) (c := st) hl12
    rw [← hz] at hzb
    obtain ⟨LL, hLL⟩ : ∃ LL, LL = if 0 < z then lsL ex fit l l st [] else [] := ⟨_, rfl⟩
    refine A_q hs (z := z) (o := some LL.reverse) ?_ (fun h3 e => ?_) (fun L e => by
      injection e with e; subst e
      rw [List.length_reverse, hLL]
      split
      · rw [lsL_l]
        show l + 0 ≤ 12
        omega
      · exact Nat.zero_le _)
    · show RR _ _ _ _ _ [pR 0, pU] _ _ _
      have K : ∀ f w : Int → Int, trW H l ex fit (l + 1) w → RR mX11_rows 3 0 0 30 [pR 0, pU] [] (shp0, rf0, rup (rup h 140 f) 141 w) (cQ h z (some LL.reverse)) := by
        intro f w hw
        have e0 : w (0 * 9 + st) = z := by
          rw [hz, ← trW_i hw (m' := l) (by omega) f0.1 f0.2]
          congr 2
          omega
        obtain ⟨h5, h5e⟩ : ∃ h5, h5 = rup (rup h 140 f) 141 w := ⟨_, rfl⟩
        have g14 : h5 14 0 = st := by rw [h5e, rup_n (by omega), rup_n (by omega)]; exact h14
        have g141 : h5 141 = w := by rw [h5e, rup_s]
        have hT5 : trK h5 H l ex (h 150) fit st := trK_fr hT (by rw [h5e, rup_n (by omega), rup_n (by omega)]) (by rw [h5e, rup_n (by omega), rup_n (by omega)]) (by rw [h5e, rup_n (by omega), rup_n (by omega)]) (by rw [h5e, rup_n (by omega), rup_n (by omega)])
        have hcq : cqF h h5 := by rw [h5e]; exact cq_tr
        rw [← h5e]
        by_cases y : 0 < z
        · rw [if_pos y] at hLL
          have hq := cQ_tl (z := z) (L := LL) (L' := LL.reverse) hcq rfl
          refine R_aload_n dX11_rows_30 rfl (?_ : RR _ _ _ _ 31 _ _ _ _)
          refine R_getr dX11_rows_31 flX11_73 cok_11 rfl (by decide) (?_ : RR _ _ _ _ 34 _ _ _ _)
          refine R_iconst dX11_rows_34 (?_ : RR _ _ _ _ 35 _ _ _ _)
          refine R_aload_n dX11_rows_35 rfl (?_ : RR _ _ _ _ 36 _ _ _ _)
          refine R_getr dX11_rows_36 flX11_36 cok_11 rfl (by decide) (?_ : RR _ _ _ _ 39 _ _ _ _)
          refine R_geti (z := 0) dX11_rows_39 flX11_171 cok_9 rfl (by decide) rfl (fun q39 => (?_ : RR _ _ _ _ 42 _ _ _ _))
          rw [g14] at q39 ⊢
          refine R_cVi2 dX11_rows_42 mvX6_waysFrom mlX11_377 (by decide) (by decide) (Nat.le_of_ble_eq_true rfl) (Nat.le_of_ble_eq_true rfl) (T_X6_waysFrom) (?_ : RR _ _ _ _ 45 _ _ _ _)
          rw [g141, e0]
          refine R_istore_n dX11_rows_45 (Nat.le_of_ble_eq_true rfl) (?_ : RR _ _ _ _ 46 [_, _] _ _ _)
          refine R_aload_n dX11_rows_46 rfl (?_ : RR _ _ _ _ 47 _ _ _ _)
          refine R_getr dX11_rows_47 flX11_87 cok_11 rfl (by decide) (?_ : RR _ _ _ _ 50 _ _ _ _)
          refine R_cVv0 dX11_rows_50 mvX3_clear mlX11_239 (by decide) (by decide) (Nat.le_of_ble_eq_true rfl) (Nat.le_of_ble_eq_true rfl) (T_tlc) (?_ : RR _ _ _ _ 53 _ _ _ _)
          refine R_iload_n dX11_rows_53 rfl (?_ : RR _ _ _ _ 54 _ _ _ _)
          refine R_if_le (t := 79) dX11_rows_54 rfl (fun c54 => ?_) (fun c54 => ?_)
          · exfalso; omega
          refine R_aload_n dX11_rows_57 rfl (?_ : RR _ _ _ _ 58 _ _ _ _)
          refine R_getr dX11_rows_58 flX11_73 cok_11 rfl (by decide) (?_ : RR _ _ _ _ 61 _ _ _ _)
          refine R_aload_n dX11_rows_61 rfl (?_ : RR _ _ _ _ 62 _ _ _ _)
          refine R_getr dX11_rows_62 flX11_19 cok_11 rfl (by decide) (?_ : RR _ _ _ _ 65 _ _ _ _)
          refine R_aload_n dX11_rows_65 rfl (?_ : RR _ _ _ _ 66 _ _ _ _)
          refine R_getr dX11_rows_66 flX11_36 cok_11 rfl (by decide) (?_ : RR _ _ _ _ 69 _ _ _ _)
          refine R_geti (z := 0) dX11_rows_69 flX11_171 cok_9 rfl (by decide) rfl (fun q69 => (?_ : RR _ _ _ _ 72 _ _ _ _))
          rw [tlR_n (by omega) (by omega), g14] at q69 ⊢
          refine R_aload_n dX11_rows_72 rfl (?_ : RR _ _ _ _ 73 _ _ _ _)
          refine R_getr dX11_rows_73 flX11_87 cok_11 rfl (by decide) (?_ : RR _ _ _ _ 76 _ _ _ _)
          refine R_qV3 dX11_rows_76 mvX6_tellLeast mlX11_380 (by decide) (by decide) (Nat.le_of_ble_eq_true rfl) (Nat.le_of_ble_eq_true rfl) (C_tellLeast hT5 hw g141 (by rw [← hz]; exact y)) (fun r9 g9 hq9 => (?_ : RR _ _ _ _ 79 _ _ _ _))
          obtain ⟨rfl, rfl⟩ := hq9
          rw [← hLL]
          show RR _ _ _ _ _ _ [] _ _
          refine R_iload_n dX11_rows_79 rfl (?_ : RR _ _ _ _ 80 _ _ _ _)
          exact R_ireturn dX11_rows_80 trivial hq
        · rw [if_neg y] at hLL
          have hq := cQ_tl (z := z) (L := LL) (L' := LL.reverse) hcq rfl
          rw [hLL] at hq ⊢
          refine R_aload_n dX11_rows_30 rfl (?_ : RR _ _ _ _ 31 _ _ _ _)
          refine R_getr dX11_rows_31 flX11_73 cok_11 rfl (by decide) (?_ : RR _ _ _ _ 34 _ _ _ _)
          refine R_iconst dX11_rows_34 (?_ : RR _ _ _ _ 35 _ _ _ _)
          refine R_aload_n dX11_rows_35 rfl (?_ : RR _ _ _ _ 36 _ _ _ _)
          refine R_getr dX11_rows_36 flX11_36 cok_11 rfl (by decide) (?_ : RR _ _ _ _ 39 _ _ _ _)
          refine R_geti (z := 0) dX11_rows_39 flX11_171 cok_9 rfl (by decide) rfl (fun q39 => (?_ : RR _ _ _ _ 42 _ _ _ _))
          rw [g14] at q39 ⊢
          refine R_cVi2 dX11_rows_42 mvX6_waysFrom mlX11_377 (by decide) (by decide) (Nat.le_of_ble_eq_true rfl) (Nat.le_of_ble_eq_true rfl) (T_X6_waysFrom) (?_ : RR _ _ _ _ 45 _ _ _ _)
          rw [g141, e0]
          refine R_istore_n dX11_rows_45 (Nat.le_of_ble_eq_true rfl) (?_ : RR _ _ _ _ 46 [_, _] _ _ _)
          refine R_aload_n dX11_rows_46 rfl (?_ : RR _ _ _ _ 47 _ _ _ _)
          refine R_getr dX11_rows_47 flX11_87 cok_11 rfl (by decide) (?_ : RR _ _ _ _ 50 _ _ _ _)
          refine R_cVv0 dX11_rows_50 mvX3_clear mlX11_239 (by decide) (by decide) (Nat.le_of_ble_eq_true rfl) (Nat.le_of_ble_eq_true rfl) (T_tlc) (?_ : RR _ _ _ _ 53 _ _ _ _)
          refine R_iload_n dX11_rows_53 rfl (?_ : RR _ _ _ _ 54 _ _ _ _)
          refine R_if_le (t := 79) dX11_rows_54 rfl (fun c54 => ?_) (fun c54 => ?_)
          rotate_left
          · exfalso; omega
          refine R_iload_n dX11_rows_79 rfl (?_ : RR _ _ _ _ 80 _ _ _ _)
          exact R_ireturn dX11_rows_80 trivial hq
      refine R_aload_n dX11_rows_0 rfl (?_ : RR _ _ _ _ 1 _ _ _ _)
      refine R_getr dX11_rows_1 flX11_73 cok_11 rfl (by decide) (?_ : RR _ _ _ _ 4 _ _ _ _)
      refine R_geti (z := 0) dX11_rows_4 flX11_369 cok_6 rfl (by decide) rfl (fun q4 => (?_ : RR _ _ _ _ 7 _ _ _ _))
      rw [n1] at q4 ⊢
      refine R_if_ne (t := 12) dX11_rows_7 rfl (fun c7 => ?_) (fun c7 => ?_)
      rotate_left
      · exfalso; omega
      refine R_aload_n dX11_rows_12 rfl (?_ : RR _ _ _ _ 13 _ _ _ _)
      refine R_getr dX11_rows_13 flX11_73 cok_11 rfl (by decide) (?_ : RR _ _ _ _ 16 _ _ _ _)
      refine R_aload_n dX11_rows_16 rfl (?_ : RR _ _ _ _ 17 _ _ _ _)
      refine R_getr dX11_rows_17 flX11_19 cok_11 rfl (by decide) (?_ : RR _ _ _ _ 20 _ _ _ _)
      refine R_aload_n dX11_rows_20 rfl (?_ : RR _ _ _ _ 21 _ _ _ _)
      refine R_getr dX11_rows_21 flX11_36 cok_11 rfl (by decide) (?_ : RR _ _ _ _ 24 _ _ _ _)
      refine R_geti (z := 0) dX11_rows_24 flX11_171 cok_9 rfl (by decide) rfl (fun q24 => (?_ : RR _ _ _ _ 27 _ _ _ _))
      rw [h14] at q24 ⊢
      refine R_qV2 dX11_rows_27 mvX6_trace mlX11_373 (by decide) (by decide) (Nat.le_of_ble_eq_true rfl) (Nat.le_of_ble_eq_true rfl) (C_trace hT) (fun r9 g9 hq9 => (?_ : RR _ _ _ _ 30 _ _ _ _))
      obtain ⟨rfl, f, w, rfl, hw, hf⟩ := hq9
      show RR _ _ _ _ _ _ [] _ _
      exact K f w hw
    · show RR _ _ _ _ _ [pR 147, pU, pU, pU, pU, pU] _ _ _
      obtain ⟨h4, h4e⟩ : ∃ h4, h4 = rup h3 147 (fup (h3 147) 0 0) := ⟨_, rfl⟩
      have f4 : ∀ a, 147 < a → h4 a = h a := fun a a1 => by rw [h4e, rup_n (by omega)]; exact e a (by omega)
      have j4 : ∀ j : Int, j ≠ 0 → h4 147 j = h 147 j := fun j j1 => by rw [h4e, rup_s, fup_n j1, e 147 (by omega)]
      have hMT := mtK_of (l := l) hs n2 n3 hl12 hfi f4 (j4 3 (by omega)) (j4 40 (by omega))
      rw [← hst] at hMT
      have hML := M_laysRows hMT
      rw [f4 149 (by omega), ← hex] at hML
      have hls4 := T_X12_lastSeen (h := h4) (N := N) (by rw [j4 40 (by omega)]; exact n2) n3 (fun i hi => by rw [f4 170 (by omega)]; exact hb i hi)
      rw [f4 170 (by omega), hls (by omega)] at hls4
      have K : ∀ f w : Int → Int, mtW H l ex fit (l + 1) w → RR mX12_rows 3 0 0 21 [pR 147, pI l, pU, pU, pU, pU] [] (shp0, rf0, rup (rup h4 173 w) 174 f) (mQ h3 z (some LL.reverse)) := by
        intro f w hw
        have e0 : w st = z := by
          rw [hz, ← mtW_i hw (m' := l) (by omega) f0.1 f0.2]
          congr 1
          omega
        obtain ⟨h6, h6e⟩ : ∃ h6, h6 = rup (rup h4 173 w) 174 f := ⟨_, rfl⟩
        have hmq : mqF h3 h6 := by rw [h6e]; exact mq_tr h4e
        have g154 : h6 154 0 = st := by rw [h6e, rup_n (by omega), rup_n (by omega), f4 154 (by omega), hst]
        have g173 : h6 173 = w := by rw [h6e, rup_n (by omega), rup_s]
        have g149 : h6 149 = ex := by rw [h6e, rup_n (by omega), rup_n (by omega), f4 149 (by omega), hex]
        have hxB := hs.1.2.2.2.2.1.2.2.2.2.1
        have hxB : exB ex := by rw [hex]; exact hxB
        rw [← h6e]
        have E : ∀ (LQ : List Int) (c : Int) (kk : Int) (w5 : PV), LQ = LL → RR mX12_rows 3 0 0 101 [pR 147, pI l, pI z, pI c, pI kk, w5] [] (shp0, rf0, tmR h6 LQ) (mQ h3 z (some LL.reverse)) := by
          intro LQ c kk w5 hq
          subst hq
          refine R_iload_n dX12_rows_101 rfl (?_ : RR _ _ _ _ 102 _ _ _ _)
          exact R_ireturn dX12_rows_102 trivial (mQ_tm hmq rfl)
        have K48 : ∀ w5 : PV, RR mX12_rows 3 0 0 48 [pR 147, pI l, pI z, pI st, pI 0, w5] [] (shp0, rf0, tmR h6 []) (mQ h3 z (some LL.reverse)) := by
          by_cases y : 0 < z
          · rw [if_pos y] at hLL
            have L : ∀ (m kk : Nat) (c : Int) (LQ : List Int) (w5 : PV), kk + m = l → LQ.length = kk → 0 ≤ c → c < H → 0 < wyS ex fit l m c → lsL ex fit l m c LQ = LL → RR mX12_rows 3 0 0 48 [pR 147, pI l, pI z, pI c, pI kk, w5] [] (shp0, rf0, tmR h6 LQ) (mQ h3 z (some LL.reverse)) := by
              intro m
              induction m with
              | zero =>
                intro kk c LQ w5 hk hL c0 c1 hpc hLQ
                refine R_iload dX12_rows_48 rfl (?_ : RR _ _ _ _ 50 _ _ _ _)
                refine R_iload_n dX12_rows_50 rfl (?_ : RR _ _ _ _ 51 _ _ _ _)
                refine R_icmp_ge (t := 101) dX12_rows_51 rfl (fun c51 => ?_) (fun c51 => ?_)
                rotate_left
                · exfalso; omega
                exact E LQ _ _ _ hLQ
              | succ m ih =>
                intro kk c LQ w5 hk hL c0 c1 hpc hLQ
                obtain ⟨r1, r2⟩ := rb_go hE ⟨c0, c1⟩ hpc
                have k1 := hE (2 * c) (by omega) (by omega)
                have k2 := hE (2 * c + 1) (by omega) (by omega)
                have hrb := T_X12_rowsBy (h := tmR h6 LQ) (k := kk) (c := c) (x := 0) (by rw [tmR_n (by omega) (by omega), g149]; exact hxB) (by omega) (by omega) (by omega)
                have erb : rbS (tmR h6 LQ 149) (fun d => tmR h6 LQ 173 (9 * ((kk : Int) + 1) + d)) (2 * c + 0) = rbS ex (wyS ex fit l m) (2 * c) := by
                  rw [Int.add_zero]
                  refine rbS_congr (by rw [tmR_n (by omega) (by omega), g149]) (fun hp => ?_)
                  show tmR h6 LQ 173 (9 * ((kk : Int) + 1) + ex (2 * c)) = _
                  rw [tmR_n (by omega) (by omega), g173, ← mtW_i hw (m' := m) (by omega) hp (by omega)]
                  congr 2
                  omega
                rw [erb] at hrb
                have hLQ : (if 0 < rbS ex (wyS ex fit l m) (2 * c) then lsL ex fit l m (ex (2 * c)) (0 :: LQ) else lsL ex fit l m (ex (2 * c + 1)) (1 :: LQ)) = LL := hLQ
                have hrbb : r32 (rbS ex (wyS ex fit l m) (2 * c)) := by
                  unfold rbS
                  have := wyS_4096 (ex := ex) (fit := fit) (l := l) (m := m) (c := ex (2 * c)) (by omega)
                  split <;> omega
                have e1 : ∀ X : List Int, tmR h6 X 149 = ex := fun X => by rw [tmR_n (by omega) (by omega)]; exact g149
                by_cases y2 : 0 < rbS ex (wyS ex fit l m) (2 * c)
                · rw [if_pos y2] at hLQ
                  obtain ⟨a1, a2⟩ := r1 y2
                  have IH := fun w5 => ih (kk + 1) (ex (2 * c)) (0 :: LQ) w5 (by omega) (by rw [List.length_cons, hL]) a1.1 a1.2 a2 hLQ
                  refine R_iload dX12_rows_48 rfl (?_ : RR _ _ _ _ 50 _ _ _ _)
                  refine R_iload_n dX12_rows_50 rfl (?_ : RR _ _ _ _ 51 _ _ _ _)
                  refine R_icmp_ge (t := 101) dX12_rows_51 rfl (fun c51 => ?_) (fun c51 => ?_)
                  · exfalso; omega
                  refine R_iload_n dX12_rows_54 rfl (?_ : RR _ _ _ _ 55 _ _ _ _)
                  refine R_if_le (t := 101) dX12_rows_55 rfl (fun c55 => ?_) (fun c55 => ?_)
                  · exfalso; omega
                  refine R_aload_n dX12_rows_58 rfl (?_ : RR _ _ _ _ 59 _ _ _ _)
                  refine R_iload dX12_rows_59 rfl (?_ : RR _ _ _ _ 61 _ _ _ _)
                  refine R_iload_n dX12_rows_61 rfl (?_ : RR _ _ _ _ 62 _ _ _ _)
                  refine R_iconst dX12_rows_62 (?_ : RR _ _ _ _ 63 _ _ _ _)
                  refine R_cVi3 dX12_rows_63 mvX12_rowsBy mlX12_445 (by decide) (by decide) (Nat.le_of_ble_eq_true rfl) (Nat.le_of_ble_eq_true rfl) (hrb) (?_ : RR _ _ _ _ 66 _ _ _ _)
                  refine R_if_le (t := 73) dX12_rows_66 rfl (fun c66 => ?_) (fun c66 => ?_)
                  · exfalso; omega
                  refine R_iconst dX12_rows_69 (?_ : RR _ _ _ _ 70 _ _ _ _)
                  refine R_goto (t := 74) dX12_rows_70 rfl (?_ : RR _ _ _ _ 74 _ _ _ _)
                  refine R_istore dX12_rows_74 (Nat.le_of_ble_eq_true rfl) (?_ : RR _ _ _ _ 76 [_, _, _, _, _, _] _ _ _)
                  refine R_aload_n dX12_rows_76 rfl (?_ : RR _ _ _ _ 77 _ _ _ _)
                  refine R_iload dX12_rows_77 rfl (?_ : RR _ _ _ _ 79 _ _ _ _)
                  refine R_i2l dX12_rows_79 (by first | assumption | omega) (?_ : RR _ _ _ _ 80 _ _ _ _)
                  refine R_cVv1 dX12_rows_80 mvX12_enters mlX12_116 (by decide) (by decide) (Nat.le_of_ble_eq_true rfl) (Nat.le_of_ble_eq_true rfl) (T_tma (by omega) (by omega)) (?_ : RR _ _ _ _ 83 _ _ _ _)
                  refine R_aload_n dX12_rows_83 rfl (?_ : RR _ _ _ _ 84 _ _ _ _)
                  refine R_getr dX12_rows_84 flX12_17 cok_12 rfl (by decide) (?_ : RR _ _ _ _ 87 _ _ _ _)
                  refine R_iconst dX12_rows_87 (?_ : RR _ _ _ _ 88 _ _ _ _)
                  refine R_iload_n dX12_rows_88 rfl (?_ : RR _ _ _ _ 89 _ _ _ _)
                  refine R_imul dX12_rows_89 (?_ : RR _ _ _ _ 90 _ _ _ _)
                  refine R_iload dX12_rows_90 rfl (?_ : RR _ _ _ _ 92 _ _ _ _)
                  refine R_iadd dX12_rows_92 (?_ : RR _ _ _ _ 93 _ _ _ _)
                  refine R_iald dX12_rows_93 (fun q93 => (?_ : RR _ _ _ _ 94 _ _ _ _))
                  rw [e1, Int.add_zero] at q93 ⊢
                  refine R_istore_n dX12_rows_94 (Nat.le_of_ble_eq_true rfl) (?_ : RR _ _ _ _ 95 [_, _, _, _, _, _] _ _ _)
                  refine R_iinc dX12_rows_95 rfl (Nat.le_of_ble_eq_true rfl) (?_ : RR _ _ _ _ 98 [_, _, _, _, _, _] _ _ _)
                  refine R_goto (t := 48) dX12_rows_98 rfl (?_ : RR _ _ _ _ 48 _ _ _ _)
                  exact IH _
                · rw [if_neg y2] at hLQ
                  obtain ⟨a1, a2⟩ := r2 y2
                  have IH := fun w5 => ih (kk + 1) (ex (2 * c + 1)) (1 :: LQ) w5 (by omega) (by rw [List.length_cons, hL]) a1.1 a1.2 a2 hLQ
                  refine R_iload dX12_rows_48 rfl (?_ : RR _ _ _ _ 50 _ _ _ _)
                  refine R_iload_n dX12_rows_50 rfl (?_ : RR _ _ _ _ 51 _ _ _ _)
                  refine R_icmp_ge (t := 101) dX12_rows_51 rfl (fun c51 => ?_) (fun c51 => ?_)
                  · exfalso; omega
                  refine R_iload_n dX12_rows_54 rfl (?_ : RR _ _ _ _ 55 _ _ _ _)
                  refine R_if_le (t := 101) dX12_rows_55 rfl (fun c55 => ?_) (fun c55 => ?_)
                  · exfalso; omega
                  refine R_aload_n dX12_rows_58 rfl (?_ : RR _ _ _ _ 59 _ _ _ _)
                  refine R_iload dX12_rows_59 rfl (?_ : RR _ _ _ _ 61 _ _ _ _)
                  refine R_iload_n dX12_rows_61 rfl (?_ : RR _ _ _ _ 62 _ _ _ _)
                  refine R_iconst dX12_rows_62 (?_ : RR _ _ _ _ 63 _ _ _ _)
                  refine R_cVi3 dX12_rows_63 mvX12_rowsBy mlX12_445 (by decide) (by decide) (Nat.le_of_ble_eq_true rfl) (Nat.le_of_ble_eq_true rfl) (hrb) (?_ : RR _ _ _ _ 66 _ _ _ _)
                  refine R_if_le (t := 73) dX12_rows_66 rfl (fun c66 => ?_) (fun c66 => ?_)
                  rotate_left
                  · exfalso; omega
                  refine R_iconst dX12_rows_73 (?_ : RR _ _ _ _ 74 _ _ _ _)
                  refine R_istore dX12_rows_74 (Nat.le_of_ble_eq_true rfl) (?_ : RR _ _ _ _ 76 [_, _, _, _, _, _] _ _ _)
                  refine R_aload_n dX12_rows_76 rfl (?_ : RR _ _ _ _ 77 _ _ _ _)
                  refine R_iload dX12_rows_77 rfl (?_ : RR _ _ _ _ 79 _ _ _ _)
                  refine R_i2l dX12_rows_79 (by first | assumption | omega) (?_ : RR _ _ _ _ 80 _ _ _ _)
                  refine R_cVv1 dX12_rows_80 mvX12_enters mlX12_116 (by decide) (by decide) (Nat.le_of_ble_eq_true rfl) (Nat.le_of_ble_eq_true rfl) (T_tma (by omega) (by omega)) (?_ : RR _ _ _ _ 83 _ _ _ _)
                  refine R_aload_n dX12_rows_83 rfl (?_ : RR _ _ _ _ 84 _ _ _ _)
                  refine R_getr dX12_rows_84 flX12_17 cok_12 rfl (by decide) (?_ : RR _ _ _ _ 87 _ _ _ _)
                  refine R_iconst dX12_rows_87 (?_ : RR _ _ _ _ 88 _ _ _ _)
                  refine R_iload_n dX12_rows_88 rfl (?_ : RR _ _ _ _ 89 _ _ _ _)
                  refine R_imul dX12_rows_89 (?_ : RR _ _ _ _ 90 _ _ _ _)
                  refine R_iload dX12_rows_90 rfl (?_ : RR _ _ _ _ 92 _ _ _ _)
                  refine R_iadd dX12_rows_92 (?_ : RR _ _ _ _ 93 _ _ _ _)
                  refine R_iald dX12_rows_93 (fun q93 => (?_ : RR _ _ _ _ 94 _ _ _ _))
                  rw [e1] at q93 ⊢
                  refine R_istore_n dX12_rows_94 (Nat.le_of_ble_eq_true rfl) (?_ : RR _ _ _ _ 95 [_, _, _, _, _, _] _ _ _)
                  refine R_iinc dX12_rows_95 rfl (Nat.le_of_ble_eq_true rfl) (?_ : RR _ _ _ _ 98 [_, _, _, _, _, _] _ _ _)
                  refine R_goto (t := 48) dX12_rows_98 rfl (?_ : RR _ _ _ _ 48 _ _ _ _)
                  exact IH _
            intro w5
            exact L l 0 st [] w5 (by omega) rfl f0.1 f0.2 (by rw [← hz]; exact y) hLL.symm
          · rw [if_neg y] at hLL
            intro w5
            by_cases u : l = 0
            · refine R_iload dX12_rows_48 rfl (?_ : RR _ _ _ _ 50 _ _ _ _)
              refine R_iload_n dX12_rows_50 rfl (?_ : RR _ _ _ _ 51 _ _ _ _)
              refine R_icmp_ge (t := 101) dX12_rows_51 rfl (fun c51 => ?_) (fun c51 => ?_)
              rotate_left
              · exfalso; omega
              exact E [] _ _ _ hLL.symm
            · refine R_iload dX12_rows_48 rfl (?_ : RR _ _ _ _ 50 _ _ _ _)
              refine R_iload_n dX12_rows_50 rfl (?_ : RR _ _ _ _ 51 _ _ _ _)
              refine R_icmp_ge (t := 101) dX12_rows_51 rfl (fun c51 => ?_) (fun c51 => ?_)
              · exfalso; omega
              refine R_iload_n dX12_rows_54 rfl (?_ : RR _ _ _ _ 55 _ _ _ _)
              refine R_if_le (t := 101) dX12_rows_55 rfl (fun c55 => ?_) (fun c55 => ?_)
              rotate_left
              · exfalso; omega
              exact E [] _ _ _ hLL.symm
        refine R_aload_n dX12_rows_21 rfl (?_ : RR _ _ _ _ 22 _ _ _ _)
        refine R_getr dX12_rows_22 flX12_90 cok_12 rfl (by decide) (?_ : RR _ _ _ _ 25 _ _ _ _)
        refine R_aload_n dX12_rows_25 rfl (?_ : RR _ _ _ _ 26 _ _ _ _)
        refine R_getr dX12_rows_26 flX12_33 cok_12 rfl (by decide) (?_ : RR _ _ _ _ 29 _ _ _ _)
        refine R_iconst dX12_rows_29 (?_ : RR _ _ _ _ 30 _ _ _ _)
        refine R_iald dX12_rows_30 (fun q30 => (?_ : RR _ _ _ _ 31 _ _ _ _))
        rw [g154] at q30 ⊢
        refine R_iald dX12_rows_31 (fun q31 => (?_ : RR _ _ _ _ 32 _ _ _ _))
        rw [g173, e0] at q31 ⊢
        refine R_istore_n dX12_rows_32 (Nat.le_of_ble_eq_true rfl) (?_ : RR _ _ _ _ 33 [_, _, _, _, _, _] _ _ _)
        refine R_aload_n dX12_rows_33 rfl (?_ : RR _ _ _ _ 34 _ _ _ _)
        refine R_iconst dX12_rows_34 (?_ : RR _ _ _ _ 35 _ _ _ _)
        refine R_puti (zk := 1) dX12_rows_35 flX12_113 cok_12 (by decide) (fun q hq => by cases hq; rfl) rfl (?_ : RR _ _ _ _ 38 _ _ _ _)
        show RR _ _ _ _ _ _ _ (shp0, rf0, tmR h6 []) _
        refine R_aload_n dX12_rows_38 rfl (?_ : RR _ _ _ _ 39 _ _ _ _)
        refine R_getr dX12_rows_39 flX12_33 cok_12 rfl (by decide) (?_ : RR _ _ _ _ 42 _ _ _ _)
        refine R_iconst dX12_rows_42 (?_ : RR _ _ _ _ 43 _ _ _ _)
        refine R_iald dX12_rows_43 (fun q43 => (?_ : RR _ _ _ _ 44 _ _ _ _))
        rw [tmR_n (by omega) (by omega), g154] at q43 ⊢
        refine R_istore_n dX12_rows_44 (Nat.le_of_ble_eq_true rfl) (?_ : RR _ _ _ _ 45 [_, _, _, _, _, _] _ _ _)
        refine R_iconst dX12_rows_45 (?_ : RR _ _ _ _ 46 _ _ _ _)
        refine R_istore dX12_rows_46 (Nat.le_of_ble_eq_true rfl) (?_ : RR _ _ _ _ 48 [_, _, _, _, _, _] _ _ _)
        exact K48 _
      refine R_aload_n dX12_rows_0 rfl (?_ : RR _ _ _ _ 1 _ _ _ _)
      refine R_iconst dX12_rows_1 (?_ : RR _ _ _ _ 2 _ _ _ _)
      refine R_puti (zk := 0) dX12_rows_2 flX12_106 cok_12 (by decide) (fun q hq => by cases hq; rfl) rfl (?_ : RR _ _ _ _ 5 _ _ _ _)
      rw [← h4e]
      refine R_aload_n dX12_rows_5 rfl (?_ : RR _ _ _ _ 6 _ _ _ _)
      refine R_cVi0 dX12_rows_6 mvX12_lastSeen mlX12_451 (by decide) (by decide) (Nat.le_of_ble_eq_true rfl) (Nat.le_of_ble_eq_true rfl) (hls4) (?_ : RR _ _ _ _ 9 _ _ _ _)
      refine R_istore_n dX12_rows_9 (Nat.le_of_ble_eq_true rfl) (?_ : RR _ _ _ _ 10 [_, _, _, _, _, _] _ _ _)
      refine R_iload_n dX12_rows_10 rfl (?_ : RR _ _ _ _ 11 _ _ _ _)
      refine R_if_ge (t := 16) dX12_rows_11 rfl (fun c11 => ?_) (fun c11 => ?_)
      rotate_left
      · exfalso; omega
      refine R_aload_n dX12_rows_16 rfl (?_ : RR _ _ _ _ 17 _ _ _ _)
      refine R_iload_n dX12_rows_17 rfl (?_ : RR _ _ _ _ 18 _ _ _ _)
      refine R_qV1 dX12_rows_18 mvX12_laysRows mlX12_454 (by decide) (by decide) (Nat.le_of_ble_eq_true rfl) (Nat.le_of_ble_eq_true rfl) (hML) (fun r9 g9 hq9 => (?_ : RR _ _ _ _ 21 _ _ _ _))
      obtain ⟨rfl, f, w, rfl, hw, hf⟩ := hq9
      show RR _ _ _ _ _ _ [] _ _
      exact K f w hw
theorem bset_tb {R H : Nat} (hR : R < 2 ^ H) : bset R.testBit H = R := by
  apply Nat.eq_of_testBit_eq
  intro i
  rw [bset_bit]
  by_cases q : i < H
  · simp [q]
  · rw [Nat.testBit_lt_two_pow (Nat.lt_of_lt_of_le hR (Nat.pow_le_pow_right (by omega) (by omega)))]
    simp
theorem mtF_b {rc : Nat → Nat} {f : Int → Int} {kk : Nat} (hf : mtF rc l 0 f) (hk : kk ≤ l) (hl : l ≤ 12) (hH : H ≤ 9) (hR : rc kk < 2 ^ H) : bset (fun c => decide (f (9 * (kk : Int) + c) ≠ 0)) H = rc kk := by
  rw [← bset_tb hR]
  refine bset_congr (fun c hc => ?_)
  rw [hf kk c (by omega) (by omega), if_pos hk]
  by_cases q : (rc kk).testBit c = true
  · rw [if_pos q, q]; rfl
  · rw [if_neg q, show (rc kk).testBit c = false by simpa using q]; rfl
end RW
