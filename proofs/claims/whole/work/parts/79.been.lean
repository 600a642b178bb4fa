section BE
variable {k : Nat} {h h1 h2 h3 h4 : Nat → Int → Int} {sem : Sem} {H np nc len N l : Nat} {v : Int}
theorem A_been (hs : SRx k h sem H np nc len) (hv : r32 v) : AG mX11_been mX12_been 3 3 [pI v] k h := by
  obtain ⟨N, l, fit, n1, n2, n3, hl, hl12, hls, hl0, hb, hT, hfi, h14⟩ := sTr hs
  have hH := sRH hs
  obtain ⟨ex, hex⟩ : ∃ ex, ex = h 149 := ⟨_, rfl⟩
  obtain ⟨st, hst⟩ : ∃ st, st = h 154 0 := ⟨_, rfl⟩
  have f0 := hs.2.2.2.1.1.1.1
  have hE := hs.1.2.2.2.2.2.1.1
  have hls2 := lsS_b (f := h 170) (n := N) hb
  rw [← hex] at hT hE
  rw [← hst] at hT h14 f0
  by_cases q : 1 ≤ N ∧ 0 ≤ v ∧ v ≤ l
  · obtain ⟨kk, rfl⟩ := Int.eq_ofNat_of_zero_le q.2.1
    obtain ⟨R, hR⟩ : ∃ R, R = rcK ex fit l H st kk := ⟨_, rfl⟩
    have hRl := rcK_lt (fit := fit) (l := l) hE f0 kk
    have h29 : 2 ^ H ≤ 2 ^ 9 := Nat.pow_le_pow_right (by omega) hH.2
    rw [← hR] at hRl
    have hp := pop_12 (P := R.testBit) (n := H) (by omega)
    rw [bset_tb hRl] at hp
    refine A_q hs (z := R) (o := some [(pop 12 R : Int)]) ?_ (fun h3 e => ?_) (fun L e => by injection e with e; subst e; exact (by omega : 1 ≤ 12))
    · show RR _ _ _ _ _ [pR 0, pI kk, pU] _ _ _
      have K : ∀ f w : Int → Int, f kk = ((rcK ex fit l H st kk : Nat) : Int) → RR mX11_been 3 0 0 45 [pR 0, pI kk, pU] [] (shp0, rf0, rup (rup h 140 f) 141 w) (cQ h R (some [(pop 12 R : Int)])) := by
        intro f w hf
        rw [← hR] at hf
        have g140 : rup (rup h 140 f) 141 w 140 (kk : Int) = R := by rw [rup_n (by omega), rup_s]; exact hf
        refine R_aload_n dX11_been_45 rfl (?_ : RR _ _ _ _ 46 _ _ _ _)
        refine R_getr dX11_been_46 flX11_73 cok_11 rfl (by decide) (?_ : RR _ _ _ _ 49 _ _ _ _)
        refine R_iload_n dX11_been_49 rfl (?_ : RR _ _ _ _ 50 _ _ _ _)
        refine R_cVi1 dX11_been_50 mvX6_haltsBehind mlX11_387 (by decide) (by decide) (Nat.le_of_ble_eq_true rfl) (Nat.le_of_ble_eq_true rfl) (T_X6_haltsBehind) (?_ : RR _ _ _ _ 53 _ _ _ _)
        rw [g140]
        refine R_istore_n dX11_been_53 (Nat.le_of_ble_eq_true rfl) (?_ : RR _ _ _ _ 54 [_, _, _] _ _ _)
        refine R_aload_n dX11_been_54 rfl (?_ : RR _ _ _ _ 55 _ _ _ _)
        refine R_getr dX11_been_55 flX11_87 cok_11 rfl (by decide) (?_ : RR _ _ _ _ 58 _ _ _ _)
        refine R_cVv0 dX11_been_58 mvX3_clear mlX11_239 (by decide) (by decide) (Nat.le_of_ble_eq_true rfl) (Nat.le_of_ble_eq_true rfl) (T_tlc) (?_ : RR _ _ _ _ 61 _ _ _ _)
        refine R_aload_n dX11_been_61 rfl (?_ : RR _ _ _ _ 62 _ _ _ _)
        refine R_getr dX11_been_62 flX11_87 cok_11 rfl (by decide) (?_ : RR _ _ _ _ 65 _ _ _ _)
        refine R_iload_n dX11_been_65 rfl (?_ : RR _ _ _ _ 66 _ _ _ _)
        refine R_cSi1 dX11_been_66 msJ6_bitCount_0f7a4 mlX11_325 (by decide) (Nat.le_of_ble_eq_true rfl) (Nat.le_of_ble_eq_true rfl) (T_J6_bitCount_0f7a4) (?_ : RR _ _ _ _ 69 _ _ _ _)
        refine R_i2l dX11_been_69 (by first | assumption | omega) (?_ : RR _ _ _ _ 70 _ _ _ _)
        refine R_cVv1 dX11_been_70 mvX3_add mlX11_243 (by decide) (by decide) (Nat.le_of_ble_eq_true rfl) (Nat.le_of_ble_eq_true rfl) (T_tla (by simp) (by omega)) (?_ : RR _ _ _ _ 73 _ _ _ _)
        refine R_iload_n dX11_been_73 rfl (?_ : RR _ _ _ _ 74 _ _ _ _)
        exact R_ireturn dX11_been_74 trivial (cQ_tl cq_tr rfl)
      refine R_aload_n dX11_been_0 rfl (?_ : RR _ _ _ _ 1 _ _ _ _)
      refine R_getr dX11_been_1 flX11_73 cok_11 rfl (by decide) (?_ : RR _ _ _ _ 4 _ _ _ _)
      refine R_geti (z := 0) dX11_been_4 flX11_369 cok_6 rfl (by decide) rfl (fun q4 => (?_ : RR _ _ _ _ 7 _ _ _ _))
      rw [n1] at q4 ⊢
      refine R_if_eq (t := 25) dX11_been_7 rfl (fun c7 => ?_) (fun c7 => ?_)
      · exfalso; omega
      refine R_iload_n dX11_been_10 rfl (?_ : RR _ _ _ _ 11 _ _ _ _)
      refine R_if_lt (t := 25) dX11_been_11 rfl (fun c11 => ?_) (fun c11 => ?_)
      · exfalso; omega
      refine R_iload_n dX11_been_14 rfl (?_ : RR _ _ _ _ 15 _ _ _ _)
      refine R_aload_n dX11_been_15 rfl (?_ : RR _ _ _ _ 16 _ _ _ _)
      refine R_getr dX11_been_16 flX11_73 cok_11 rfl (by decide) (?_ : RR _ _ _ _ 19 _ _ _ _)
      refine R_geti (z := 1) dX11_been_19 flX11_384 cok_6 rfl (by decide) rfl (fun q19 => (?_ : RR _ _ _ _ 22 _ _ _ _))
      rw [hl] at q19 ⊢
      refine R_icmp_le (t := 27) dX11_been_22 rfl (fun c22 => ?_) (fun c22 => ?_)
      rotate_left
      · exfalso; omega
      refine R_aload_n dX11_been_27 rfl (?_ : RR _ _ _ _ 28 _ _ _ _)
      refine R_getr dX11_been_28 flX11_73 cok_11 rfl (by decide) (?_ : RR _ _ _ _ 31 _ _ _ _)
      refine R_aload_n dX11_been_31 rfl (?_ : RR _ _ _ _ 32 _ _ _ _)
      refine R_getr dX11_been_32 flX11_19 cok_11 rfl (by decide) (?_ : RR _ _ _ _ 35 _ _ _ _)
      refine R_aload_n dX11_been_35 rfl (?_ : RR _ _ _ _ 36 _ _ _ _)
      refine R_getr dX11_been_36 flX11_36 cok_11 rfl (by decide) (?_ : RR _ _ _ _ 39 _ _ _ _)
      refine R_geti (z := 0) dX11_been_39 flX11_171 cok_9 rfl (by decide) rfl (fun q39 => (?_ : RR _ _ _ _ 42 _ _ _ _))
      rw [h14] at q39 ⊢
      refine R_qV2 dX11_been_42 mvX6_trace mlX11_373 (by decide) (by decide) (Nat.le_of_ble_eq_true rfl) (Nat.le_of_ble_eq_true rfl) (C_trace hT) (fun r9 g9 hq9 => (?_ : RR _ _ _ _ 45 _ _ _ _))
      obtain ⟨rfl, f, w, rfl, hw, hf⟩ := hq9
      show RR _ _ _ _ _ _ [] _ _
      exact K f w (hf kk (by omega))
    · show RR _ _ _ _ _ [pR 147, pI kk, pU] _ _ _
      obtain ⟨h4, h4e⟩ : ∃ h4, h4 = rup h3 147 (fup (h3 147) 0 0) := ⟨_, rfl⟩
      have f4 : ∀ a, 147 < a → h4 a = h a := fun a a1 => by rw [h4e, rup_n (by omega)]; exact e a (by omega)
      have j4 : ∀ j : Int, j ≠ 0 → h4 147 j = h 147 j := fun j j1 => by rw [h4e, rup_s, fup_n j1, e 147 (by omega)]
      have hMT := mtK_of (l := l) hs n2 n3 hl12 hfi f4 (j4 3 (by omega)) (j4 40 (by omega))
      rw [← hst] at hMT
      have hML := M_laysRows hMT
      rw [f4 149 (by omega), ← hex] at hML
      have hls4 := T_X12_lastSeen (h := h4) (N := N) (by rw [j4 40 (by omega)]; exact n2) n3 (fun i hi => by rw [f4 170 (by omega)]; exact hb i hi)
      rw [f4 170 (by omega), hls (by omega)] at hls4
      have K : ∀ f w : Int → Int, mtF (rcK ex fit l H st) l 0 f → RR mX12_been 3 0 0 32 [pR 147, pI kk, pI l] [] (shp0, rf0, rup (rup h4 173 w) 174 f) (mQ h3 R (some [(pop 12 R : Int)])) := by
        intro f w hf
        obtain ⟨h6, h6e⟩ : ∃ h6, h6 = rup (rup h4 173 w) 174 f := ⟨_, rfl⟩
        have hmq : mqF h3 h6 := by rw [h6e]; exact mq_tr h4e
        have g3 : h6 147 3 = H := by rw [h6e, rup_n (by omega), rup_n (by omega), j4 3 (by omega)]; exact hs.1.1
        have g174 : h6 174 = f := by rw [h6e, rup_s]
        have hbb := mtF_b (H := H) (kk := kk) hf (by omega) hl12 hH.2 (by rw [← hR]; exact hRl)
        rw [← hR] at hbb
        have T1 := fun L => T_X12_beenBehind (h := tmR h6 L) (H := H) (s := kk) (by rw [tmR_j (by omega)]; exact g3) hH.2 (by omega)
        have T1 : ∀ L : List Int, MT mX12_beenBehind 0 [pR 147, pI kk] (tmR h6 L) (some (pI R)) (tmR h6 L) := fun L => by
          have := T1 L
          rw [tmR_n (by omega) (by omega), g174, hbb] at this
          exact this
        rw [← h6e]
        refine R_aload_n dX12_been_32 rfl (?_ : RR _ _ _ _ 33 _ _ _ _)
        refine R_iconst dX12_been_33 (?_ : RR _ _ _ _ 34 _ _ _ _)
        refine R_puti (zk := 1) dX12_been_34 flX12_113 cok_12 (by decide) (fun q hq => by cases hq; rfl) rfl (?_ : RR _ _ _ _ 37 _ _ _ _)
        show RR _ _ _ _ _ _ _ (shp0, rf0, tmR h6 []) _
        refine R_aload_n dX12_been_37 rfl (?_ : RR _ _ _ _ 38 _ _ _ _)
        refine R_aload_n dX12_been_38 rfl (?_ : RR _ _ _ _ 39 _ _ _ _)
        refine R_iload_n dX12_been_39 rfl (?_ : RR _ _ _ _ 40 _ _ _ _)
        refine R_cVi1 dX12_been_40 mvX12_beenBehind mlX12_457 (by decide) (by decide) (Nat.le_of_ble_eq_true rfl) (Nat.le_of_ble_eq_true rfl) (T1 _) (?_ : RR _ _ _ _ 43 _ _ _ _)
        refine R_cSi1 dX12_been_43 msJ6_bitCount_0f7a4 mlX12_273 (by decide) (Nat.le_of_ble_eq_true rfl) (Nat.le_of_ble_eq_true rfl) (T_J6_bitCount_0f7a4) (?_ : RR _ _ _ _ 46 _ _ _ _)
        refine R_i2l dX12_been_46 (by first | assumption | omega) (?_ : RR _ _ _ _ 47 _ _ _ _)
        refine R_cVv1 dX12_been_47 mvX12_enters mlX12_116 (by decide) (by decide) (Nat.le_of_ble_eq_true rfl) (Nat.le_of_ble_eq_true rfl) (T_tma (by simp) (by omega)) (?_ : RR _ _ _ _ 50 _ _ _ _)
        refine R_aload_n dX12_been_50 rfl (?_ : RR _ _ _ _ 51 _ _ _ _)
        refine R_iload_n dX12_been_51 rfl (?_ : RR _ _ _ _ 52 _ _ _ _)
        refine R_cVi1 dX12_been_52 mvX12_beenBehind mlX12_457 (by decide) (by decide) (Nat.le_of_ble_eq_true rfl) (Nat.le_of_ble_eq_true rfl) (T1 _) (?_ : RR _ _ _ _ 55 _ _ _ _)
        exact R_ireturn dX12_been_55 trivial (mQ_tm hmq rfl)
      refine R_aload_n dX12_been_0 rfl (?_ : RR _ _ _ _ 1 _ _ _ _)
      refine R_iconst dX12_been_1 (?_ : RR _ _ _ _ 2 _ _ _ _)
      refine R_puti (zk := 0) dX12_been_2 flX12_106 cok_12 (by decide) (fun q hq => by cases hq; rfl) rfl (?_ : RR _ _ _ _ 5 _ _ _ _)
      rw [← h4e]
      refine R_aload_n dX12_been_5 rfl (?_ : RR _ _ _ _ 6 _ _ _ _)
      refine R_cVi0 dX12_been_6 mvX12_lastSeen mlX12_451 (by decide) (by decide) (Nat.le_of_ble_eq_true rfl) (Nat.le_of_ble_eq_true rfl) (hls4) (?_ : RR _ _ _ _ 9 _ _ _ _)
      refine R_istore_n dX12_been_9 (Nat.le_of_ble_eq_true rfl) (?_ : RR _ _ _ _ 10 [_, _, _] _ _ _)
      refine R_iload_n dX12_been_10 rfl (?_ : RR _ _ _ _ 11 _ _ _ _)
      refine R_if_lt (t := 25) dX12_been_11 rfl (fun c11 => ?_) (fun c11 => ?_)
      · exfalso; omega
      refine R_iload_n dX12_been_14 rfl (?_ : RR _ _ _ _ 15 _ _ _ _)
      refine R_i2l dX12_been_15 (by first | assumption | omega) (?_ : RR _ _ _ _ 16 _ _ _ _)
      refine R_lconst (z := 0) dX12_been_16 rfl (?_ : RR _ _ _ _ 17 _ _ _ _)
      refine R_iload_n dX12_been_17 rfl (?_ : RR _ _ _ _ 18 _ _ _ _)
      refine R_i2l dX12_been_18 (by first | assumption | omega) (?_ : RR _ _ _ _ 19 _ _ _ _)
      refine R_cSi3 dX12_been_19 msX12_in mlX12_120 (by decide) (Nat.le_of_ble_eq_true rfl) (Nat.le_of_ble_eq_true rfl) (T_X12_in) (?_ : RR _ _ _ _ 22 _ _ _ _)
      rw [if_pos q.2]
      refine R_if_ne (t := 27) dX12_been_22 rfl (fun c22 => ?_) (fun c22 => ?_)
      rotate_left
      · exfalso; omega
      refine R_aload_n dX12_been_27 rfl (?_ : RR _ _ _ _ 28 _ _ _ _)
      refine R_iload_n dX12_been_28 rfl (?_ : RR _ _ _ _ 29 _ _ _ _)
      refine R_qV1 dX12_been_29 mvX12_laysRows mlX12_454 (by decide) (by decide) (Nat.le_of_ble_eq_true rfl) (Nat.le_of_ble_eq_true rfl) (hML) (fun r9 g9 hq9 => (?_ : RR _ _ _ _ 32 _ _ _ _))
      obtain ⟨rfl, f, w, rfl, hw, hf⟩ := hq9
      show RR _ _ _ _ _ _ [] _ _
      exact K f w hf
  · refine A_q hs (z := -1) (o := none) (cQ_no (M := mX11_been) (d := 3) (As := [pR 0, pI v]) (MT.of (fun Q hQ => (?_ : RR mX11_been _ _ _ _ [pR 0, pI v, pU] _ _ _)))) (fun h3 e => mQ_thr (M := mX12_been) (d := 3) (As := [pR 147, pI v]) (MT.of (fun Q hQ => (?_ : RR mX12_been _ _ _ _ [pR 147, pI v, pU] _ _ _)))) (fun L e => by cases e)
    · by_cases y : N = 0
      · refine R_aload_n dX11_been_0 rfl (?_ : RR _ _ _ _ 1 _ _ _ _)
        refine R_getr dX11_been_1 flX11_73 cok_11 rfl (by decide) (?_ : RR _ _ _ _ 4 _ _ _ _)
        refine R_geti (z := 0) dX11_been_4 flX11_369 cok_6 rfl (by decide) rfl (fun q4 => (?_ : RR _ _ _ _ 7 _ _ _ _))
        rw [n1] at q4 ⊢
        refine R_if_eq (t := 25) dX11_been_7 rfl (fun c7 => ?_) (fun c7 => ?_)
        rotate_left
        · exfalso; omega
        refine R_iconst dX11_been_25 (?_ : RR _ _ _ _ 26 _ _ _ _)
        exact R_ireturn dX11_been_26 trivial hQ
      · by_cases u : v < 0
        · refine R_aload_n dX11_been_0 rfl (?_ : RR _ _ _ _ 1 _ _ _ _)
          refine R_getr dX11_been_1 flX11_73 cok_11 rfl (by decide) (?_ : RR _ _ _ _ 4 _ _ _ _)
          refine R_geti (z := 0) dX11_been_4 flX11_369 cok_6 rfl (by decide) rfl (fun q4 => (?_ : RR _ _ _ _ 7 _ _ _ _))
          rw [n1] at q4 ⊢
          refine R_if_eq (t := 25) dX11_been_7 rfl (fun c7 => ?_) (fun c7 => ?_)
          · exfalso; omega
          refine R_iload_n dX11_been_10 rfl (?_ : RR _ _ _ _ 11 _ _ _ _)
          refine R_if_lt (t := 25) dX11_been_11 rfl (fun c11 => ?_) (fun c11 => ?_)
          rotate_left
          · exfalso; omega
          refine R_iconst dX11_been_25 (?_ : RR _ _ _ _ 26 _ _ _ _)
          exact R_ireturn dX11_been_26 trivial hQ
        · refine R_aload_n dX11_been_0 rfl (?_ : RR _ _ _ _ 1 _ _ _ _)
          refine R_getr dX11_been_1 flX11_73 cok_11 rfl (by decide) (?_ : RR _ _ _ _ 4 _ _ _ _)
          refine R_geti (z := 0) dX11_been_4 flX11_369 cok_6 rfl (by decide) rfl (fun q4 => (?_ : RR _ _ _ _ 7 _ _ _ _))
          rw [n1] at q4 ⊢
          refine R_if_eq (t := 25) dX11_been_7 rfl (fun c7 => ?_) (fun c7 => ?_)
          · exfalso; omega
          refine R_iload_n dX11_been_10 rfl (?_ : RR _ _ _ _ 11 _ _ _ _)
          refine R_if_lt (t := 25) dX11_been_11 rfl (fun c11 => ?_) (fun c11 => ?_)
          · exfalso; omega
          refine R_iload_n dX11_been_14 rfl (?_ : RR _ _ _ _ 15 _ _ _ _)
          refine R_aload_n dX11_been_15 rfl (?_ : RR _ _ _ _ 16 _ _ _ _)
          refine R_getr dX11_been_16 flX11_73 cok_11 rfl (by decide) (?_ : RR _ _ _ _ 19 _ _ _ _)
          refine R_geti (z := 1) dX11_been_19 flX11_384 cok_6 rfl (by decide) rfl (fun q19 => (?_ : RR _ _ _ _ 22 _ _ _ _))
          rw [hl] at q19 ⊢
          refine R_icmp_le (t := 27) dX11_been_22 rfl (fun c22 => ?_) (fun c22 => ?_)
          · exfalso; omega
          refine R_iconst dX11_been_25 (?_ : RR _ _ _ _ 26 _ _ _ _)
          exact R_ireturn dX11_been_26 trivial hQ
    · have hq := T_X12_lastSeen (h := rup h3 147 (fup (h3 147) 0 0)) (N := N) (by rw [rup_s, fup_n (by omega), e 147 (by omega)]; exact n2) n3 (fun i hi => by rw [rup_n (by omega), e 170 (by omega)]; exact hb i hi)
      rw [rup_n (by omega), e 170 (by omega)] at hq
      by_cases y : N = 0
      · rw [hl0 y] at hq
        refine R_aload_n dX12_been_0 rfl (?_ : RR _ _ _ _ 1 _ _ _ _)
        refine R_iconst dX12_been_1 (?_ : RR _ _ _ _ 2 _ _ _ _)
        refine R_puti (zk := 0) dX12_been_2 flX12_106 cok_12 (by decide) (fun q hq => by cases hq; rfl) rfl (?_ : RR _ _ _ _ 5 _ _ _ _)
        refine R_aload_n dX12_been_5 rfl (?_ : RR _ _ _ _ 6 _ _ _ _)
        refine R_cVi0 dX12_been_6 mvX12_lastSeen mlX12_451 (by decide) (by decide) (Nat.le_of_ble_eq_true rfl) (Nat.le_of_ble_eq_true rfl) (hq) (?_ : RR _ _ _ _ 9 _ _ _ _)
        refine R_istore_n dX12_been_9 (Nat.le_of_ble_eq_true rfl) (?_ : RR _ _ _ _ 10 [_, _, _] _ _ _)
        refine R_iload_n dX12_been_10 rfl (?_ : RR _ _ _ _ 11 _ _ _ _)
        refine R_if_lt (t := 25) dX12_been_11 rfl (fun c11 => ?_) (fun c11 => ?_)
        rotate_left
        · exfalso; omega
        refine R_iconst dX12_been_25 (?_ : RR _ _ _ _ 26 _ _ _ _)
        exact R_ireturn dX12_been_26 trivial hQ
      · rw [hls (by omega)] at hq
        refine R_aload_n dX12_been_0 rfl (?_ : RR _ _ _ _ 1 _ _ _ _)
        refine R_iconst dX12_been_1 (?_ : RR _ _ _ _ 2 _ _ _ _)
        refine R_puti (zk := 0) dX12_been_2 flX12_106 cok_12 (by decide) (fun q hq => by cases hq; rfl) rfl (?_ : RR _ _ _ _ 5 _ _ _ _)
        refine R_aload_n dX12_been_5 rfl (?_ : RR _ _ _ _ 6 _ _ _ _)
        refine R_cVi0 dX12_been_6 mvX12_lastSeen mlX12_451 (by decide) (by decide) (Nat.le_of_ble_eq_true rfl) (Nat.le_of_ble_eq_true rfl) (hq) (?_ : RR _ _ _ _ 9 _ _ _ _)
        refine R_istore_n dX12_been_9 (Nat.le_of_ble_eq_true rfl) (?_ : RR _ _ _ _ 10 [_, _, _] _ _ _)
        refine R_iload_n dX12_been_10 rfl (?_ : RR _ _ _ _ 11 _ _ _ _)
        refine R_if_lt (t := 25) dX12_been_11 rfl (fun c11 => ?_) (fun c11 => ?_)
        · exfalso; omega
        refine R_iload_n dX12_been_14 rfl (?_ : RR _ _ _ _ 15 _ _ _ _)
        refine R_i2l dX12_been_15 (by first | assumption | omega) (?_ : RR _ _ _ _ 16 _ _ _ _)
        refine R_lconst (z := 0) dX12_been_16 rfl (?_ : RR _ _ _ _ 17 _ _ _ _)
        refine R_iload_n dX12_been_17 rfl (?_ : RR _ _ _ _ 18 _ _ _ _)
        refine R_i2l dX12_been_18 (by first | assumption | omega) (?_ : RR _ _ _ _ 19 _ _ _ _)
        refine R_cSi3 dX12_been_19 msX12_in mlX12_120 (by decide) (Nat.le_of_ble_eq_true rfl) (Nat.le_of_ble_eq_true rfl) (T_X12_in) (?_ : RR _ _ _ _ 22 _ _ _ _)
        rw [if_neg (fun z => q ⟨by omega, z⟩)]
        refine R_if_ne (t := 27) dX12_been_22 rfl (fun c22 => ?_) (fun c22 => ?_)
        · exfalso; omega
        refine R_iconst dX12_been_25 (?_ : RR _ _ _ _ 26 _ _ _ _)
        exact R_ireturn dX12_been_26 trivial hQ
/-! the step to ask for -/
def akS (pn : Nat → Nat) (i : Nat) (s : Int × Int) : Int × Int := if s.2 < pn i then ((i : Int), (pn i : Int)) else s
theorem akS_b {pn : Nat → Nat} {s : Int × Int} (hp : ∀ i, pn i ≤ 12) (h0 : -2 ≤ s.1 ∧ s.1 ≤ 0 ∧ s.2 = 0) : ∀ i : Nat, (-2 ≤ (it (akS pn) s i).1 ∧ (it (akS pn) s i).1 ≤ i) ∧ 0 ≤ (it (akS pn) s i).2 ∧ (it (akS pn) s i).2 ≤ 12
  | 0 => by show (-2 ≤ s.1 ∧ s.1 ≤ ((0 : Nat) : Int)) ∧ 0 ≤ s.2 ∧ s.2 ≤ 12; omega
  | i + 1 => by
    have h1 := akS_b hp h0 i
    have h2 := hp i
    show (-2 ≤ (akS pn i (it (akS pn) s i)).1 ∧ (akS pn i (it (akS pn) s i)).1 ≤ ((i + 1 : Nat) : Int)) ∧ 0 ≤ (akS pn i (it (akS pn) s i)).2 ∧ (akS pn i (it (akS pn) s i)).2 ≤ 12
    generalize it (akS pn) s i = u at h1 ⊢
    unfold akS
    split
    · exact ⟨⟨by show (-2 : Int) ≤ i; omega, by show (i : Int) ≤ ((i + 1 : Nat) : Int); omega⟩, by show (0 : Int) ≤ (pn i : Int); omega, by show (pn i : Int) ≤ 12; omega⟩
    · omega
theorem akS_same {pn : Nat → Nat} (h0 : 1 ≤ pn 0) : ∀ i : Nat, it (akS pn) (0, 0) (i + 1) = it (akS pn) (-2, 0) (i + 1) ∧ 0 ≤ (it (akS pn) (-2, 0) (i + 1)).1
  | 0 => by
    show akS pn 0 (0, 0) = akS pn 0 (-2, 0) ∧ 0 ≤ (akS pn 0 (-2, 0)).1
    unfold akS
    rw [if_pos (show (0 : Int) < (pn 0 : Int) by omega), if_pos (show (0 : Int) < (pn 0 : Int) by omega)]
    exact ⟨rfl, Int.le_refl _⟩
  | i + 1 => by
    obtain ⟨h1, h2⟩ := akS_same h0 i
    refine ⟨?_, ?_⟩
    · show akS pn (i + 1) (it (akS pn) (0, 0) (i + 1)) = akS pn (i + 1) (it (akS pn) (-2, 0) (i + 1))
      rw [h1]
    · show 0 ≤ (akS pn (i + 1) (it (akS pn) (-2, 0) (i + 1))).1
      generalize it (akS pn) (-2, 0) (i + 1) = u at h2 ⊢
      unfold akS
      split
      · show (0 : Int) ≤ ((i + 1 : Nat) : Int)
        omega
      · exact h2
theorem akS_none {pn : Nat → Nat} (h0 : ∀ i, pn i = 0) : ∀ i : Nat, it (akS pn) (-2, 0) i = (-2, 0)
  | 0 => rfl
  | i + 1 => by
    show akS pn i (it (akS pn) (-2, 0) i) = _
    rw [akS_none h0 i]
    unfold akS
    rw [h0, if_neg (show ¬ ((0 : Int) < ((0 : Nat) : Int)) by omega)]
theorem rcS_0 {ex w : Int → Int} : ∀ n, rcS ex w 0 n = 0
  | 0 => rfl
  | n + 1 => by
    unfold rcS
    rw [if_neg (fun z => by rw [Nat.zero_testBit] at z; cases z.1)]
    exact rcS_0 n
theorem rcK_none {ex : Int → Int} {fit : Int → Int → Bool} {st : Int} (h0 : ¬ 0 < wyS ex fit l l st) : ∀ i, rcK ex fit l H st i = 0
  | 0 => if_neg h0
  | i + 1 => by
    show rcS ex _ (rcK ex fit l H st i) _ = 0
    rw [rcK_none h0 i]
    exact rcS_0 _
theorem pop_1 : ∀ n : Nat, n < 9 → pop 12 (2 ^ n) = 1 := by decide +kernel
theorem A_ask (hs : SRx k h sem H np nc len) : AG mX11_ask mX12_ask 3 3 [] k h := by
  obtain ⟨N, l, fit, n1, n2, n3, hl, hl12, hls, hl0, hb, hT, hfi, h14⟩ := sTr hs
  have hH := sRH hs
  obtain ⟨ex, hex⟩ : ∃ ex, ex = h 149 := ⟨_, rfl⟩
  obtain ⟨st, hst⟩ : ∃ st, st = h 154 0 := ⟨_, rfl⟩
  have f0 := hs.2.2.2.1.1.1.1
  have hE := hs.1.2.2.2.2.2.1.1
  rw [← hex] at hT hE
  rw [← hst] at hT h14 f0
  obtain ⟨z, hz⟩ : ∃ z, z = wyS ex fit l l st := ⟨_, rfl⟩
  have hzb := wyS_4096 (ex := ex) (fit := fit) (l := l) (c := st) hl12
  rw [← hz] at hzb
  have h29 : 2 ^ H ≤ 2 ^ 9 := Nat.pow_le_pow_right (by omega) hH.2
  have hRl := rcK_lt (fit := fit) (l := l) hE f0
  obtain ⟨rc, hrc⟩ : ∃ rc, rc = rcK ex fit l H st := ⟨_, rfl⟩
  rw [← hrc] at hRl
  have hp : ∀ i, pop 12 (rc i) ≤ 12 := fun i => by
    have := pop_12 (P := (rc i).testBit) (n := H) (by omega)
    rwa [bset_tb (hRl i)] at this
  obtain ⟨pn, hpn⟩ : ∃ pn : Nat → Nat, pn = fun i => pop 12 (rc i) := ⟨_, rfl⟩
  have hpb : ∀ i, pn i ≤ 12 := fun i => by rw [hpn]; exact hp i
  have hpe : ∀ i, pop 12 (rc i) = pn i := fun i => by rw [hpn]
  -- the class's start
  have KC0 : ∀ (Q : Option PV → PH → Prop), (∀ f w : Int → Int, trW H l ex fit (l + 1) w → (∀ i : Nat, i ≤ l → f i = ((rc i : Nat) : Int)) → RR mX11_ask 3 0 0 18 [pR 0, pU, pU, pU, pU] [] (shp0, rf0, rup (rup h 140 f) 141 w) Q) → RR mX11_ask 3 0 0 0 [pR 0, pU, pU, pU, pU] [] (shp0, rf0, h) Q := by
    intro Q K
    refine R_aload_n dX11_ask_0 rfl (?_ : RR _ _ _ _ 1 _ _ _ _)
    refine R_getr dX11_ask_1 flX11_73 cok_11 rfl (by decide) (?_ : RR _ _ _ _ 4 _ _ _ _)
    refine R_aload_n dX11_ask_4 rfl (?_ : RR _ _ _ _ 5 _ _ _ _)
    refine R_getr dX11_ask_5 flX11_19 cok_11 rfl (by decide) (?_ : RR _ _ _ _ 8 _ _ _ _)
    refine R_aload_n dX11_ask_8 rfl (?_ : RR _ _ _ _ 9 _ _ _ _)
    refine R_getr dX11_ask_9 flX11_36 cok_11 rfl (by decide) (?_ : RR _ _ _ _ 12 _ _ _ _)
    refine R_geti (z := 0) dX11_ask_12 flX11_171 cok_9 rfl (by decide) rfl (fun q12 => (?_ : RR _ _ _ _ 15 _ _ _ _))
    rw [h14] at q12 ⊢
    refine R_qV2 dX11_ask_15 mvX6_trace mlX11_373 (by decide) (by decide) (Nat.le_of_ble_eq_true rfl) (Nat.le_of_ble_eq_true rfl) (C_trace hT) (fun r9 g9 hq9 => (?_ : RR _ _ _ _ 18 _ _ _ _))
    obtain ⟨rfl, f, w, rfl, hw, hf⟩ := hq9
    show RR _ _ _ _ _ _ [] _ _
    exact K f w hw (by rw [hrc]; exact hf)
  have hw0 : ∀ w : Int → Int, trW H l ex fit (l + 1) w → w (0 * 9 + st) = z := fun w hw => by
    rw [hz, ← trW_i hw (m' := l) (by omega) f0.1 f0.2]
    congr 2
    omega
  by_cases q : 1 ≤ N ∧ 0 < z
  · have hr0 : rc 0 = 2 ^ st.toNat := by
      rw [hrc]
      show (if 0 < wyS ex fit l l st then 2 ^ st.toNat else 0) = _
      rw [← hz, if_pos q.2]
    have hp0 : 1 ≤ pn 0 := by rw [← hpe 0, hr0, pop_1 _ (by omega)]; exact Nat.le_refl _
    obtain ⟨F, hF⟩ : ∃ F, F = it (akS pn) (-2, 0) (l + 1) := ⟨_, rfl⟩
    obtain ⟨s1, s2⟩ := akS_same hp0 l
    rw [← hF] at s1 s2
    have bF := akS_b (s := (-2, 0)) hpb ⟨by show (-2 : Int) ≤ -2; omega, by show (-2 : Int) ≤ 0; omega, rfl⟩
    have bC := akS_b (s := (0, 0)) hpb ⟨by show (-2 : Int) ≤ 0; omega, by show (0 : Int) ≤ 0; omega, rfl⟩
    refine A_q hs (z := F.1) (o := some [F.2]) ?_ (fun h3 e => ?_) (fun L e => by injection e with e; subst e; exact (by omega : 1 ≤ 12))
    · show RR _ _ _ _ _ [pR 0, pU, pU, pU, pU] _ _ _
      refine KC0 _ (fun f w hw hf => ?_)
      obtain ⟨h5, h5e⟩ : ∃ h5, h5 = rup (rup h 140 f) 141 w := ⟨_, rfl⟩
      have g14 : h5 14 0 = st := by rw [h5e, rup_n (by omega), rup_n (by omega)]; exact h14
      have g141 : h5 141 = w := by rw [h5e, rup_s]
      have g140 : h5 140 = f := by rw [h5e, rup_n (by omega), rup_s]
      have g138 : h5 138 = h 138 := by rw [h5e, rup_n (by omega), rup_n (by omega)]
      have hcq : cqF h h5 := by rw [h5e]; exact cq_tr
      have e0 := hw0 w hw
      rw [← h5e]
      have L : ∀ (j i : Nat) (w4 : PV), i + j = l + 1 → RR mX11_ask 3 0 0 55 [pR 0, pI (it (akS pn) (0, 0) i).1, pI (it (akS pn) (0, 0) i).2, pI i, w4] [] (shp0, rf0, h5) (cQ h F.1 (some [F.2])) := by
        intro j
        induction j with
        | zero =>
          intro i w4 hi
          obtain rfl : i = l + 1 := by omega
          have b := bF (l + 1)
          rw [← hF] at b
          rw [s1]
          refine R_iload_n dX11_ask_55 rfl (?_ : RR _ _ _ _ 56 _ _ _ _)
          refine R_aload_n dX11_ask_56 rfl (?_ : RR _ _ _ _ 57 _ _ _ _)
          refine R_getr dX11_ask_57 flX11_73 cok_11 rfl (by decide) (?_ : RR _ _ _ _ 60 _ _ _ _)
          refine R_geti (z := 1) dX11_ask_60 flX11_384 cok_6 rfl (by decide) rfl (fun q60 => (?_ : RR _ _ _ _ 63 _ _ _ _))
          rw [g138, hl] at q60 ⊢
          refine R_icmp_gt (t := 96) dX11_ask_63 rfl (fun c63 => ?_) (fun c63 => ?_)
          rotate_left
          · exfalso; omega
          refine R_aload_n dX11_ask_96 rfl (?_ : RR _ _ _ _ 97 _ _ _ _)
          refine R_getr dX11_ask_97 flX11_87 cok_11 rfl (by decide) (?_ : RR _ _ _ _ 100 _ _ _ _)
          refine R_cVv0 dX11_ask_100 mvX3_clear mlX11_239 (by decide) (by decide) (Nat.le_of_ble_eq_true rfl) (Nat.le_of_ble_eq_true rfl) (T_tlc) (?_ : RR _ _ _ _ 103 _ _ _ _)
          refine R_aload_n dX11_ask_103 rfl (?_ : RR _ _ _ _ 104 _ _ _ _)
          refine R_getr dX11_ask_104 flX11_87 cok_11 rfl (by decide) (?_ : RR _ _ _ _ 107 _ _ _ _)
          refine R_iload_n dX11_ask_107 rfl (?_ : RR _ _ _ _ 108 _ _ _ _)
          refine R_i2l dX11_ask_108 (by first | assumption | omega) (?_ : RR _ _ _ _ 109 _ _ _ _)
          refine R_cVv1 dX11_ask_109 mvX3_add mlX11_243 (by decide) (by decide) (Nat.le_of_ble_eq_true rfl) (Nat.le_of_ble_eq_true rfl) (T_tla (by simp) (by omega)) (?_ : RR _ _ _ _ 112 _ _ _ _)
          refine R_iload_n dX11_ask_112 rfl (?_ : RR _ _ _ _ 113 _ _ _ _)
          exact R_ireturn dX11_ask_113 trivial (cQ_tl hcq rfl)
        | succ j ih =>
          intro i w4 hi
          have b := bC i
          have hpi := hpb i
          have hri := hRl i
          have e9 : it (akS pn) (0, 0) (i + 1) = akS pn i (it (akS pn) (0, 0) i) := rfl
          have IH := fun w4 => ih (i + 1) w4 (by omega)
          rw [e9] at IH
          generalize it (akS pn) (0, 0) i = s at b IH ⊢
          unfold akS at IH
          have hfi2 := hf i (by omega)
          by_cases u : s.2 < pn i
          · rw [if_pos u] at IH
            refine R_iload_n dX11_ask_55 rfl (?_ : RR _ _ _ _ 56 _ _ _ _)
            refine R_aload_n dX11_ask_56 rfl (?_ : RR _ _ _ _ 57 _ _ _ _)
            refine R_getr dX11_ask_57 flX11_73 cok_11 rfl (by decide) (?_ : RR _ _ _ _ 60 _ _ _ _)
            refine R_geti (z := 1) dX11_ask_60 flX11_384 cok_6 rfl (by decide) rfl (fun q60 => (?_ : RR _ _ _ _ 63 _ _ _ _))
            rw [g138, hl] at q60 ⊢
            refine R_icmp_gt (t := 96) dX11_ask_63 rfl (fun c63 => ?_) (fun c63 => ?_)
            · exfalso; omega
            refine R_aload_n dX11_ask_66 rfl (?_ : RR _ _ _ _ 67 _ _ _ _)
            refine R_getr dX11_ask_67 flX11_73 cok_11 rfl (by decide) (?_ : RR _ _ _ _ 70 _ _ _ _)
            refine R_iload_n dX11_ask_70 rfl (?_ : RR _ _ _ _ 71 _ _ _ _)
            refine R_cVi1 dX11_ask_71 mvX6_haltsBehind mlX11_387 (by decide) (by decide) (Nat.le_of_ble_eq_true rfl) (Nat.le_of_ble_eq_true rfl) (T_X6_haltsBehind) (?_ : RR _ _ _ _ 74 _ _ _ _)
            rw [g140, hfi2]
            refine R_cSi1 dX11_ask_74 msJ6_bitCount_0f7a4 mlX11_325 (by decide) (Nat.le_of_ble_eq_true rfl) (Nat.le_of_ble_eq_true rfl) (T_J6_bitCount_0f7a4) (?_ : RR _ _ _ _ 77 _ _ _ _)
            rw [hpe]
            refine R_istore dX11_ask_77 (Nat.le_of_ble_eq_true rfl) (?_ : RR _ _ _ _ 79 [_, _, _, _, _] _ _ _)
            refine R_iload dX11_ask_79 rfl (?_ : RR _ _ _ _ 81 _ _ _ _)
            refine R_iload_n dX11_ask_81 rfl (?_ : RR _ _ _ _ 82 _ _ _ _)
            refine R_icmp_le (t := 90) dX11_ask_82 rfl (fun c82 => ?_) (fun c82 => ?_)
            · exfalso; omega
            refine R_iload dX11_ask_85 rfl (?_ : RR _ _ _ _ 87 _ _ _ _)
            refine R_istore_n dX11_ask_87 (Nat.le_of_ble_eq_true rfl) (?_ : RR _ _ _ _ 88 [_, _, _, _, _] _ _ _)
            refine R_iload_n dX11_ask_88 rfl (?_ : RR _ _ _ _ 89 _ _ _ _)
            refine R_istore_n dX11_ask_89 (Nat.le_of_ble_eq_true rfl) (?_ : RR _ _ _ _ 90 [_, _, _, _, _] _ _ _)
            refine R_iinc dX11_ask_90 rfl (Nat.le_of_ble_eq_true rfl) (?_ : RR _ _ _ _ 93 [_, _, _, _, _] _ _ _)
            refine R_goto (t := 55) dX11_ask_93 rfl (?_ : RR _ _ _ _ 55 _ _ _ _)
            exact IH _
          · rw [if_neg u] at IH
            refine R_iload_n dX11_ask_55 rfl (?_ : RR _ _ _ _ 56 _ _ _ _)
            refine R_aload_n dX11_ask_56 rfl (?_ : RR _ _ _ _ 57 _ _ _ _)
            refine R_getr dX11_ask_57 flX11_73 cok_11 rfl (by decide) (?_ : RR _ _ _ _ 60 _ _ _ _)
            refine R_geti (z := 1) dX11_ask_60 flX11_384 cok_6 rfl (by decide) rfl (fun q60 => (?_ : RR _ _ _ _ 63 _ _ _ _))
            rw [g138, hl] at q60 ⊢
            refine R_icmp_gt (t := 96) dX11_ask_63 rfl (fun c63 => ?_) (fun c63 => ?_)
            · exfalso; omega
            refine R_aload_n dX11_ask_66 rfl (?_ : RR _ _ _ _ 67 _ _ _ _)
            refine R_getr dX11_ask_67 flX11_73 cok_11 rfl (by decide) (?_ : RR _ _ _ _ 70 _ _ _ _)
            refine R_iload_n dX11_ask_70 rfl (?_ : RR _ _ _ _ 71 _ _ _ _)
            refine R_cVi1 dX11_ask_71 mvX6_haltsBehind mlX11_387 (by decide) (by decide) (Nat.le_of_ble_eq_true rfl) (Nat.le_of_ble_eq_true rfl) (T_X6_haltsBehind) (?_ : RR _ _ _ _ 74 _ _ _ _)
            rw [g140, hfi2]
            refine R_cSi1 dX11_ask_74 msJ6_bitCount_0f7a4 mlX11_325 (by decide) (Nat.le_of_ble_eq_true rfl) (Nat.le_of_ble_eq_true rfl) (T_J6_bitCount_0f7a4) (?_ : RR _ _ _ _ 77 _ _ _ _)
            rw [hpe]
            refine R_istore dX11_ask_77 (Nat.le_of_ble_eq_true rfl) (?_ : RR _ _ _ _ 79 [_, _, _, _, _] _ _ _)
            refine R_iload dX11_ask_79 rfl (?_ : RR _ _ _ _ 81 _ _ _ _)
            refine R_iload_n dX11_ask_81 rfl (?_ : RR _ _ _ _ 82 _ _ _ _)
            refine R_icmp_le (t := 90) dX11_ask_82 rfl (fun c82 => ?_) (fun c82 => ?_)
            rotate_left
            · exfalso; omega
            refine R_iinc dX11_ask_90 rfl (Nat.le_of_ble_eq_true rfl) (?_ : RR _ _ _ _ 93 [_, _, _, _, _] _ _ _)
            refine R_goto (t := 55) dX11_ask_93 rfl (?_ : RR _ _ _ _ 55 _ _ _ _)
            exact IH _
      refine R_aload_n dX11_ask_18 rfl (?_ : RR _ _ _ _ 19 _ _ _ _)
      refine R_getr dX11_ask_19 flX11_73 cok_11 rfl (by decide) (?_ : RR _ _ _ _ 22 _ _ _ _)
      refine R_geti (z := 0) dX11_ask_22 flX11_369 cok_6 rfl (by decide) rfl (fun q22 => (?_ : RR _ _ _ _ 25 _ _ _ _))
      rw [g138, n1] at q22 ⊢
      refine R_if_eq (t := 46) dX11_ask_25 rfl (fun c25 => ?_) (fun c25 => ?_)
      · exfalso; omega
      refine R_aload_n dX11_ask_28 rfl (?_ : RR _ _ _ _ 29 _ _ _ _)
      refine R_getr dX11_ask_29 flX11_73 cok_11 rfl (by decide) (?_ : RR _ _ _ _ 32 _ _ _ _)
      refine R_iconst dX11_ask_32 (?_ : RR _ _ _ _ 33 _ _ _ _)
      refine R_aload_n dX11_ask_33 rfl (?_ : RR _ _ _ _ 34 _ _ _ _)
      refine R_getr dX11_ask_34 flX11_36 cok_11 rfl (by decide) (?_ : RR _ _ _ _ 37 _ _ _ _)
      refine R_geti (z := 0) dX11_ask_37 flX11_171 cok_9 rfl (by decide) rfl (fun q37 => (?_ : RR _ _ _ _ 40 _ _ _ _))
      rw [g14] at q37 ⊢
      refine R_cVi2 dX11_ask_40 mvX6_waysFrom mlX11_377 (by decide) (by decide) (Nat.le_of_ble_eq_true rfl) (Nat.le_of_ble_eq_true rfl) (T_X6_waysFrom) (?_ : RR _ _ _ _ 43 _ _ _ _)
      rw [g141, e0]
      refine R_if_ne (t := 49) dX11_ask_43 rfl (fun c43 => ?_) (fun c43 => ?_)
      rotate_left
      · exfalso; omega
      refine R_iconst dX11_ask_49 (?_ : RR _ _ _ _ 50 _ _ _ _)
      refine R_istore_n dX11_ask_50 (Nat.le_of_ble_eq_true rfl) (?_ : RR _ _ _ _ 51 [_, _, _, _, _] _ _ _)
      refine R_iconst dX11_ask_51 (?_ : RR _ _ _ _ 52 _ _ _ _)
      refine R_istore_n dX11_ask_52 (Nat.le_of_ble_eq_true rfl) (?_ : RR _ _ _ _ 53 [_, _, _, _, _] _ _ _)
      refine R_iconst dX11_ask_53 (?_ : RR _ _ _ _ 54 _ _ _ _)
      refine R_istore_n dX11_ask_54 (Nat.le_of_ble_eq_true rfl) (?_ : RR _ _ _ _ 55 [_, _, _, _, _] _ _ _)
      exact L (l + 1) 0 _ (by omega)
    · show RR _ _ _ _ _ [pR 147, pU, pU, pU, pU, pU] _ _ _
      obtain ⟨h4, h4e⟩ : ∃ h4, h4 = rup h3 147 (fup (h3 147) 0 0) := ⟨_, rfl⟩
      have f4 : ∀ a, 147 < a → h4 a = h a := fun a a1 => by rw [h4e, rup_n (by omega)]; exact e a (by omega)
      have j4 : ∀ j : Int, j ≠ 0 → h4 147 j = h 147 j := fun j j1 => by rw [h4e, rup_s, fup_n j1, e 147 (by omega)]
      have hMT := mtK_of (l := l) hs n2 n3 hl12 hfi f4 (j4 3 (by omega)) (j4 40 (by omega))
      rw [← hst] at hMT
      have hML := M_laysRows hMT
      rw [f4 149 (by omega), ← hex, ← hrc] at hML
      have hls4 := T_X12_lastSeen (h := h4) (N := N) (by rw [j4 40 (by omega)]; exact n2) n3 (fun i hi => by rw [f4 170 (by omega)]; exact hb i hi)
      rw [f4 170 (by omega), hls (by omega)] at hls4
      have K : ∀ f w : Int → Int, mtF rc l 0 f → RR mX12_ask 3 0 0 22 [pR 147, pI l, pU, pU, pU, pU] [] (shp0, rf0, rup (rup h4 173 w) 174 f) (mQ h3 F.1 (some [F.2])) := by
        intro f w hf
        obtain ⟨h6, h6e⟩ : ∃ h6, h6 = rup (rup h4 173 w) 174 f := ⟨_, rfl⟩
        have hmq : mqF h3 h6 := by rw [h6e]; exact mq_tr h4e
        have g3 : h6 147 3 = H := by rw [h6e, rup_n (by omega), rup_n (by omega), j4 3 (by omega)]; exact hs.1.1
        have g174 : h6 174 = f := by rw [h6e, rup_s]
        have T1 : ∀ i : Nat, i ≤ l → MT mX12_beenBehind 0 [pR 147, pI i] h6 (some (pI (rc i))) h6 := fun i hi => by
          have := T_X12_beenBehind (h := h6) (H := H) (s := i) g3 hH.2 (by omega)
          rw [g174, mtF_b (H := H) (kk := i) hf hi hl12 hH.2 (hRl i)] at this
          exact this
        rw [← h6e]
        have L : ∀ (j i : Nat) (w5 : PV), i + j = l + 1 → RR mX12_ask 3 0 0 30 [pR 147, pI l, pI (it (akS pn) (-2, 0) i).1, pI (it (akS pn) (-2, 0) i).2, pI i, w5] [] (shp0, rf0, h6) (mQ h3 F.1 (some [F.2])) := by
          intro j
          induction j with
          | zero =>
            intro i w5 hi
            obtain rfl : i = l + 1 := by omega
            have b := bF (l + 1)
            rw [← hF] at b ⊢
            refine R_iload dX12_ask_30 rfl (?_ : RR _ _ _ _ 32 _ _ _ _)
            refine R_iload_n dX12_ask_32 rfl (?_ : RR _ _ _ _ 33 _ _ _ _)
            refine R_icmp_gt (t := 73) dX12_ask_33 rfl (fun c33 => ?_) (fun c33 => ?_)
            rotate_left
            · exfalso; omega
            refine R_iload_n dX12_ask_73 rfl (?_ : RR _ _ _ _ 74 _ _ _ _)
            refine R_if_lt (t := 88) dX12_ask_74 rfl (fun c74 => ?_) (fun c74 => ?_)
            · exfalso; omega
            refine R_aload_n dX12_ask_77 rfl (?_ : RR _ _ _ _ 78 _ _ _ _)
            refine R_iconst dX12_ask_78 (?_ : RR _ _ _ _ 79 _ _ _ _)
            refine R_puti (zk := 1) dX12_ask_79 flX12_113 cok_12 (by decide) (fun q hq => by cases hq; rfl) rfl (?_ : RR _ _ _ _ 82 _ _ _ _)
            show RR _ _ _ _ _ _ _ (shp0, rf0, tmR h6 []) _
            refine R_aload_n dX12_ask_82 rfl (?_ : RR _ _ _ _ 83 _ _ _ _)
            refine R_iload_n dX12_ask_83 rfl (?_ : RR _ _ _ _ 84 _ _ _ _)
            refine R_i2l dX12_ask_84 (by first | assumption | omega) (?_ : RR _ _ _ _ 85 _ _ _ _)
            refine R_cVv1 dX12_ask_85 mvX12_enters mlX12_116 (by decide) (by decide) (Nat.le_of_ble_eq_true rfl) (Nat.le_of_ble_eq_true rfl) (T_tma (by simp) (by omega)) (?_ : RR _ _ _ _ 88 _ _ _ _)
            refine R_iload_n dX12_ask_88 rfl (?_ : RR _ _ _ _ 89 _ _ _ _)
            exact R_ireturn dX12_ask_89 trivial (mQ_tm hmq rfl)
          | succ j ih =>
            intro i w5 hi
            have b := bF i
            have hpi := hpb i
            have hri := hRl i
            have e9 : it (akS pn) (-2, 0) (i + 1) = akS pn i (it (akS pn) (-2, 0) i) := rfl
            have IH := fun w5 => ih (i + 1) w5 (by omega)
            rw [e9] at IH
            generalize it (akS pn) (-2, 0) i = s at b IH ⊢
            unfold akS at IH
            by_cases u : s.2 < pn i
            · rw [if_pos u] at IH
              refine R_iload dX12_ask_30 rfl (?_ : RR _ _ _ _ 32 _ _ _ _)
              refine R_iload_n dX12_ask_32 rfl (?_ : RR _ _ _ _ 33 _ _ _ _)
              refine R_icmp_gt (t := 73) dX12_ask_33 rfl (fun c33 => ?_) (fun c33 => ?_)
              · exfalso; omega
              refine R_aload_n dX12_ask_36 rfl (?_ : RR _ _ _ _ 37 _ _ _ _)
              refine R_iload dX12_ask_37 rfl (?_ : RR _ _ _ _ 39 _ _ _ _)
              refine R_cVi1 dX12_ask_39 mvX12_beenBehind mlX12_457 (by decide) (by decide) (Nat.le_of_ble_eq_true rfl) (Nat.le_of_ble_eq_true rfl) (T1 i (by omega)) (?_ : RR _ _ _ _ 42 _ _ _ _)
              refine R_cSi1 dX12_ask_42 msJ6_bitCount_0f7a4 mlX12_273 (by decide) (Nat.le_of_ble_eq_true rfl) (Nat.le_of_ble_eq_true rfl) (T_J6_bitCount_0f7a4) (?_ : RR _ _ _ _ 45 _ _ _ _)
              rw [hpe]
              refine R_istore dX12_ask_45 (Nat.le_of_ble_eq_true rfl) (?_ : RR _ _ _ _ 47 [_, _, _, _, _, _] _ _ _)
              refine R_iload dX12_ask_47 rfl (?_ : RR _ _ _ _ 49 _ _ _ _)
              refine R_iload_n dX12_ask_49 rfl (?_ : RR _ _ _ _ 50 _ _ _ _)
              refine R_icmp_le (t := 58) dX12_ask_50 rfl (fun c50 => ?_) (fun c50 => ?_)
              · exfalso; omega
              refine R_iload dX12_ask_53 rfl (?_ : RR _ _ _ _ 55 _ _ _ _)
              refine R_goto (t := 59) dX12_ask_55 rfl (?_ : RR _ _ _ _ 59 _ _ _ _)
              refine R_istore_n dX12_ask_59 (Nat.le_of_ble_eq_true rfl) (?_ : RR _ _ _ _ 60 [_, _, _, _, _, _] _ _ _)
              refine R_iload_n dX12_ask_60 rfl (?_ : RR _ _ _ _ 61 _ _ _ _)
              refine R_iload dX12_ask_61 rfl (?_ : RR _ _ _ _ 63 _ _ _ _)
              refine R_max dX12_ask_63 mmX12_281 (by decide) (Nat.le_of_ble_eq_true rfl) (?_ : RR _ _ _ _ 66 _ _ _ _)
              rw [show max s.2 (pn i : Int) = pn i by omega]
              refine R_istore_n dX12_ask_66 (Nat.le_of_ble_eq_true rfl) (?_ : RR _ _ _ _ 67 [_, _, _, _, _, _] _ _ _)
              refine R_iinc dX12_ask_67 rfl (Nat.le_of_ble_eq_true rfl) (?_ : RR _ _ _ _ 70 [_, _, _, _, _, _] _ _ _)
              refine R_goto (t := 30) dX12_ask_70 rfl (?_ : RR _ _ _ _ 30 _ _ _ _)
              exact IH _
            · rw [if_neg u] at IH
              refine R_iload dX12_ask_30 rfl (?_ : RR _ _ _ _ 32 _ _ _ _)
              refine R_iload_n dX12_ask_32 rfl (?_ : RR _ _ _ _ 33 _ _ _ _)
              refine R_icmp_gt (t := 73) dX12_ask_33 rfl (fun c33 => ?_) (fun c33 => ?_)
              · exfalso; omega
              refine R_aload_n dX12_ask_36 rfl (?_ : RR _ _ _ _ 37 _ _ _ _)
              refine R_iload dX12_ask_37 rfl (?_ : RR _ _ _ _ 39 _ _ _ _)
              refine R_cVi1 dX12_ask_39 mvX12_beenBehind mlX12_457 (by decide) (by decide) (Nat.le_of_ble_eq_true rfl) (Nat.le_of_ble_eq_true rfl) (T1 i (by omega)) (?_ : RR _ _ _ _ 42 _ _ _ _)
              refine R_cSi1 dX12_ask_42 msJ6_bitCount_0f7a4 mlX12_273 (by decide) (Nat.le_of_ble_eq_true rfl) (Nat.le_of_ble_eq_true rfl) (T_J6_bitCount_0f7a4) (?_ : RR _ _ _ _ 45 _ _ _ _)
              rw [hpe]
              refine R_istore dX12_ask_45 (Nat.le_of_ble_eq_true rfl) (?_ : RR _ _ _ _ 47 [_, _, _, _, _, _] _ _ _)
              refine R_iload dX12_ask_47 rfl (?_ : RR _ _ _ _ 49 _ _ _ _)
              refine R_iload_n dX12_ask_49 rfl (?_ : RR _ _ _ _ 50 _ _ _ _)
              refine R_icmp_le (t := 58) dX12_ask_50 rfl (fun c50 => ?_) (fun c50 => ?_)
              rotate_left
              · exfalso; omega
              refine R_iload_n dX12_ask_58 rfl (?_ : RR _ _ _ _ 59 _ _ _ _)
              refine R_istore_n dX12_ask_59 (Nat.le_of_ble_eq_true rfl) (?_ : RR _ _ _ _ 60 [_, _, _, _, _, _] _ _ _)
              refine R_iload_n dX12_ask_60 rfl (?_ : RR _ _ _ _ 61 _ _ _ _)
              refine R_iload dX12_ask_61 rfl (?_ : RR _ _ _ _ 63 _ _ _ _)
              refine R_max dX12_ask_63 mmX12_281 (by decide) (Nat.le_of_ble_eq_true rfl) (?_ : RR _ _ _ _ 66 _ _ _ _)
              rw [show max s.2 (pn i : Int) = s.2 by omega]
              refine R_istore_n dX12_ask_66 (Nat.le_of_ble_eq_true rfl) (?_ : RR _ _ _ _ 67 [_, _, _, _, _, _] _ _ _)
              refine R_iinc dX12_ask_67 rfl (Nat.le_of_ble_eq_true rfl) (?_ : RR _ _ _ _ 70 [_, _, _, _, _, _] _ _ _)
              refine R_goto (t := 30) dX12_ask_70 rfl (?_ : RR _ _ _ _ 30 _ _ _ _)
              exact IH _
        refine R_bipush dX12_ask_22 rfl (?_ : RR _ _ _ _ 24 _ _ _ _)
        refine R_istore_n dX12_ask_24 (Nat.le_of_ble_eq_true rfl) (?_ : RR _ _ _ _ 25 [_, _, _, _, _, _] _ _ _)
        refine R_iconst dX12_ask_25 (?_ : RR _ _ _ _ 26 _ _ _ _)
        refine R_istore_n dX12_ask_26 (Nat.le_of_ble_eq_true rfl) (?_ : RR _ _ _ _ 27 [_, _, _, _, _, _] _ _ _)
        refine R_iconst dX12_ask_27 (?_ : RR _ _ _ _ 28 _ _ _ _)
        refine R_istore dX12_ask_28 (Nat.le_of_ble_eq_true rfl) (?_ : RR _ _ _ _ 30 [_, _, _, _, _, _] _ _ _)
        exact L (l + 1) 0 _ (by omega)
      refine R_aload_n dX12_ask_0 rfl (?_ : RR _ _ _ _ 1 _ _ _ _)
      refine R_iconst dX12_ask_1 (?_ : RR _ _ _ _ 2 _ _ _ _)
      refine R_puti (zk := 0) dX12_ask_2 flX12_106 cok_12 (by decide) (fun q hq => by cases hq; rfl) rfl (?_ : RR _ _ _ _ 5 _ _ _ _)
      rw [← h4e]
      refine R_aload_n dX12_ask_5 rfl (?_ : RR _ _ _ _ 6 _ _ _ _)
      refine R_cVi0 dX12_ask_6 mvX12_lastSeen mlX12_451 (by decide) (by decide) (Nat.le_of_ble_eq_true rfl) (Nat.le_of_ble_eq_true rfl) (hls4) (?_ : RR _ _ _ _ 9 _ _ _ _)
      refine R_istore_n dX12_ask_9 (Nat.le_of_ble_eq_true rfl) (?_ : RR _ _ _ _ 10 [_, _, _, _, _, _] _ _ _)
      refine R_iload_n dX12_ask_10 rfl (?_ : RR _ _ _ _ 11 _ _ _ _)
      refine R_if_ge (t := 17) dX12_ask_11 rfl (fun c11 => ?_) (fun c11 => ?_)
      rotate_left
      · exfalso; omega
      refine R_aload_n dX12_ask_17 rfl (?_ : RR _ _ _ _ 18 _ _ _ _)
      refine R_iload_n dX12_ask_18 rfl (?_ : RR _ _ _ _ 19 _ _ _ _)
      refine R_qV1 dX12_ask_19 mvX12_laysRows mlX12_454 (by decide) (by decide) (Nat.le_of_ble_eq_true rfl) (Nat.le_of_ble_eq_true rfl) (hML) (fun r9 g9 hq9 => (?_ : RR _ _ _ _ 22 _ _ _ _))
      obtain ⟨rfl, f, w, rfl, hw, hf⟩ := hq9
      show RR _ _ _ _ _ _ [] _ _
      exact K f w hf
  · refine A_q hs (z := -2) (o := none) ?_ (fun h3 e => ?_) (fun L e => by cases e)
    · show RR _ _ _ _ _ [pR 0, pU, pU, pU, pU] _ _ _
      refine KC0 _ (fun f w hw hf => ?_)
      obtain ⟨h5, h5e⟩ : ∃ h5, h5 = rup (rup h 140 f) 141 w := ⟨_, rfl⟩
      have g14 : h5 14 0 = st := by rw [h5e, rup_n (by omega), rup_n (by omega)]; exact h14
      have g141 : h5 141 = w := by rw [h5e, rup_s]
      have g138 : h5 138 = h 138 := by rw [h5e, rup_n (by omega), rup_n (by omega)]
      have hcq : cqF h h5 := by rw [h5e]; exact cq_tr
      have hq : cQ h (-2) none (some (pI (-2))) (shp0, rf0, h5) := ⟨h5, rfl, rfl, hcq, by rw [h5e, rup_n (by omega), rup_n (by omega)], by rw [h5e, rup_n (by omega), rup_n (by omega)]⟩
      have e0 := hw0 w hw
      rw [← h5e]
      by_cases y : N = 0
      · refine R_aload_n dX11_ask_18 rfl (?_ : RR _ _ _ _ 19 _ _ _ _)
        refine R_getr dX11_ask_19 flX11_73 cok_11 rfl (by decide) (?_ : RR _ _ _ _ 22 _ _ _ _)
        refine R_geti (z := 0) dX11_ask_22 flX11_369 cok_6 rfl (by decide) rfl (fun q22 => (?_ : RR _ _ _ _ 25 _ _ _ _))
        rw [g138, n1] at q22 ⊢
        refine R_if_eq (t := 46) dX11_ask_25 rfl (fun c25 => ?_) (fun c25 => ?_)
        rotate_left
        · exfalso; omega
        refine R_bipush dX11_ask_46 rfl (?_ : RR _ _ _ _ 48 _ _ _ _)
        exact R_ireturn dX11_ask_48 trivial hq
      · refine R_aload_n dX11_ask_18 rfl (?_ : RR _ _ _ _ 19 _ _ _ _)
        refine R_getr dX11_ask_19 flX11_73 cok_11 rfl (by decide) (?_ : RR _ _ _ _ 22 _ _ _ _)
        refine R_geti (z := 0) dX11_ask_22 flX11_369 cok_6 rfl (by decide) rfl (fun q22 => (?_ : RR _ _ _ _ 25 _ _ _ _))
        rw [g138, n1] at q22 ⊢
        refine R_if_eq (t := 46) dX11_ask_25 rfl (fun c25 => ?_) (fun c25 => ?_)
        · exfalso; omega
        refine R_aload_n dX11_ask_28 rfl (?_ : RR _ _ _ _ 29 _ _ _ _)
        refine R_getr dX11_ask_29 flX11_73 cok_11 rfl (by decide) (?_ : RR _ _ _ _ 32 _ _ _ _)
        refine R_iconst dX11_ask_32 (?_ : RR _ _ _ _ 33 _ _ _ _)
        refine R_aload_n dX11_ask_33 rfl (?_ : RR _ _ _ _ 34 _ _ _ _)
        refine R_getr dX11_ask_34 flX11_36 cok_11 rfl (by decide) (?_ : RR _ _ _ _ 37 _ _ _ _)
        refine R_geti (z := 0) dX11_ask_37 flX11_171 cok_9 rfl (by decide) rfl (fun q37 => (?_ : RR _ _ _ _ 40 _ _ _ _))
        rw [g14] at q37 ⊢
        refine R_cVi2 dX11_ask_40 mvX6_waysFrom mlX11_377 (by decide) (by decide) (Nat.le_of_ble_eq_true rfl) (Nat.le_of_ble_eq_true rfl) (T_X6_waysFrom) (?_ : RR _ _ _ _ 43 _ _ _ _)
        rw [g141, e0]
        refine R_if_ne (t := 49) dX11_ask_43 rfl (fun c43 => ?_) (fun c43 => ?_)
        · exfalso; omega
        refine R_bipush dX11_ask_46 rfl (?_ : RR _ _ _ _ 48 _ _ _ _)
        exact R_ireturn dX11_ask_48 trivial hq
    · show RR _ _ _ _ _ [pR 147, pU, pU, pU, pU, pU] _ _ _
      obtain ⟨h4, h4e⟩ : ∃ h4, h4 = rup h3 147 (fup (h3 147) 0 0) := ⟨_, rfl⟩
      have f4 : ∀ a, 147 < a → h4 a = h a := fun a a1 => by rw [h4e, rup_n (by omega)]; exact e a (by omega)
      have j4 : ∀ j : Int, j ≠ 0 → h4 147 j = h 147 j := fun j j1 => by rw [h4e, rup_s, fup_n j1, e 147 (by omega)]
      have hls4 := T_X12_lastSeen (h := h4) (N := N) (by rw [j4 40 (by omega)]; exact n2) n3 (fun i hi => by rw [f4 170 (by omega)]; exact hb i hi)
      rw [f4 170 (by omega)] at hls4
      by_cases y : N = 0
      · rw [hl0 y] at hls4
        have hq : mQ h3 (-2) none (some (pI (-2))) (shp0, rf0, h4) := by
          rw [h4e]
          exact ⟨_, rfl, rfl, ⟨fun a q => by rw [rup_n (by omega)], fun j q => by rw [rup_s, fup_n (by omega)], fun q => by rw [rup_s, fup_n (by omega)]; exact q, fun j q => by rw [rup_n (by omega)]⟩, by rw [rup_s, fup_n (by omega)], by rw [rup_n (by omega)]⟩
        refine R_aload_n dX12_ask_0 rfl (?_ : RR _ _ _ _ 1 _ _ _ _)
        refine R_iconst dX12_ask_1 (?_ : RR _ _ _ _ 2 _ _ _ _)
        refine R_puti (zk := 0) dX12_ask_2 flX12_106 cok_12 (by decide) (fun q hq => by cases hq; rfl) rfl (?_ : RR _ _ _ _ 5 _ _ _ _)
        rw [← h4e]
        refine R_aload_n dX12_ask_5 rfl (?_ : RR _ _ _ _ 6 _ _ _ _)
        refine R_cVi0 dX12_ask_6 mvX12_lastSeen mlX12_451 (by decide) (by decide) (Nat.le_of_ble_eq_true rfl) (Nat.le_of_ble_eq_true rfl) (hls4) (?_ : RR _ _ _ _ 9 _ _ _ _)
        refine R_istore_n dX12_ask_9 (Nat.le_of_ble_eq_true rfl) (?_ : RR _ _ _ _ 10 [_, _, _, _, _, _] _ _ _)
        refine R_iload_n dX12_ask_10 rfl (?_ : RR _ _ _ _ 11 _ _ _ _)
        refine R_if_ge (t := 17) dX12_ask_11 rfl (fun c11 => ?_) (fun c11 => ?_)
        · exfalso; omega
        refine R_bipush dX12_ask_14 rfl (?_ : RR _ _ _ _ 16 _ _ _ _)
        exact R_ireturn dX12_ask_16 trivial hq
      · rw [hls (by omega)] at hls4
        have hMT := mtK_of (l := l) hs n2 n3 hl12 hfi f4 (j4 3 (by omega)) (j4 40 (by omega))
        rw [← hst] at hMT
        have hML := M_laysRows hMT
        rw [f4 149 (by omega), ← hex, ← hrc] at hML
        have hr0 : ∀ i, rc i = 0 := fun i => by rw [hrc]; exact rcK_none (by rw [← hz]; omega) i
        have hpz : ∀ i, pn i = 0 := fun i => by rw [← hpe, hr0]; exact pop_0 12
        have K : ∀ f w : Int → Int, mtF rc l 0 f → RR mX12_ask 3 0 0 22 [pR 147, pI l, pU, pU, pU, pU] [] (shp0, rf0, rup (rup h4 173 w) 174 f) (mQ h3 (-2) none) := by
          intro f w hf
          obtain ⟨h6, h6e⟩ : ∃ h6, h6 = rup (rup h4 173 w) 174 f := ⟨_, rfl⟩
          have hmq : mqF h3 h6 := by rw [h6e]; exact mq_tr h4e
          have g3 : h6 147 3 = H := by rw [h6e, rup_n (by omega), rup_n (by omega), j4 3 (by omega)]; exact hs.1.1
          have g174 : h6 174 = f := by rw [h6e, rup_s]
          have hq : mQ h3 (-2) none (some (pI (-2))) (shp0, rf0, h6) := ⟨h6, rfl, rfl, hmq, by rw [h6e, rup_n (by omega), rup_n (by omega), h4e, rup_s, fup_n (by omega)], by rw [h6e, rup_n (by omega), rup_n (by omega), h4e, rup_n (by omega)]⟩
          have T1 : ∀ i : Nat, i ≤ l → MT mX12_beenBehind 0 [pR 147, pI i] h6 (some (pI (rc i))) h6 := fun i hi => by
            have := T_X12_beenBehind (h := h6) (H := H) (s := i) g3 hH.2 (by omega)
            rw [g174, mtF_b (H := H) (kk := i) hf hi hl12 hH.2 (hRl i)] at this
            exact this
          rw [← h6e]
          have L : ∀ (j i : Nat) (w5 : PV), i + j = l + 1 → RR mX12_ask 3 0 0 30 [pR 147, pI l, pI (-2), pI 0, pI i, w5] [] (shp0, rf0, h6) (mQ h3 (-2) none) := by
            intro j
            induction j with
            | zero =>
              intro i w5 hi
              refine R_iload dX12_ask_30 rfl (?_ : RR _ _ _ _ 32 _ _ _ _)
              refine R_iload_n dX12_ask_32 rfl (?_ : RR _ _ _ _ 33 _ _ _ _)
              refine R_icmp_gt (t := 73) dX12_ask_33 rfl (fun c33 => ?_) (fun c33 => ?_)
              rotate_left
              · exfalso; omega
              refine R_iload_n dX12_ask_73 rfl (?_ : RR _ _ _ _ 74 _ _ _ _)
              refine R_if_lt (t := 88) dX12_ask_74 rfl (fun c74 => ?_) (fun c74 => ?_)
              rotate_left
              · exfalso; omega
              refine R_iload_n dX12_ask_88 rfl (?_ : RR _ _ _ _ 89 _ _ _ _)
              exact R_ireturn dX12_ask_89 trivial hq
            | succ j ih =>
              intro i w5 hi
              have IH := fun w5 => ih (i + 1) w5 (by omega)
              have hri := hRl i
              refine R_iload dX12_ask_30 rfl (?_ : RR _ _ _ _ 32 _ _ _ _)
              refine R_iload_n dX12_ask_32 rfl (?_ : RR _ _ _ _ 33 _ _ _ _)
              refine R_icmp_gt (t := 73) dX12_ask_33 rfl (fun c33 => ?_) (fun c33 => ?_)
              · exfalso; omega
              refine R_aload_n dX12_ask_36 rfl (?_ : RR _ _ _ _ 37 _ _ _ _)
              refine R_iload dX12_ask_37 rfl (?_ : RR _ _ _ _ 39 _ _ _ _)
              refine R_cVi1 dX12_ask_39 mvX12_beenBehind mlX12_457 (by decide) (by decide) (Nat.le_of_ble_eq_true rfl) (Nat.le_of_ble_eq_true rfl) (T1 i (by omega)) (?_ : RR _ _ _ _ 42 _ _ _ _)
              refine R_cSi1 dX12_ask_42 msJ6_bitCount_0f7a4 mlX12_273 (by decide) (Nat.le_of_ble_eq_true rfl) (Nat.le_of_ble_eq_true rfl) (T_J6_bitCount_0f7a4) (?_ : RR _ _ _ _ 45 _ _ _ _)
              rw [hpe, hpz]
              refine R_istore dX12_ask_45 (Nat.le_of_ble_eq_true rfl) (?_ : RR _ _ _ _ 47 [_, _, _, _, _, _] _ _ _)
              refine R_iload dX12_ask_47 rfl (?_ : RR _ _ _ _ 49 _ _ _ _)
              refine R_iload_n dX12_ask_49 rfl (?_ : RR _ _ _ _ 50 _ _ _ _)
              refine R_icmp_le (t := 58) dX12_ask_50 rfl (fun c50 => ?_) (fun c50 => ?_)
              rotate_left
              · exfalso; omega
              refine R_iload_n dX12_ask_58 rfl (?_ : RR _ _ _ _ 59 _ _ _ _)
              refine R_istore_n dX12_ask_59 (Nat.le_of_ble_eq_true rfl) (?_ : RR _ _ _ _ 60 [_, _, _, _, _, _] _ _ _)
              refine R_iload_n dX12_ask_60 rfl (?_ : RR _ _ _ _ 61 _ _ _ _)
              refine R_iload dX12_ask_61 rfl (?_ : RR _ _ _ _ 63 _ _ _ _)
              refine R_max dX12_ask_63 mmX12_281 (by decide) (Nat.le_of_ble_eq_true rfl) (?_ : RR _ _ _ _ 66 _ _ _ _)
              rw [show max 0 (((0 : Nat)) : Int) = 0 from rfl]
              refine R_istore_n dX12_ask_66 (Nat.le_of_ble_eq_true rfl) (?_ : RR _ _ _ _ 67 [_, _, _, _, _, _] _ _ _)
              refine R_iinc dX12_ask_67 rfl (Nat.le_of_ble_eq_true rfl) (?_ : RR _ _ _ _ 70 [_, _, _, _, _, _] _ _ _)
              refine R_goto (t := 30) dX12_ask_70 rfl (?_ : RR _ _ _ _ 30 _ _ _ _)
              exact IH _
          refine R_bipush dX12_ask_22 rfl (?_ : RR _ _ _ _ 24 _ _ _ _)
          refine R_istore_n dX12_ask_24 (Nat.le_of_ble_eq_true rfl) (?_ : RR _ _ _ _ 25 [_, _, _, _, _, _] _ _ _)
          refine R_iconst dX12_ask_25 (?_ : RR _ _ _ _ 26 _ _ _ _)
          refine R_istore_n dX12_ask_26 (Nat.le_of_ble_eq_true rfl) (?_ : RR _ _ _ _ 27 [_, _, _, _, _, _] _ _ _)
          refine R_iconst dX12_ask_27 (?_ : RR _ _ _ _ 28 _ _ _ _)
          refine R_istore dX12_ask_28 (Nat.le_of_ble_eq_true rfl) (?_ : RR _ _ _ _ 30 [_, _, _, _, _, _] _ _ _)
          exact L (l + 1) 0 _ (by omega)
        refine R_aload_n dX12_ask_0 rfl (?_ : RR _ _ _ _ 1 _ _ _ _)
        refine R_iconst dX12_ask_1 (?_ : RR _ _ _ _ 2 _ _ _ _)
        refine R_puti (zk := 0) dX12_ask_2 flX12_106 cok_12 (by decide) (fun q hq => by cases hq; rfl) rfl (?_ : RR _ _ _ _ 5 _ _ _ _)
        rw [← h4e]
        refine R_aload_n dX12_ask_5 rfl (?_ : RR _ _ _ _ 6 _ _ _ _)
        refine R_cVi0 dX12_ask_6 mvX12_lastSeen mlX12_451 (by decide) (by decide) (Nat.le_of_ble_eq_true rfl) (Nat.le_of_ble_eq_true rfl) (hls4) (?_ : RR _ _ _ _ 9 _ _ _ _)
        refine R_istore_n dX12_ask_9 (Nat.le_of_ble_eq_true rfl) (?_ : RR _ _ _ _ 10 [_, _, _, _, _, _] _ _ _)
        refine R_iload_n dX12_ask_10 rfl (?_ : RR _ _ _ _ 11 _ _ _ _)
        refine R_if_ge (t := 17) dX12_ask_11 rfl (fun c11 => ?_) (fun c11 => ?_)
        rotate_left
        · exfalso; omega
        refine R_aload_n dX12_ask_17 rfl (?_ : RR _ _ _ _ 18 _ _ _ _)
        refine R_iload_n dX12_ask_18 rfl (?_ : RR _ _ _ _ 19 _ _ _ _)
        refine R_qV1 dX12_ask_19 mvX12_laysRows mlX12_454 (by decide) (by decide) (Nat.le_of_ble_eq_true rfl) (Nat.le_of_ble_eq_true rfl) (hML) (fun r9 g9 hq9 => (?_ : RR _ _ _ _ 22 _ _ _ _))
        obtain ⟨rfl, f, w, rfl, hw, hf⟩ := hq9
        show RR _ _ _ _ _ _ [] _ _
        exact K f w hf
end BE
