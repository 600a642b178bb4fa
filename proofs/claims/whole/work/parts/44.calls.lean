/-! calls: end, sign -/
section CE
variable {k : Nat} {h : Nat → Int → Int} {sem : Sem} {H np nc len n : Nat} {v : Int}
theorem T_X11_end_no (hn : ¬ (0 ≤ v ∧ v ≤ h 1 1)) (hv : r32 v) : MT mX11_end 0 [pR 0, pI v] h (some (pI 0)) h := by
  refine MT.of (fun Q hQ => (?_ : RR mX11_end _ _ _ _ [pR 0, pI v] _ _ _))
  by_cases q : v < 0
  · refine R_iload_n dX11_end_0 rfl (?_ : RR _ _ _ _ 1 _ _ _ _)
    refine R_if_lt (t := 15) dX11_end_1 rfl (fun c1 => ?_) (fun c1 => ?_)
    rotate_left
    · exfalso; omega
    refine R_iconst dX11_end_15 (?_ : RR _ _ _ _ 16 _ _ _ _)
    exact R_ireturn dX11_end_16 (by first | exact Or.inl rfl | exact Or.inr rfl | exact ok_ite | omega) hQ
  · refine R_iload_n dX11_end_0 rfl (?_ : RR _ _ _ _ 1 _ _ _ _)
    refine R_if_lt (t := 15) dX11_end_1 rfl (fun c1 => ?_) (fun c1 => ?_)
    · exfalso; omega
    refine R_iload_n dX11_end_4 rfl (?_ : RR _ _ _ _ 5 _ _ _ _)
    refine R_aload_n dX11_end_5 rfl (?_ : RR _ _ _ _ 6 _ _ _ _)
    refine R_getr dX11_end_6 flX11_10 cok_11 rfl (by decide) (?_ : RR _ _ _ _ 9 _ _ _ _)
    refine R_geti (z := 1) dX11_end_9 flX11_91 cok_7 rfl (by decide) rfl (fun q9 => (?_ : RR _ _ _ _ 12 _ _ _ _))
    refine R_icmp_le (t := 17) dX11_end_12 rfl (fun c12 => ?_) (fun c12 => ?_)
    · exfalso; omega
    refine R_iconst dX11_end_15 (?_ : RR _ _ _ _ 16 _ _ _ _)
    exact R_ireturn dX11_end_16 (by first | exact Or.inl rfl | exact Or.inr rfl | exact ok_ite | omega) hQ
theorem T_X11_end_yes (hn : 0 ≤ v ∧ v ≤ h 1 1) (hv : r32 v) : MT mX11_end 0 [pR 0, pI v] h (some (pI 1)) (rup h 1 (fup (h 1) 1 v)) := by
  refine MT.of (fun Q hQ => (?_ : RR mX11_end _ _ _ _ [pR 0, pI v] _ _ _))
  refine R_iload_n dX11_end_0 rfl (?_ : RR _ _ _ _ 1 _ _ _ _)
  refine R_if_lt (t := 15) dX11_end_1 rfl (fun c1 => ?_) (fun c1 => ?_)
  · exfalso; omega
  refine R_iload_n dX11_end_4 rfl (?_ : RR _ _ _ _ 5 _ _ _ _)
  refine R_aload_n dX11_end_5 rfl (?_ : RR _ _ _ _ 6 _ _ _ _)
  refine R_getr dX11_end_6 flX11_10 cok_11 rfl (by decide) (?_ : RR _ _ _ _ 9 _ _ _ _)
  refine R_geti (z := 1) dX11_end_9 flX11_91 cok_7 rfl (by decide) rfl (fun q9 => (?_ : RR _ _ _ _ 12 _ _ _ _))
  refine R_icmp_le (t := 17) dX11_end_12 rfl (fun c12 => ?_) (fun c12 => ?_)
  rotate_left
  · exfalso; omega
  refine R_aload_n dX11_end_17 rfl (?_ : RR _ _ _ _ 18 _ _ _ _)
  refine R_getr dX11_end_18 flX11_10 cok_11 rfl (by decide) (?_ : RR _ _ _ _ 21 _ _ _ _)
  refine R_iload_n dX11_end_21 rfl (?_ : RR _ _ _ _ 22 _ _ _ _)
  refine R_puti (zk := 1) dX11_end_22 flX11_91 cok_7 (by decide) (fun q hq => by cases hq; rfl) rfl (?_ : RR _ _ _ _ 25 _ _ _ _)
  refine R_iconst dX11_end_25 (?_ : RR _ _ _ _ 26 _ _ _ _)
  exact R_ireturn dX11_end_26 (by first | exact Or.inl rfl | exact Or.inr rfl | exact ok_ite | omega) hQ
theorem T_X12_end_no (hn : ¬ (0 ≤ v ∧ v ≤ h 147 15)) (hv : r32 v) : MT mX12_end 1 [pR 147, pI v] h (some (pI 0)) (rup h 147 (fup (h 147) 0 0)) := by
  refine MT.of (fun Q hQ => (?_ : RR mX12_end _ _ _ _ [pR 147, pI v] _ _ _))
  refine R_aload_n dX12_end_0 rfl (?_ : RR _ _ _ _ 1 _ _ _ _)
  refine R_iconst dX12_end_1 (?_ : RR _ _ _ _ 2 _ _ _ _)
  refine R_puti (zk := 0) dX12_end_2 flX12_106 cok_12 (by decide) (fun q hq => by cases hq; rfl) rfl (?_ : RR _ _ _ _ 5 _ _ _ _)
  try simp (disch := omega) only [rup_rup, rup_sort, rupS_def, rup_s, rup_n, fup_fup, fup_s, fup_n]
  refine R_iload_n dX12_end_5 rfl (?_ : RR _ _ _ _ 6 _ _ _ _)
  refine R_i2l dX12_end_6 (by first | assumption | omega) (?_ : RR _ _ _ _ 7 _ _ _ _)
  refine R_lconst (z := 0) dX12_end_7 rfl (?_ : RR _ _ _ _ 8 _ _ _ _)
  refine R_aload_n dX12_end_8 rfl (?_ : RR _ _ _ _ 9 _ _ _ _)
  refine R_geti (z := 15) dX12_end_9 flX12_148 cok_12 rfl (by decide) rfl (fun q9 => (?_ : RR _ _ _ _ 12 _ _ _ _))
  try simp (disch := omega) only [rup_rup, rup_sort, rupS_def, rup_s, rup_n, fup_fup, fup_s, fup_n] at q9 ⊢
  refine R_i2l dX12_end_12 (by first | assumption | omega) (?_ : RR _ _ _ _ 13 _ _ _ _)
  refine R_cSi3 dX12_end_13 msX12_in mlX12_120 (by decide) (Nat.le_of_ble_eq_true rfl) (Nat.le_of_ble_eq_true rfl) (T_X12_in) (?_ : RR _ _ _ _ 16 _ _ _ _)
  try simp (disch := omega) only [rup_rup, rup_sort, rupS_def, rup_s, rup_n, fup_fup, fup_s, fup_n]
  rw [if_neg hn]
  refine R_if_ne (t := 21) dX12_end_16 rfl (fun c16 => ?_) (fun c16 => ?_)
  · exfalso; omega
  refine R_iconst dX12_end_19 (?_ : RR _ _ _ _ 20 _ _ _ _)
  exact R_ireturn dX12_end_20 (by first | exact Or.inl rfl | exact Or.inr rfl | exact ok_ite | omega) hQ
theorem T_X12_end_yes (hn : 0 ≤ v ∧ v ≤ h 147 15) (hv : r32 v) : MT mX12_end 1 [pR 147, pI v] h (some (pI 1)) (rup h 147 (fup (fup (h 147) 0 0) 15 v)) := by
  refine MT.of (fun Q hQ => (?_ : RR mX12_end _ _ _ _ [pR 147, pI v] _ _ _))
  refine R_aload_n dX12_end_0 rfl (?_ : RR _ _ _ _ 1 _ _ _ _)
  refine R_iconst dX12_end_1 (?_ : RR _ _ _ _ 2 _ _ _ _)
  refine R_puti (zk := 0) dX12_end_2 flX12_106 cok_12 (by decide) (fun q hq => by cases hq; rfl) rfl (?_ : RR _ _ _ _ 5 _ _ _ _)
  try simp (disch := omega) only [rup_rup, rup_sort, rupS_def, rup_s, rup_n, fup_fup, fup_s, fup_n]
  refine R_iload_n dX12_end_5 rfl (?_ : RR _ _ _ _ 6 _ _ _ _)
  refine R_i2l dX12_end_6 (by first | assumption | omega) (?_ : RR _ _ _ _ 7 _ _ _ _)
  refine R_lconst (z := 0) dX12_end_7 rfl (?_ : RR _ _ _ _ 8 _ _ _ _)
  refine R_aload_n dX12_end_8 rfl (?_ : RR _ _ _ _ 9 _ _ _ _)
  refine R_geti (z := 15) dX12_end_9 flX12_148 cok_12 rfl (by decide) rfl (fun q9 => (?_ : RR _ _ _ _ 12 _ _ _ _))
  try simp (disch := omega) only [rup_rup, rup_sort, rupS_def, rup_s, rup_n, fup_fup, fup_s, fup_n] at q9 ⊢
  refine R_i2l dX12_end_12 (by first | assumption | omega) (?_ : RR _ _ _ _ 13 _ _ _ _)
  refine R_cSi3 dX12_end_13 msX12_in mlX12_120 (by decide) (Nat.le_of_ble_eq_true rfl) (Nat.le_of_ble_eq_true rfl) (T_X12_in) (?_ : RR _ _ _ _ 16 _ _ _ _)
  try simp (disch := omega) only [rup_rup, rup_sort, rupS_def, rup_s, rup_n, fup_fup, fup_s, fup_n]
  rw [if_pos hn]
  refine R_if_ne (t := 21) dX12_end_16 rfl (fun c16 => ?_) (fun c16 => ?_)
  rotate_left
  · exfalso; omega
  refine R_aload_n dX12_end_21 rfl (?_ : RR _ _ _ _ 22 _ _ _ _)
  refine R_iload_n dX12_end_22 rfl (?_ : RR _ _ _ _ 23 _ _ _ _)
  refine R_puti (zk := 15) dX12_end_23 flX12_148 cok_12 (by decide) (fun q hq => by cases hq; rfl) rfl (?_ : RR _ _ _ _ 26 _ _ _ _)
  try simp (disch := omega) only [rup_rup, rup_sort, rupS_def, rup_s, rup_n, fup_fup, fup_s, fup_n]
  refine R_iconst dX12_end_26 (?_ : RR _ _ _ _ 27 _ _ _ _)
  exact R_ireturn dX12_end_27 (by first | exact Or.inl rfl | exact Or.inr rfl | exact ok_ite | omega) hQ
/-- nothing but 'thrown' has changed -/
theorem SR_thr (hs : SRx k h sem H np nc len) {z : Int} : SR (k + 1) (rup h 147 (fup (h 147) 0 z)) :=
  SR_q hs cqF_rf ⟨fun a q => by rw [rup_n (by omega)], fun j q => by rw [rup_s, fup_n (by omega)], fun q => by rw [rup_s, fup_n (by omega)]; exact q, fun j q => by rw [rup_n (by omega)]⟩ (SD_same hs.2.2.1 (by rw [rup_n (by omega)]) (by rw [rup_s, fup_n (by omega)]) (by rw [rup_n (by omega)]) (by rw [rup_n (by omega)]))
theorem A_end (hs : SRx k h sem H np nc len) (hv : r32 v) : AG mX11_end mX12_end 0 1 [pI v] k h := by
  obtain ⟨n, n1, n2, n3, n4⟩ := hs.2.1
  by_cases q : 0 ≤ v ∧ v ≤ n
  · refine AG_det (T_X11_end_yes (by rw [n1]; exact q) hv) (T_X12_end_yes (by simp (disch := omega) only [rup_n]; rw [n2]; exact q) hv) ?_
    obtain ⟨s1, s2, s3, s4, s5, s6⟩ := hs
    have x4 : nc ≤ 6 := s1.2.2.2.2.1.2.2.2.1
    have x3 : np ≤ 12 := s1.2.2.2.2.1.2.2.1
    generalize hh : rup (rup h 1 (fup (h 1) 1 v)) 147 (fup (fup (rup h 1 (fup (h 1) 1 v) 147) 0 0) 15 v) = g
    have g1 : g 147 = fup (fup (h 147) 0 0) 15 v := by rw [← hh, rup_s, rup_n (by omega)]
    have g2 : g 1 = fup (h 1) 1 v := by rw [← hh, rup_n (by omega), rup_s]
    have g3 : ∀ a, a ≠ 1 → a ≠ 147 → g a = h a := fun a a1 a2 => by rw [← hh, rup_n (by omega), rup_n (by omega)]
    have gj : ∀ j : Int, j ≠ 0 → j ≠ 15 → g 147 j = h 147 j := fun j j1 j2 => by rw [g1, fup_n (by omega), fup_n (by omega)]
    have eX : cxM sem g np nc = cxM sem h np nc := cxM_fr (fun a a1 a2 => g3 a (by omega) (by omega))
    refine ⟨sem, H, np, nc, len, SB_fr s1 (by rw [g3 3 (by omega) (by omega)]) (fun a q => g3 a (by omega) (by omega)) (fun j q => gj j (by omega) (by omega)), ⟨v.toNat, ?_, ?_, by omega, fun i hi => ?_⟩, SD_same s3 (by rw [g3 145 (by omega) (by omega)]) (gj 1 (by omega) (by omega)) (g3 146 (by omega) (by omega)) (g3 148 (by omega) (by omega)), SU_mk (len := len) ?_ ?_ ?_ (SUn_fr x4 x3 (SU_un s4) (Nat.le_succ k) (by rw [eX]) (by rw [eX]) (fun p _ => by rw [eX]) (fun a q => g3 a (by omega) (by omega)) (gj 28 (by omega) (by omega))) (SKp_fr x4 x3 (SU_kp s4) (Nat.le_succ k) (by rw [eX]) (by rw [eX]) (fun p _ => by rw [eX]) (fun a q => g3 a (by omega) (by omega)) (gj 6 (by omega) (by omega))), SS_fr s5 (g3 138 (by omega) (by omega)) (gj 40 (by omega) (by omega)) (g3 139 (by omega) (by omega)) (g3 170 (by omega) (by omega)) (g3 171 (by omega) (by omega)) (g3 172 (by omega) (by omega)), SP_fr s6 (g3 10 (by omega) (by omega)) (g3 8 (by omega) (by omega)) (g3 9 (by omega) (by omega)) (g3 32 (by omega) (by omega)) (by rw [gj 30 (by omega) (by omega)]; exact s6.2.2)⟩
    · rw [g2, fup_s]; omega
    · rw [g1, fup_s]; omega
    · rw [g3 2 (by omega) (by omega), g3 156 (by omega) (by omega)]
      exact n4 i (by omega)
    · rw [eX, g3 154 (by omega) (by omega)]
      exact Cpl_fr s4.1 (fun a a1 a2 => g3 a (by omega) (by omega))
    · have := s4.2.1
      rw [g3 154 (by omega) (by omega)]
      omega
    · rw [g3 154 (by omega) (by omega), g3 155 (by omega) (by omega)]
      exact s4.2.2.1
  · refine AG_det (T_X11_end_no (by rw [n1]; exact q) hv) (T_X12_end_no (by rw [n2]; exact q) hv) (SR_thr hs)
end CE
