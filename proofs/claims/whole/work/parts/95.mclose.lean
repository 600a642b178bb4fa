section MCL
variable {k : Nat} {h h1 h2 h3 h4 : Nat → Int → Int} {sem : Sem} {H np nc len : Nat} {v : Int} {X : Cx}
def inW (H : Nat) (i : Int) : Prop := 0 ≤ i ∧ i / 9 < H ∧ i % 9 < H
def mcl (H : Nat) (h h3 h1 : Nat → Int → Int) : Prop := (∀ a, a ≠ 147 → a ≠ 151 → a ≠ 155 → a ≠ 160 → a ≠ 161 → a ≠ 162 → h1 a = h3 a) ∧ (∀ j : Int, j ≠ 0 → j ≠ 30 → h1 147 j = h3 147 j) ∧ (0 ≤ h1 147 30 ∧ h1 147 30 < 64) ∧ oor (h1 155) (h3 154) ∧ (∀ i : Int, ¬ (0 ≤ i ∧ i / 9 < H ∧ i % 9 < H) → h1 151 i = h 151 i) ∧ farB (h1 151)
theorem mcl_mlp (hs : SRx k h sem H np nc len) (e : ∀ a, 147 ≤ a → h3 a = h a) (hm : mlp h3 h1) : mcl H h h3 h1 := by
  have e1 : h1 151 = h 151 := by rw [hm.1 151 (by omega) (by omega) (by omega) (by omega) (by omega)]; exact e 151 (by omega)
  exact ⟨fun a a1 _ a2 a3 a4 a5 => hm.1 a a1 a2 a3 a4 a5, hm.2.1, hm.2.2.1, hm.2.2.2, fun i _ => by rw [e1], by rw [e1]; exact hs.1.2.2.2.2.1.2.2.2.2.2.2.1⟩
/-- the heap with an exit shut and its ways laid -/
theorem MBk_cl {e : Nat} (hs : SRx k h sem H np nc len) (hk : k ≤ 1000) (e3 : ∀ a, 147 ≤ a → h3 a = h a) (hm : mcl H h h3 h1) (h4e : h4 = rup (rup (rup h1 149 (fup (h 149) e (-1))) 151 (lAll H (fup (h 149) e (-1)) (h 150) (h 151))) 155 (h 154)) : MBk sem h4 155 H np nc ∧ cxM sem h4 np nc = clY sem h np nc H e ∧ h4 154 = h 154 ∧ h4 155 = h 154 := by
  have fr : ∀ a, a ≠ 147 → a ≠ 149 → a ≠ 151 → a ≠ 155 → a ≠ 160 → a ≠ 161 → a ≠ 162 → 147 ≤ a → h4 a = h a := fun a a1 a2 a3 a4 a5 a6 a7 a8 => by
    rw [h4e, rup_n a4, rup_n a3, rup_n a2, hm.1 a a1 a3 a4 a5 a6 a7]; exact e3 a a8
  have fj : ∀ j : Int, j ≠ 0 → j ≠ 30 → h4 147 j = h 147 j := fun j j1 j2 => by
    rw [h4e, rup_n (by omega), rup_n (by omega), rup_n (by omega), hm.2.1 j j1 j2, e3 147 (by omega)]
  have f155 : h4 155 = h 154 := by rw [h4e, rup_s]
  have eX : cxM sem h4 np nc = clY sem h np nc H e := by
    unfold cxM clY
    rw [fr 150 (by omega) (by omega) (by omega) (by omega) (by omega) (by omega) (by omega) (by omega), fr 152 (by omega) (by omega) (by omega) (by omega) (by omega) (by omega) (by omega) (by omega), fr 153 (by omega) (by omega) (by omega) (by omega) (by omega) (by omega) (by omega) (by omega), show h4 149 = fup (h 149) e (-1) by rw [h4e, rup_n (by omega), rup_n (by omega), rup_s], show h4 151 = lAll H (fup (h 149) e (-1)) (h 150) (h 151) by rw [h4e, rup_n (by omega), rup_s]]
  have hn := hs.2.2.2.1.2.1
  refine ⟨⟨by rw [eX]; exact clY_ok hs, by rw [eX, f155]; exact okF_c (X := clY sem h np nc H e) hs.2.2.2.1.1, mrOK_fr hs.1.2.2.2.2.2.2.2.1 (fj 23 (by omega) (by omega)) (fr 158 (by omega) (by omega) (by omega) (by omega) (by omega) (by omega) (by omega) (by omega)), by rw [fj 5 (by omega) (by omega)]; exact hs.1.2.2.1, by rw [fj 4 (by omega) (by omega)]; exact hs.1.2.1, by rw [f155]; omega, by rw [h4e, rup_n (by omega), rup_n (by omega), rup_n (by omega)]; exact hm.2.2.1, isRw_155, Or.inr rfl⟩, eX, fr 154 (by omega) (by omega) (by omega) (by omega) (by omega) (by omega) (by omega) (by omega), f155⟩
theorem M_cl {e m : Nat} (hs : SRx k h sem H np nc len) (hk : k ≤ 1000) (e3 : ∀ a, 147 ≤ a → h3 a = h a) (hm : mcl H h h3 h1) (h4e : h4 = rup (rup (rup h1 149 (fup (h 149) e (-1))) 151 (lAll H (fup (h 149) e (-1)) (h 150) (h 151))) 155 (h 154)) (hm60 : m ≤ 60) : RR mX12_outIn 9 0 0 0 (pm_ent [pR 147, pI m] 3) [] (shp0, rf0, h4) (fun r' g' => r' = some (pI (clV sem h np nc H m e)) ∧ ∃ h', g' = (shp0, rf0, h') ∧ mcl H h h3 (rup h' 149 (fup (h' 149) e (h 149 e)))) := by
  have hn := hs.2.2.2.1.2.1
  obtain ⟨hB, eX, e154, e155⟩ := MBk_cl hs hk e3 hm h4e
  have hT := M_outIn (m := m) hB hm60 (by rw [e155]; omega)
  rw [eX, e154, e155] at hT
  refine RR.post hT (fun r' g' q => ?_)
  obtain ⟨rfl, h', rfl, hf, e5⟩ := q
  have e149 : h' 149 = fup (h 149) e (-1) := by rw [hf.1 149 (by omega) (by omega) (by omega) (by omega) (by omega), h4e, rup_n (by omega), rup_n (by omega), rup_s]
  have e151 : h' 151 = lAll H (fup (h 149) e (-1)) (h 150) (h 151) := by rw [hf.1 151 (by omega) (by omega) (by omega) (by omega) (by omega), h4e, rup_n (by omega), rup_s]
  obtain ⟨o1, o2, o3, o4, o5, o6, o7, o8, o9⟩ := clY_ok (e := (e : Int)) hs
  refine ⟨rfl, h', rfl, fun a a1 a2 a3 a4 a5 a6 => ?_, fun j j1 j2 => ?_, ?_, ?_, fun i hi => ?_, ?_⟩
  · by_cases q : a = 149
    · rw [q, rup_s, e149, fup_fup, fup_self]; exact (e3 149 (by omega)).symm
    · rw [rup_n q, hf.1 a a1 a3 a4 a5 a6, h4e, rup_n a3, rup_n a2, rup_n q]
      exact hm.1 a a1 a2 a3 a4 a5 a6
  · rw [rup_n (by omega), hf.2.1 j j2, h4e, rup_n (by omega), rup_n (by omega), rup_n (by omega)]
    exact hm.2.1 j j1 j2
  · rw [rup_n (by omega)]; exact hf.2.2
  · rw [rup_n (by omega), e5, e3 154 (by omega)]
    exact xIt_oor (X := clY sem h np nc H e) o4 o3 _ _
  · rw [rup_n (by omega), e151, lAll_out o2 hi]
  · rw [rup_n (by omega), e151]; exact o7
theorem MCL_81 {V : Int → Int} {m e : Nat} {s : Int × Int} {z : Int} {w6 : PV} {Q : Option PV → PH → Prop} (hb : 0 ≤ s.1 ∧ s.1 ≤ 12) (hb2 : -3 ≤ s.2 ∧ s.2 < (e : Int)) (hv : 0 ≤ V e ∧ V e ≤ 12) (he : e < 18) (hz : r32 z) (KK : ∀ w5 w6 : PV, RR mX12_close 10 0 0 35 [pR 147, pI m, pI (clS V e s).1, pI (clS V e s).2, pI ((e : Int) + 1), w5, w6] [] (shp0, rf0, rup h1 149 (fup (h1 149) e z)) Q) : RR mX12_close 10 0 0 81 [pR 147, pI m, pI s.1, pI s.2, pI e, pI z, w6] [pI (V e)] (shp0, rf0, h1) Q := by
  unfold clS at KK
  by_cases u : s.1 < V e
  · rw [if_pos u] at KK
    rw [show V e = max s.1 (V e) by omega] at KK
    refine R_istore dX12_close_81 (Nat.le_of_ble_eq_true rfl) (?_ : RR _ _ _ _ 83 [_, _, _, _, _, _, _] _ _ _)
    refine R_aload_n dX12_close_83 rfl (?_ : RR _ _ _ _ 84 _ _ _ _)
    refine R_getr dX12_close_84 flX12_17 cok_12 rfl (by decide) (?_ : RR _ _ _ _ 87 _ _ _ _)
    refine R_iload dX12_close_87 rfl (?_ : RR _ _ _ _ 89 _ _ _ _)
    refine R_iload dX12_close_89 rfl (?_ : RR _ _ _ _ 91 _ _ _ _)
    refine R_iast dX12_close_91 (?_ : RR _ _ _ _ 92 _ _ _ _)
    refine R_iload dX12_close_92 rfl (?_ : RR _ _ _ _ 94 _ _ _ _)
    refine R_iload_n dX12_close_94 rfl (?_ : RR _ _ _ _ 95 _ _ _ _)
    refine R_icmp_le (t := 103) dX12_close_95 rfl (fun c95 => ?_) (fun c95 => ?_)
    · exfalso; omega
    refine R_iload dX12_close_98 rfl (?_ : RR _ _ _ _ 100 _ _ _ _)
    refine R_goto (t := 104) dX12_close_100 rfl (?_ : RR _ _ _ _ 104 _ _ _ _)
    refine R_istore_n dX12_close_104 (Nat.le_of_ble_eq_true rfl) (?_ : RR _ _ _ _ 105 [_, _, _, _, _, _, _] _ _ _)
    refine R_iload_n dX12_close_105 rfl (?_ : RR _ _ _ _ 106 _ _ _ _)
    refine R_iload dX12_close_106 rfl (?_ : RR _ _ _ _ 108 _ _ _ _)
    refine R_max dX12_close_108 mmX12_281 (by decide) (Nat.le_of_ble_eq_true rfl) (?_ : RR _ _ _ _ 111 _ _ _ _)
    refine R_istore_n dX12_close_111 (Nat.le_of_ble_eq_true rfl) (?_ : RR _ _ _ _ 112 [_, _, _, _, _, _, _] _ _ _)
    refine R_iinc dX12_close_112 rfl (Nat.le_of_ble_eq_true rfl) (?_ : RR _ _ _ _ 115 [_, _, _, _, _, _, _] _ _ _)
    refine R_goto (t := 35) dX12_close_115 rfl (?_ : RR _ _ _ _ 35 _ _ _ _)
    exact KK _ _
  · rw [if_neg u] at KK
    rw [show s.1 = max s.1 (V e) by omega] at KK
    refine R_istore dX12_close_81 (Nat.le_of_ble_eq_true rfl) (?_ : RR _ _ _ _ 83 [_, _, _, _, _, _, _] _ _ _)
    refine R_aload_n dX12_close_83 rfl (?_ : RR _ _ _ _ 84 _ _ _ _)
    refine R_getr dX12_close_84 flX12_17 cok_12 rfl (by decide) (?_ : RR _ _ _ _ 87 _ _ _ _)
    refine R_iload dX12_close_87 rfl (?_ : RR _ _ _ _ 89 _ _ _ _)
    refine R_iload dX12_close_89 rfl (?_ : RR _ _ _ _ 91 _ _ _ _)
    refine R_iast dX12_close_91 (?_ : RR _ _ _ _ 92 _ _ _ _)
    refine R_iload dX12_close_92 rfl (?_ : RR _ _ _ _ 94 _ _ _ _)
    refine R_iload_n dX12_close_94 rfl (?_ : RR _ _ _ _ 95 _ _ _ _)
    refine R_icmp_le (t := 103) dX12_close_95 rfl (fun c95 => ?_) (fun c95 => ?_)
    rotate_left
    · exfalso; omega
    refine R_iload_n dX12_close_103 rfl (?_ : RR _ _ _ _ 104 _ _ _ _)
    refine R_istore_n dX12_close_104 (Nat.le_of_ble_eq_true rfl) (?_ : RR _ _ _ _ 105 [_, _, _, _, _, _, _] _ _ _)
    refine R_iload_n dX12_close_105 rfl (?_ : RR _ _ _ _ 106 _ _ _ _)
    refine R_iload dX12_close_106 rfl (?_ : RR _ _ _ _ 108 _ _ _ _)
    refine R_max dX12_close_108 mmX12_281 (by decide) (Nat.le_of_ble_eq_true rfl) (?_ : RR _ _ _ _ 111 _ _ _ _)
    refine R_istore_n dX12_close_111 (Nat.le_of_ble_eq_true rfl) (?_ : RR _ _ _ _ 112 [_, _, _, _, _, _, _] _ _ _)
    refine R_iinc dX12_close_112 rfl (Nat.le_of_ble_eq_true rfl) (?_ : RR _ _ _ _ 115 [_, _, _, _, _, _, _] _ _ _)
    refine R_goto (t := 35) dX12_close_115 rfl (?_ : RR _ _ _ _ 35 _ _ _ _)
    exact KK _ _
theorem M_close {m : Nat} {F : Int × Int} (hs : SRx k h sem H np nc len) (hk : k ≤ 1000) (hm : 1 ≤ m ∧ m ≤ 12) (hF9 : F = it (clS (clV sem h np nc H m)) (clB sem h np nc m, -3) (2 * H)) (e : ∀ a, 147 ≤ a → h3 a = h a) : RR mX12_close 10 0 0 0 (pm_ent [pR 147, pI m] 7) [] (shp0, rf0, h3) (mQ h3 F.2 (some [F.1])) := by
  obtain ⟨o1, o2, o3, o4, o5, o6, o7, o8, o9⟩ : xOK (cxM sem h np nc) H := hs.1.2.2.2.2.1
  obtain ⟨hE, hD⟩ := hs.1.2.2.2.2.2.1
  have o5 : exB (h 149) := o5
  have o6 : miB (h 150) := o6
  have o7 : farB (h 151) := o7
  have h147 : h 147 3 = H := hs.1.1
  have hn := hs.2.2.2.1.2.1
  have x6 := sR6 hs
  have x12 := sR12 hs
  have E154 : h3 154 = h 154 := e 154 (by omega)
  have bS := clS_b (b := clB sem h np nc m) (V := clV sem h np nc H m) (clB_b hs) (fun e => clV_b hs)
  have hB := clB_b (m := m) hs
  have hno : ∀ e : Int, h 149 e = -1 → clV sem h np nc H m e = clB sem h np nc m := fun e he => clV_no hs he
  have hMcl := fun (e0 : Nat) (h1 h4 : Nat → Int → Int) (q1 : mcl H h h3 h1) q2 => M_cl (e := e0) (m := m) (h4 := h4) hs hk e q1 q2 (by omega)
  obtain ⟨V, hV⟩ : ∃ V, V = clV sem h np nc H m := ⟨_, rfl⟩
  obtain ⟨B, hBe⟩ : ∃ B, B = clB sem h np nc m := ⟨_, rfl⟩
  rw [← hV, ← hBe] at bS hF9 hno
  rw [← hV] at hMcl
  rw [← hBe] at hB
  have hVb : ∀ e : Int, 0 ≤ V e ∧ V e ≤ 12 := fun e => by rw [hV]; exact clV_b hs
  show RR _ _ _ _ _ [pR 147, pI m, pU, pU, pU, pU, pU] _ _ _
  have L : ∀ (j e : Nat) (h1 : Nat → Int → Int) (w5 w6 : PV), e + j = 2 * H → mcl H h h3 h1 → RR mX12_close 10 0 0 35 [pR 147, pI m, pI (it (clS V) (B, -3) e).1, pI (it (clS V) (B, -3) e).2, pI e, w5, w6] [] (shp0, rf0, h1) (mQ h3 F.2 (some [F.1])) := by
    intro j
    induction j with
    | zero =>
      intro i h1 w5 w6 hi hF
      obtain rfl : i = 2 * H := by omega
      have g3 : h1 147 3 = H := by rw [hF.2.1 3 (by omega) (by omega), e 147 (by omega)]; exact h147
      have g149 : h1 149 = h 149 := by rw [hF.1 149 (by omega) (by omega) (by omega) (by omega) (by omega) (by omega)]; exact e 149 (by omega)
      have g150 : h1 150 = h 150 := by rw [hF.1 150 (by omega) (by omega) (by omega) (by omega) (by omega) (by omega)]; exact e 150 (by omega)
      have hly := T_X12_laysWays (H := H) (h := h1) g3 (by rw [g149]; exact o5) (by rw [g150]; exact o6) (farB_bnM hF.2.2.2.2.2)
      rw [g149, g150, lAll_id o2 hE hD o7 hF.2.2.2.2.1] at hly
      have bp := bS (2 * H)
      rw [← hF9] at bp ⊢
      have hmq : mqF h3 (rup h1 151 (h 151)) := mq_mlp hs e ⟨fun a a1 a2 a3 a4 a5 => by
        by_cases z : a = 151
        · rw [z, rup_s]; exact (e 151 (by omega)).symm
        · rw [rup_n z]; exact hF.1 a a1 z a2 a3 a4 a5, fun j j1 j2 => by rw [rup_n (by omega)]; exact hF.2.1 j j1 j2, by rw [rup_n (by omega)]; exact hF.2.2.1, by rw [rup_n (by omega)]; exact hF.2.2.2.1⟩
      generalize rup h1 151 (h 151) = h9 at hly hmq
      refine R_iload dX12_close_35 rfl (?_ : RR _ _ _ _ 37 _ _ _ _)
      refine R_iconst dX12_close_37 (?_ : RR _ _ _ _ 38 _ _ _ _)
      refine R_aload_n dX12_close_38 rfl (?_ : RR _ _ _ _ 39 _ _ _ _)
      refine R_geti (z := 3) dX12_close_39 flX12_13 cok_12 rfl (by decide) rfl (fun q39 => (?_ : RR _ _ _ _ 42 _ _ _ _))
      rw [g3] at q39 ⊢
      refine R_imul dX12_close_42 (?_ : RR _ _ _ _ 43 _ _ _ _)
      refine R_icmp_ge (t := 118) dX12_close_43 rfl (fun c43 => ?_) (fun c43 => ?_)
      rotate_left
      · exfalso; omega
      refine R_aload_n dX12_close_118 rfl (?_ : RR _ _ _ _ 119 _ _ _ _)
      refine R_cVv0 dX12_close_119 mvX12_laysWays mlX12_202 (by decide) (by decide) (Nat.le_of_ble_eq_true rfl) (Nat.le_of_ble_eq_true rfl) (hly) (?_ : RR _ _ _ _ 122 _ _ _ _)
      refine R_aload_n dX12_close_122 rfl (?_ : RR _ _ _ _ 123 _ _ _ _)
      refine R_iconst dX12_close_123 (?_ : RR _ _ _ _ 124 _ _ _ _)
      refine R_puti (zk := 1) dX12_close_124 flX12_113 cok_12 (by decide) (fun q hq => by cases hq; rfl) rfl (?_ : RR _ _ _ _ 127 _ _ _ _)
      show RR _ _ _ _ _ _ _ (shp0, rf0, tmR h9 []) _
      refine R_aload_n dX12_close_127 rfl (?_ : RR _ _ _ _ 128 _ _ _ _)
      refine R_iload_n dX12_close_128 rfl (?_ : RR _ _ _ _ 129 _ _ _ _)
      refine R_i2l dX12_close_129 (by first | assumption | omega) (?_ : RR _ _ _ _ 130 _ _ _ _)
      refine R_cVv1 dX12_close_130 mvX12_enters mlX12_116 (by decide) (by decide) (Nat.le_of_ble_eq_true rfl) (Nat.le_of_ble_eq_true rfl) (T_tma (by simp) (by omega)) (?_ : RR _ _ _ _ 133 _ _ _ _)
      refine R_iload_n dX12_close_133 rfl (?_ : RR _ _ _ _ 134 _ _ _ _)
      exact R_ireturn dX12_close_134 trivial (mQ_tm hmq rfl)
    | succ j ih =>
      intro i h1 w5 w6 hi hF
      have g3 : h1 147 3 = H := by rw [hF.2.1 3 (by omega) (by omega), e 147 (by omega)]; exact h147
      have g149 : h1 149 = h 149 := by rw [hF.1 149 (by omega) (by omega) (by omega) (by omega) (by omega) (by omega)]; exact e 149 (by omega)
      have g150 : h1 150 = h 150 := by rw [hF.1 150 (by omega) (by omega) (by omega) (by omega) (by omega) (by omega)]; exact e 150 (by omega)
      have g154 : h1 154 = h 154 := by rw [hF.1 154 (by omega) (by omega) (by omega) (by omega) (by omega) (by omega)]; exact e 154 (by omega)
      have bp := bS i
      have hve := hVb i
      have hei := hE i (by omega) (by omega)
      have IH := fun h1 w5 w6 hF => ih (i + 1) h1 w5 w6 (by omega) hF
      rw [show it (clS V) (B, -3) (i + 1) = clS V i (it (clS V) (B, -3) i) from rfl] at IH
      generalize it (clS V) (B, -3) i = s at bp IH ⊢
      by_cases y : h 149 i = -1
      · have IH2 := fun w5 w6 => IH h1 w5 w6 hF
        rw [show clS V i s = s by unfold clS; rw [hno i y, if_neg (by omega)]] at IH2
        refine R_iload dX12_close_35 rfl (?_ : RR _ _ _ _ 37 _ _ _ _)
        refine R_iconst dX12_close_37 (?_ : RR _ _ _ _ 38 _ _ _ _)
        refine R_aload_n dX12_close_38 rfl (?_ : RR _ _ _ _ 39 _ _ _ _)
        refine R_geti (z := 3) dX12_close_39 flX12_13 cok_12 rfl (by decide) rfl (fun q39 => (?_ : RR _ _ _ _ 42 _ _ _ _))
        rw [g3] at q39 ⊢
        refine R_imul dX12_close_42 (?_ : RR _ _ _ _ 43 _ _ _ _)
        refine R_icmp_ge (t := 118) dX12_close_43 rfl (fun c43 => ?_) (fun c43 => ?_)
        · exfalso; omega
        refine R_aload_n dX12_close_46 rfl (?_ : RR _ _ _ _ 47 _ _ _ _)
        refine R_getr dX12_close_47 flX12_17 cok_12 rfl (by decide) (?_ : RR _ _ _ _ 50 _ _ _ _)
        refine R_iload dX12_close_50 rfl (?_ : RR _ _ _ _ 52 _ _ _ _)
        refine R_iald dX12_close_52 (fun q52 => (?_ : RR _ _ _ _ 53 _ _ _ _))
        rw [g149] at q52 ⊢
        refine R_istore dX12_close_53 (Nat.le_of_ble_eq_true rfl) (?_ : RR _ _ _ _ 55 [_, _, _, _, _, _, _] _ _ _)
        refine R_iload dX12_close_55 rfl (?_ : RR _ _ _ _ 57 _ _ _ _)
        refine R_if_lt (t := 112) dX12_close_57 rfl (fun c57 => ?_) (fun c57 => ?_)
        rotate_left
        · exfalso; omega
        refine R_iinc dX12_close_112 rfl (Nat.le_of_ble_eq_true rfl) (?_ : RR _ _ _ _ 115 [_, _, _, _, _, _, _] _ _ _)
        refine R_goto (t := 35) dX12_close_115 rfl (?_ : RR _ _ _ _ 35 _ _ _ _)
        exact IH2 _ _
      · have hbE := exB_s (e := (i : Int)) o5
        have hly := T_X12_laysWays (H := H) (h := rup h1 149 (fup (h 149) i (-1))) (by rw [rup_n (by omega)]; exact g3) (by rw [rup_s]; exact hbE) (by rw [rup_n (by omega), g150]; exact o6) (by rw [rup_n (by omega)]; exact farB_bnM hF.2.2.2.2.2)
        rw [rup_s, rup_n (by omega), rup_n (by omega), g150, lAll_same (g := h 151) o2 (exK_s hE) hbE o6 hF.2.2.2.2.1] at hly
        have hpu := T_X12_puts (h := rup (rup h1 149 (fup (h 149) i (-1))) 151 (lAll H (fup (h 149) i (-1)) (h 150) (h 151))) (by rw [rup_n (by omega), rup_n (by omega), rup_n (by omega), rup_n (by omega), g154, ← E154]; exact hF.2.2.2.1)
        rw [rup_n (by omega), rup_n (by omega), g154] at hpu
        have hpo := hMcl i h1 _ hF rfl
        have K81 : ∀ (h5 : Nat → Int → Int) (w6 : PV), mcl H h h3 (rup h5 149 (fup (h5 149) i (h 149 i))) → RR mX12_close 10 0 0 81 [pR 147, pI m, pI s.1, pI s.2, pI i, pI (h 149 i), w6] [pI (V i)] (shp0, rf0, h5) (mQ h3 F.2 (some [F.1])) := fun h5 w6 hF5 => MCL_81 (by omega) (by omega) hve (by omega) (by omega) (fun w5 w6 => IH _ w5 w6 hF5)
        refine R_iload dX12_close_35 rfl (?_ : RR _ _ _ _ 37 _ _ _ _)
        refine R_iconst dX12_close_37 (?_ : RR _ _ _ _ 38 _ _ _ _)
        refine R_aload_n dX12_close_38 rfl (?_ : RR _ _ _ _ 39 _ _ _ _)
        refine R_geti (z := 3) dX12_close_39 flX12_13 cok_12 rfl (by decide) rfl (fun q39 => (?_ : RR _ _ _ _ 42 _ _ _ _))
        rw [g3] at q39 ⊢
        refine R_imul dX12_close_42 (?_ : RR _ _ _ _ 43 _ _ _ _)
        refine R_icmp_ge (t := 118) dX12_close_43 rfl (fun c43 => ?_) (fun c43 => ?_)
        · exfalso; omega
        refine R_aload_n dX12_close_46 rfl (?_ : RR _ _ _ _ 47 _ _ _ _)
        refine R_getr dX12_close_47 flX12_17 cok_12 rfl (by decide) (?_ : RR _ _ _ _ 50 _ _ _ _)
        refine R_iload dX12_close_50 rfl (?_ : RR _ _ _ _ 52 _ _ _ _)
        refine R_iald dX12_close_52 (fun q52 => (?_ : RR _ _ _ _ 53 _ _ _ _))
        rw [g149] at q52 ⊢
        refine R_istore dX12_close_53 (Nat.le_of_ble_eq_true rfl) (?_ : RR _ _ _ _ 55 [_, _, _, _, _, _, _] _ _ _)
        refine R_iload dX12_close_55 rfl (?_ : RR _ _ _ _ 57 _ _ _ _)
        refine R_if_lt (t := 112) dX12_close_57 rfl (fun c57 => ?_) (fun c57 => ?_)
        · exfalso; omega
        refine R_aload_n dX12_close_60 rfl (?_ : RR _ _ _ _ 61 _ _ _ _)
        refine R_getr dX12_close_61 flX12_17 cok_12 rfl (by decide) (?_ : RR _ _ _ _ 64 _ _ _ _)
        refine R_iload dX12_close_64 rfl (?_ : RR _ _ _ _ 66 _ _ _ _)
        refine R_iconst dX12_close_66 (?_ : RR _ _ _ _ 67 _ _ _ _)
        refine R_iast dX12_close_67 (?_ : RR _ _ _ _ 68 _ _ _ _)
        rw [g149]
        refine R_aload_n dX12_close_68 rfl (?_ : RR _ _ _ _ 69 _ _ _ _)
        refine R_cVv0 dX12_close_69 mvX12_laysWays mlX12_202 (by decide) (by decide) (Nat.le_of_ble_eq_true rfl) (Nat.le_of_ble_eq_true rfl) (hly) (?_ : RR _ _ _ _ 72 _ _ _ _)
        refine R_aload_n dX12_close_72 rfl (?_ : RR _ _ _ _ 73 _ _ _ _)
        refine R_cVv0 dX12_close_73 mvX12_puts mlX12_407 (by decide) (by decide) (Nat.le_of_ble_eq_true rfl) (Nat.le_of_ble_eq_true rfl) (hpu) (?_ : RR _ _ _ _ 76 _ _ _ _)
        refine R_aload_n dX12_close_76 rfl (?_ : RR _ _ _ _ 77 _ _ _ _)
        refine R_iload_n dX12_close_77 rfl (?_ : RR _ _ _ _ 78 _ _ _ _)
        refine R_qV1 dX12_close_78 mvX12_outIn mlX12_415 (by decide) (by decide) (Nat.le_of_ble_eq_true rfl) (Nat.le_of_ble_eq_true rfl) (hpo) (fun r9 g9 hq9 => (?_ : RR _ _ _ _ 81 _ _ _ _))
        obtain ⟨rfl, h5, rfl, hf5⟩ := hq9
        show RR _ _ _ _ _ _ [pI (V i)] _ _
        exact K81 h5 _ hf5
  obtain ⟨hB1, eX⟩ := MBk_l (f := h 154) hs hk e (mlp_0 hs e) (okF_c hs.2.2.2.1.1) (by omega)
  have hpo := M_outIn (m := m) hB1 (by omega) (by rw [rup_s]; omega)
  rw [eX, rup_s, rup_n (by omega), rup_n (by omega), E154, show (oMn (cxM sem h np nc) (xIt (cxM sem h np nc) 0 m (h 154)) : Int) - oMn (cxM sem h np nc) (h 154) = B by rw [hBe]; rfl] at hpo
  have L0 := fun h1 w5 w6 hF => L (2 * H) 0 h1 w5 w6 (by omega) hF
  refine R_aload_n dX12_close_0 rfl (?_ : RR _ _ _ _ 1 _ _ _ _)
  refine R_iconst dX12_close_1 (?_ : RR _ _ _ _ 2 _ _ _ _)
  refine R_puti (zk := 0) dX12_close_2 flX12_106 cok_12 (by decide) (fun q hq => by cases hq; rfl) rfl (?_ : RR _ _ _ _ 5 _ _ _ _)
  refine R_iload_n dX12_close_5 rfl (?_ : RR _ _ _ _ 6 _ _ _ _)
  refine R_i2l dX12_close_6 (by first | assumption | omega) (?_ : RR _ _ _ _ 7 _ _ _ _)
  refine R_lconst (z := 1) dX12_close_7 rfl (?_ : RR _ _ _ _ 8 _ _ _ _)
  refine R_ldc2 (z := 12) dX12_close_8 klX12_430 (?_ : RR _ _ _ _ 11 _ _ _ _)
  refine R_cSi3 dX12_close_11 msX12_in mlX12_120 (by decide) (Nat.le_of_ble_eq_true rfl) (Nat.le_of_ble_eq_true rfl) (T_X12_in) (?_ : RR _ _ _ _ 14 _ _ _ _)
  rw [if_pos (by omega)]
  refine R_if_ne (t := 19) dX12_close_14 rfl (fun c14 => ?_) (fun c14 => ?_)
  rotate_left
  · exfalso; omega
  refine R_aload_n dX12_close_19 rfl (?_ : RR _ _ _ _ 20 _ _ _ _)
  refine R_cVv0 dX12_close_20 mvX12_puts mlX12_407 (by decide) (by decide) (Nat.le_of_ble_eq_true rfl) (Nat.le_of_ble_eq_true rfl) (T_X12_puts (puts_oor hs e)) (?_ : RR _ _ _ _ 23 _ _ _ _)
  rw [rup_n (by omega), E154]
  refine R_aload_n dX12_close_23 rfl (?_ : RR _ _ _ _ 24 _ _ _ _)
  refine R_iload_n dX12_close_24 rfl (?_ : RR _ _ _ _ 25 _ _ _ _)
  refine R_qV1 dX12_close_25 mvX12_outIn mlX12_415 (by decide) (by decide) (Nat.le_of_ble_eq_true rfl) (Nat.le_of_ble_eq_true rfl) (hpo) (fun r9 g9 hq9 => (?_ : RR _ _ _ _ 28 _ _ _ _))
  obtain ⟨rfl, h6, rfl, hf6, e6⟩ := hq9
  show RR _ _ _ _ _ _ [pI B] _ _
  refine R_istore_n dX12_close_28 (Nat.le_of_ble_eq_true rfl) (?_ : RR _ _ _ _ 29 [_, _, _, _, _, _, _] _ _ _)
  refine R_bipush dX12_close_29 rfl (?_ : RR _ _ _ _ 31 _ _ _ _)
  refine R_istore_n dX12_close_31 (Nat.le_of_ble_eq_true rfl) (?_ : RR _ _ _ _ 32 [_, _, _, _, _, _, _] _ _ _)
  refine R_iconst dX12_close_32 (?_ : RR _ _ _ _ 33 _ _ _ _)
  refine R_istore dX12_close_33 (Nat.le_of_ble_eq_true rfl) (?_ : RR _ _ _ _ 35 [_, _, _, _, _, _, _] _ _ _)
  exact L0 h6 _ _ (mcl_mlp hs e (mlp_tn (mlp_0 hs e) hf6 (by rw [e6, E154]; exact xIt_oor (X := cxM sem h np nc) x6 x12 _ _)))
theorem A_close (hs : SRx k h sem H np nc len) (hk : k ≤ 1000) (hv : r32 v) : AG mX11_close mX12_close 7 10 [pI v] k h := by
  by_cases q : 1 ≤ v ∧ v ≤ 12
  · obtain ⟨m, rfl⟩ := Int.eq_ofNat_of_zero_le (show 0 ≤ v by omega)
    exact A_q7 hs (C_close hs hk (by omega) rfl) (fun h3 e => M_close hs hk (by omega) rfl e) (by simp)
  · refine A_q hs (z := -1) (o := none) (cQ_no (M := mX11_close) (d := 7) (As := [pR 0, pI v]) (MT.of (fun Q hQ => (?_ : RR mX11_close _ _ _ _ [pR 0, pI v, pU, pU, pU, pU] _ _ _)))) (fun h3 e => mQ_thr (M := mX12_close) (d := 10) (As := [pR 147, pI v]) (MT.of (fun Q hQ => (?_ : RR mX12_close _ _ _ _ [pR 147, pI v, pU, pU, pU, pU, pU] _ _ _)))) (fun L e => by cases e)
    · by_cases y : v < 1
      · refine R_iload_n dX11_close_0 rfl (?_ : RR _ _ _ _ 1 _ _ _ _)
        refine R_iconst dX11_close_1 (?_ : RR _ _ _ _ 2 _ _ _ _)
        refine R_icmp_lt (t := 11) dX11_close_2 rfl (fun c2 => ?_) (fun c2 => ?_)
        rotate_left
        · exfalso; omega
        refine R_iconst dX11_close_11 (?_ : RR _ _ _ _ 12 _ _ _ _)
        exact R_ireturn dX11_close_12 trivial hQ
      · refine R_iload_n dX11_close_0 rfl (?_ : RR _ _ _ _ 1 _ _ _ _)
        refine R_iconst dX11_close_1 (?_ : RR _ _ _ _ 2 _ _ _ _)
        refine R_icmp_lt (t := 11) dX11_close_2 rfl (fun c2 => ?_) (fun c2 => ?_)
        · exfalso; omega
        refine R_iload_n dX11_close_5 rfl (?_ : RR _ _ _ _ 6 _ _ _ _)
        refine R_bipush dX11_close_6 rfl (?_ : RR _ _ _ _ 8 _ _ _ _)
        refine R_icmp_le (t := 13) dX11_close_8 rfl (fun c8 => ?_) (fun c8 => ?_)
        · exfalso; omega
        refine R_iconst dX11_close_11 (?_ : RR _ _ _ _ 12 _ _ _ _)
        exact R_ireturn dX11_close_12 trivial hQ
    · refine R_aload_n dX12_close_0 rfl (?_ : RR _ _ _ _ 1 _ _ _ _)
      refine R_iconst dX12_close_1 (?_ : RR _ _ _ _ 2 _ _ _ _)
      refine R_puti (zk := 0) dX12_close_2 flX12_106 cok_12 (by decide) (fun q hq => by cases hq; rfl) rfl (?_ : RR _ _ _ _ 5 _ _ _ _)
      try simp (disch := omega) only [rup_rup, rup_sort, rupS_def, rup_s, rup_n, fup_fup, fup_s, fup_n]
      refine R_iload_n dX12_close_5 rfl (?_ : RR _ _ _ _ 6 _ _ _ _)
      refine R_i2l dX12_close_6 (by first | assumption | omega) (?_ : RR _ _ _ _ 7 _ _ _ _)
      refine R_lconst (z := 1) dX12_close_7 rfl (?_ : RR _ _ _ _ 8 _ _ _ _)
      refine R_ldc2 (z := 12) dX12_close_8 klX12_430 (?_ : RR _ _ _ _ 11 _ _ _ _)
      refine R_cSi3 dX12_close_11 msX12_in mlX12_120 (by decide) (Nat.le_of_ble_eq_true rfl) (Nat.le_of_ble_eq_true rfl) (T_X12_in) (?_ : RR _ _ _ _ 14 _ _ _ _)
      try simp (disch := omega) only [rup_rup, rup_sort, rupS_def, rup_s, rup_n, fup_fup, fup_s, fup_n]
      rw [if_neg q]
      refine R_if_ne (t := 19) dX12_close_14 rfl (fun c14 => ?_) (fun c14 => ?_)
      · exfalso; omega
      refine R_iconst dX12_close_17 (?_ : RR _ _ _ _ 18 _ _ _ _)
      exact R_ireturn dX12_close_18 trivial hQ
end MCL
