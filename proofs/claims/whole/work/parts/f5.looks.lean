/-! halt, coach, passenger, row: where they answer -/
section LKS
variable {k : Nat} {h h1 h2 h3 h4 g : Nat → Int → Int} {sem : Sem} {H np nc len : Nat}
theorem SRx_178 (hs : SRx k h sem H np nc len) (e : ∀ a, a ≠ 178 → g a = h a) : SRx k g sem H np nc len := by
  have hF : gF (fun a => a = 178) h g := ⟨fun a _ q => e a q, fun j _ _ => by rw [e 147 (by omega)], fun q => by rw [e 147 (by omega)]; exact q, fun j _ => by rw [e 155 (by omega)]⟩
  obtain ⟨s1, s2, s3, s4, s5, s6⟩ := id hs
  have eX := gX (sem := sem) (np := np) (nc := nc) hF (fun a a1 a2 z => by omega)
  refine ⟨gB hF s1 (fun a q z => by omega), gA hF s2 (fun a q z => by omega), SD_same s3 (by rw [e 145 (by omega)]) (by rw [e 147 (by omega)]) (e 146 (by omega)) (e 148 (by omega)), ?_, gS hF s5 (fun a q z => by omega), gP hF s6 (fun a q z => by omega)⟩
  rw [eX]
  refine SU_mk ?_ ?_ ?_ (SUn_fr (sR6 hs) (sR12 hs) (SU_un s4) (Nat.le_refl k) rfl rfl (fun _ _ => rfl) (fun a q => e a (by omega)) (by rw [e 147 (by omega)])) (SKp_fr (sR6 hs) (sR12 hs) (SU_kp s4) (Nat.le_refl k) rfl rfl (fun _ _ => rfl) (fun a q => e a (by omega)) (by rw [e 147 (by omega)]))
  · rw [e 154 (by omega)]; exact Cpl_fr s4.1 (fun a a1 a2 => e a (by omega))
  · rw [e 154 (by omega)]; exact s4.2.1
  · rw [e 154 (by omega), e 155 (by omega)]; exact s4.2.2.1
theorem SR_178 (hs : SRx k h sem H np nc len) (hF : gF (fun a => a = 178) h g) (hD : SD g) : SR (k + 1) g := by
  have eX := gX (sem := sem) (np := np) (nc := nc) hF (fun a a1 a2 z => by omega)
  obtain ⟨s1, s2, s3, s4, s5, s6⟩ := id hs
  refine ⟨sem, H, np, nc, len, gB hF s1 (fun a q z => by omega), gA hF s2 (fun a q z => by omega), hD, ?_, gS hF s5 (fun a q z => by omega), gP hF s6 (fun a q z => by omega)⟩
  rw [eX]
  exact gT hF s4 (sR6 hs) (sR12 hs) rfl rfl (fun _ _ => rfl) (gU hF (SU_un s4) (sR6 hs) (sR12 hs) rfl rfl (fun _ _ => rfl) (fun a q z => by omega)) (gK hF (SU_kp s4) (sR6 hs) (sR12 hs) rfl rfl (fun _ _ => rfl) (fun a q z => by omega)) (fun a q z => by omega)
def cq0 (h : Nat → Int → Int) (v : PV) (r' : Option PV) (g' : PH) : Prop := ∃ h1, g' = (shp0, rf0, h1) ∧ r' = some v ∧ cqF h h1 ∧ h1 145 = h 145 ∧ h1 146 = h 146
def mq0 (h : Nat → Int → Int) (v : PV) (t : Int) (r' : Option PV) (g' : PH) : Prop := ∃ h4, g' = (shp0, rf0, h4) ∧ r' = some v ∧ mqF h h4 ∧ h4 147 0 = t ∧ h4 147 1 = h 147 1 ∧ h4 148 = h 148
theorem mq0_i (z : Int) (t : Int) (e : h1 = rup h 147 (fup (h 147) 0 t)) : mq0 h (pI z) t (some (pI z)) (shp0, rf0, h1) := ⟨h1, rfl, rfl, ⟨fun a q => by rw [e, rup_n (by omega)], fun j q => by rw [e, rup_s, fup_n (by omega)], fun q => by rw [e, rup_s, fup_n (by omega)]; exact q, fun j _ => by rw [e, rup_n (by omega)]⟩, by rw [e, rup_s, fup_s], by rw [e, rup_s, fup_n (by omega)], by rw [e, rup_n (by omega)]⟩
theorem T_X12_refuse : MT mX12_refuse 0 [pR 147] h (some (pI 0)) (rup h 147 (fup (h 147) 0 1)) := by
  refine MT.of (fun Q hQ => (?_ : RR mX12_refuse _ _ _ _ [pR 147] _ _ _))
  refine R_aload_n dX12_refuse_0 rfl (?_ : RR _ _ _ _ 1 _ _ _ _)
  refine R_iconst dX12_refuse_1 (?_ : RR _ _ _ _ 2 _ _ _ _)
  refine R_puti (zk := 0) dX12_refuse_2 flX12_106 cok_12 (by decide) (fun q hq => by cases hq; rfl) rfl (?_ : RR _ _ _ _ 5 _ _ _ _)
  refine R_iconst dX12_refuse_5 (?_ : RR _ _ _ _ 6 _ _ _ _)
  exact R_ireturn dX12_refuse_6 trivial hQ
theorem T_X12_thrown : MT mX12_thrown 0 [pR 147] h (some (pI (h 147 0))) h := by
  refine MT.of (fun Q hQ => (?_ : RR mX12_thrown _ _ _ _ [pR 147] _ _ _))
  refine R_aload_n dX12_thrown_0 rfl (?_ : RR _ _ _ _ 1 _ _ _ _)
  refine R_geti (z := 0) dX12_thrown_1 flX12_106 cok_12 rfl (by decide) rfl (fun q1 => (?_ : RR _ _ _ _ 4 _ _ _ _))
  exact R_ireturn dX12_thrown_4 trivial hQ
/-! halt -/
def hlZ (h : Nat → Int → Int) (nc : Nat) (i w : Int) : Int := if w < 2 then h 149 (2 * i + w) else if w < 4 then h 150 (2 * i + w - 2) else if w = 4 then (bset (fun j => decide (mP (h 154) j < 0 ∧ mA (h 154) j = i)) nc : Nat) else if h 154 0 = i then 1 else 0
theorem C_haltA {i w : Int} (hs : SRx k h sem H np nc len) (hi : 0 ≤ i ∧ i < H) (hw : 0 ≤ w ∧ w ≤ 5) : RR mX11_halt 2 0 0 0 (pm_ent [pR 0, pI i, pI w] 3) [] (shp0, rf0, h) (cq0 h (pI (hlZ h nc i w))) := by
  show RR _ _ _ _ _ [pR 0, pI i, pI w] _ _ _
  have x6 := sR6 hs
  have hH := sRH hs
  have t14 := isTr_14
  have n3 := isNet_3
  have h3H : h 3 0 = H := hs.1.2.2.2.1
  have hN := hs.1.2.2.2.2.2.2.1.1
  have hcp := hs.2.2.2.1.1
  have e2 : h 14 2 = nc := hcp.2.2.2.1
  have e0 : h 14 0 = h 154 0 := hcp.2.1
  have hq : ∀ z : Int, z = hlZ h nc i w → cq0 h (pI (hlZ h nc i w)) (some (pI z)) (shp0, rf0, h) := fun z hz => ⟨h, rfl, by rw [hz], fun _ _ => rfl, rfl, rfl⟩
  generalize cq0 h (pI (hlZ h nc i w)) = QQ at *
  by_cases w1 : w < 2
  · have hq := hq (h 4 (2 * i + w)) (by unfold hlZ; rw [if_pos w1]; exact (hN.1 _ (by omega) (by omega)).1)
    refine R_iload_n dX11_halt_0 rfl (?_ : RR _ _ _ _ 1 _ _ _ _)
    refine R_if_lt (t := 24) dX11_halt_1 rfl (fun c1 => ?_) (fun c1 => ?_)
    · exfalso; omega
    refine R_iload_n dX11_halt_4 rfl (?_ : RR _ _ _ _ 5 _ _ _ _)
    refine R_aload_n dX11_halt_5 rfl (?_ : RR _ _ _ _ 6 _ _ _ _)
    refine R_getr dX11_halt_6 flX11_19 cok_11 rfl (by decide) (?_ : RR _ _ _ _ 9 _ _ _ _)
    refine R_geti (z := 0) dX11_halt_9 flX11_129 cok_0 rfl (by decide) rfl (fun q9 => (?_ : RR _ _ _ _ 12 _ _ _ _))
    rw [h3H] at q9 ⊢
    refine R_icmp_ge (t := 24) dX11_halt_12 rfl (fun c12 => ?_) (fun c12 => ?_)
    · exfalso; omega
    refine R_iload_n dX11_halt_15 rfl (?_ : RR _ _ _ _ 16 _ _ _ _)
    refine R_if_lt (t := 24) dX11_halt_16 rfl (fun c16 => ?_) (fun c16 => ?_)
    · exfalso; omega
    refine R_iload_n dX11_halt_19 rfl (?_ : RR _ _ _ _ 20 _ _ _ _)
    refine R_iconst dX11_halt_20 (?_ : RR _ _ _ _ 21 _ _ _ _)
    refine R_icmp_le (t := 34) dX11_halt_21 rfl (fun c21 => ?_) (fun c21 => ?_)
    rotate_left
    · exfalso; omega
    refine R_iload_n dX11_halt_34 rfl (?_ : RR _ _ _ _ 35 _ _ _ _)
    refine R_iconst dX11_halt_35 (?_ : RR _ _ _ _ 36 _ _ _ _)
    refine R_icmp_ge (t := 53) dX11_halt_36 rfl (fun c36 => ?_) (fun c36 => ?_)
    · exfalso; omega
    refine R_aload_n dX11_halt_39 rfl (?_ : RR _ _ _ _ 40 _ _ _ _)
    refine R_getr dX11_halt_40 flX11_19 cok_11 rfl (by decide) (?_ : RR _ _ _ _ 43 _ _ _ _)
    refine R_getr dX11_halt_43 flX11_160 cok_0 rfl (by decide) (?_ : RR _ _ _ _ 46 _ _ _ _)
    refine R_iconst dX11_halt_46 (?_ : RR _ _ _ _ 47 _ _ _ _)
    refine R_iload_n dX11_halt_47 rfl (?_ : RR _ _ _ _ 48 _ _ _ _)
    refine R_imul dX11_halt_48 (?_ : RR _ _ _ _ 49 _ _ _ _)
    refine R_iload_n dX11_halt_49 rfl (?_ : RR _ _ _ _ 50 _ _ _ _)
    refine R_iadd dX11_halt_50 (?_ : RR _ _ _ _ 51 _ _ _ _)
    refine R_iald dX11_halt_51 (fun q51 => (?_ : RR _ _ _ _ 52 _ _ _ _))
    exact R_ireturn dX11_halt_52 trivial hq
  · by_cases w2 : w < 4
    · have hq := hq (h 5 (2 * i + w - 2)) (by unfold hlZ; rw [if_neg w1, if_pos w2]; exact (hN.1 _ (by omega) (by omega)).2)
      refine R_iload_n dX11_halt_0 rfl (?_ : RR _ _ _ _ 1 _ _ _ _)
      refine R_if_lt (t := 24) dX11_halt_1 rfl (fun c1 => ?_) (fun c1 => ?_)
      · exfalso; omega
      refine R_iload_n dX11_halt_4 rfl (?_ : RR _ _ _ _ 5 _ _ _ _)
      refine R_aload_n dX11_halt_5 rfl (?_ : RR _ _ _ _ 6 _ _ _ _)
      refine R_getr dX11_halt_6 flX11_19 cok_11 rfl (by decide) (?_ : RR _ _ _ _ 9 _ _ _ _)
      refine R_geti (z := 0) dX11_halt_9 flX11_129 cok_0 rfl (by decide) rfl (fun q9 => (?_ : RR _ _ _ _ 12 _ _ _ _))
      rw [h3H] at q9 ⊢
      refine R_icmp_ge (t := 24) dX11_halt_12 rfl (fun c12 => ?_) (fun c12 => ?_)
      · exfalso; omega
      refine R_iload_n dX11_halt_15 rfl (?_ : RR _ _ _ _ 16 _ _ _ _)
      refine R_if_lt (t := 24) dX11_halt_16 rfl (fun c16 => ?_) (fun c16 => ?_)
      · exfalso; omega
      refine R_iload_n dX11_halt_19 rfl (?_ : RR _ _ _ _ 20 _ _ _ _)
      refine R_iconst dX11_halt_20 (?_ : RR _ _ _ _ 21 _ _ _ _)
      refine R_icmp_le (t := 34) dX11_halt_21 rfl (fun c21 => ?_) (fun c21 => ?_)
      rotate_left
      · exfalso; omega
      refine R_iload_n dX11_halt_34 rfl (?_ : RR _ _ _ _ 35 _ _ _ _)
      refine R_iconst dX11_halt_35 (?_ : RR _ _ _ _ 36 _ _ _ _)
      refine R_icmp_ge (t := 53) dX11_halt_36 rfl (fun c36 => ?_) (fun c36 => ?_)
      rotate_left
      · exfalso; omega
      refine R_iload_n dX11_halt_53 rfl (?_ : RR _ _ _ _ 54 _ _ _ _)
      refine R_iconst dX11_halt_54 (?_ : RR _ _ _ _ 55 _ _ _ _)
      refine R_icmp_ge (t := 74) dX11_halt_55 rfl (fun c55 => ?_) (fun c55 => ?_)
      · exfalso; omega
      refine R_aload_n dX11_halt_58 rfl (?_ : RR _ _ _ _ 59 _ _ _ _)
      refine R_getr dX11_halt_59 flX11_19 cok_11 rfl (by decide) (?_ : RR _ _ _ _ 62 _ _ _ _)
      refine R_getr dX11_halt_62 flX11_164 cok_0 rfl (by decide) (?_ : RR _ _ _ _ 65 _ _ _ _)
      refine R_iconst dX11_halt_65 (?_ : RR _ _ _ _ 66 _ _ _ _)
      refine R_iload_n dX11_halt_66 rfl (?_ : RR _ _ _ _ 67 _ _ _ _)
      refine R_imul dX11_halt_67 (?_ : RR _ _ _ _ 68 _ _ _ _)
      refine R_iload_n dX11_halt_68 rfl (?_ : RR _ _ _ _ 69 _ _ _ _)
      refine R_iadd dX11_halt_69 (?_ : RR _ _ _ _ 70 _ _ _ _)
      refine R_iconst dX11_halt_70 (?_ : RR _ _ _ _ 71 _ _ _ _)
      refine R_isub dX11_halt_71 (?_ : RR _ _ _ _ 72 _ _ _ _)
      refine R_iald dX11_halt_72 (fun q72 => (?_ : RR _ _ _ _ 73 _ _ _ _))
      exact R_ireturn dX11_halt_73 trivial hq
    · by_cases w4 : w = 4
      · have hT := T_X9_standingAt (h := h) (t := 14) (n := nc) (c := i) e2
        have hq := hq (bset (fun j => decide (h (14 + 2) j = -1 ∧ h (14 + 3) j = i)) nc : Nat) (by
          unfold hlZ
          rw [if_neg w1, if_neg w2, if_pos w4]
          congr 1
          refine bset_congr (fun j hj => ?_)
          have p1 := hcp.2.2.2.2.2.1 j hj
          have p2 := hcp.2.2.2.2.2.2.1 j hj
          have p3 := hcp.1.2.2.2.2.1 j hj
          apply decide_eq_decide.mpr
          rw [p1]
          constructor
          · intro q
            rw [p2 q.1] at q
            exact ⟨by omega, q.2⟩
          · intro q
            have : mP (h 154) j = -1 := by omega
            exact ⟨this, by rw [p2 this]; exact q.2⟩)
        subst w4
        generalize bset (fun j => decide (h (14 + 2) j = -1 ∧ h (14 + 3) j = i)) nc = B at *
        refine R_iload_n dX11_halt_0 rfl (?_ : RR _ _ _ _ 1 _ _ _ _)
        refine R_if_lt (t := 24) dX11_halt_1 rfl (fun c1 => ?_) (fun c1 => ?_)
        · exfalso; omega
        refine R_iload_n dX11_halt_4 rfl (?_ : RR _ _ _ _ 5 _ _ _ _)
        refine R_aload_n dX11_halt_5 rfl (?_ : RR _ _ _ _ 6 _ _ _ _)
        refine R_getr dX11_halt_6 flX11_19 cok_11 rfl (by decide) (?_ : RR _ _ _ _ 9 _ _ _ _)
        refine R_geti (z := 0) dX11_halt_9 flX11_129 cok_0 rfl (by decide) rfl (fun q9 => (?_ : RR _ _ _ _ 12 _ _ _ _))
        rw [h3H] at q9 ⊢
        refine R_icmp_ge (t := 24) dX11_halt_12 rfl (fun c12 => ?_) (fun c12 => ?_)
        · exfalso; omega
        refine R_iload_n dX11_halt_15 rfl (?_ : RR _ _ _ _ 16 _ _ _ _)
        refine R_if_lt (t := 24) dX11_halt_16 rfl (fun c16 => ?_) (fun c16 => ?_)
        · exfalso; omega
        refine R_iload_n dX11_halt_19 rfl (?_ : RR _ _ _ _ 20 _ _ _ _)
        refine R_iconst dX11_halt_20 (?_ : RR _ _ _ _ 21 _ _ _ _)
        refine R_icmp_le (t := 34) dX11_halt_21 rfl (fun c21 => ?_) (fun c21 => ?_)
        rotate_left
        · exfalso; omega
        refine R_iload_n dX11_halt_34 rfl (?_ : RR _ _ _ _ 35 _ _ _ _)
        refine R_iconst dX11_halt_35 (?_ : RR _ _ _ _ 36 _ _ _ _)
        refine R_icmp_ge (t := 53) dX11_halt_36 rfl (fun c36 => ?_) (fun c36 => ?_)
        rotate_left
        · exfalso; omega
        refine R_iload_n dX11_halt_53 rfl (?_ : RR _ _ _ _ 54 _ _ _ _)
        refine R_iconst dX11_halt_54 (?_ : RR _ _ _ _ 55 _ _ _ _)
        refine R_icmp_ge (t := 74) dX11_halt_55 rfl (fun c55 => ?_) (fun c55 => ?_)
        rotate_left
        · exfalso; omega
        refine R_iload_n dX11_halt_74 rfl (?_ : RR _ _ _ _ 75 _ _ _ _)
        refine R_iconst dX11_halt_75 (?_ : RR _ _ _ _ 76 _ _ _ _)
        refine R_icmp_ne (t := 88) dX11_halt_76 rfl (fun c76 => ?_) (fun c76 => ?_)
        · exfalso; omega
        refine R_aload_n dX11_halt_79 rfl (?_ : RR _ _ _ _ 80 _ _ _ _)
        refine R_getr dX11_halt_80 flX11_36 cok_11 rfl (by decide) (?_ : RR _ _ _ _ 83 _ _ _ _)
        refine R_iload_n dX11_halt_83 rfl (?_ : RR _ _ _ _ 84 _ _ _ _)
        refine R_cVi1 dX11_halt_84 mvX9_standingAt mlX11_167 (by decide) (by decide) (Nat.le_of_ble_eq_true rfl) (Nat.le_of_ble_eq_true rfl) (hT) (?_ : RR _ _ _ _ 87 _ _ _ _)
        exact R_ireturn dX11_halt_87 trivial hq
      · by_cases y : h 154 0 = i
        · have hq := hq 1 (by unfold hlZ; rw [if_neg w1, if_neg w2, if_neg w4, if_pos y])
          refine R_iload_n dX11_halt_0 rfl (?_ : RR _ _ _ _ 1 _ _ _ _)
          refine R_if_lt (t := 24) dX11_halt_1 rfl (fun c1 => ?_) (fun c1 => ?_)
          · exfalso; omega
          refine R_iload_n dX11_halt_4 rfl (?_ : RR _ _ _ _ 5 _ _ _ _)
          refine R_aload_n dX11_halt_5 rfl (?_ : RR _ _ _ _ 6 _ _ _ _)
          refine R_getr dX11_halt_6 flX11_19 cok_11 rfl (by decide) (?_ : RR _ _ _ _ 9 _ _ _ _)
          refine R_geti (z := 0) dX11_halt_9 flX11_129 cok_0 rfl (by decide) rfl (fun q9 => (?_ : RR _ _ _ _ 12 _ _ _ _))
          rw [h3H] at q9 ⊢
          refine R_icmp_ge (t := 24) dX11_halt_12 rfl (fun c12 => ?_) (fun c12 => ?_)
          · exfalso; omega
          refine R_iload_n dX11_halt_15 rfl (?_ : RR _ _ _ _ 16 _ _ _ _)
          refine R_if_lt (t := 24) dX11_halt_16 rfl (fun c16 => ?_) (fun c16 => ?_)
          · exfalso; omega
          refine R_iload_n dX11_halt_19 rfl (?_ : RR _ _ _ _ 20 _ _ _ _)
          refine R_iconst dX11_halt_20 (?_ : RR _ _ _ _ 21 _ _ _ _)
          refine R_icmp_le (t := 34) dX11_halt_21 rfl (fun c21 => ?_) (fun c21 => ?_)
          rotate_left
          · exfalso; omega
          refine R_iload_n dX11_halt_34 rfl (?_ : RR _ _ _ _ 35 _ _ _ _)
          refine R_iconst dX11_halt_35 (?_ : RR _ _ _ _ 36 _ _ _ _)
          refine R_icmp_ge (t := 53) dX11_halt_36 rfl (fun c36 => ?_) (fun c36 => ?_)
          rotate_left
          · exfalso; omega
          refine R_iload_n dX11_halt_53 rfl (?_ : RR _ _ _ _ 54 _ _ _ _)
          refine R_iconst dX11_halt_54 (?_ : RR _ _ _ _ 55 _ _ _ _)
          refine R_icmp_ge (t := 74) dX11_halt_55 rfl (fun c55 => ?_) (fun c55 => ?_)
          rotate_left
          · exfalso; omega
          refine R_iload_n dX11_halt_74 rfl (?_ : RR _ _ _ _ 75 _ _ _ _)
          refine R_iconst dX11_halt_75 (?_ : RR _ _ _ _ 76 _ _ _ _)
          refine R_icmp_ne (t := 88) dX11_halt_76 rfl (fun c76 => ?_) (fun c76 => ?_)
          rotate_left
          · exfalso; omega
          refine R_aload_n dX11_halt_88 rfl (?_ : RR _ _ _ _ 89 _ _ _ _)
          refine R_getr dX11_halt_89 flX11_36 cok_11 rfl (by decide) (?_ : RR _ _ _ _ 92 _ _ _ _)
          refine R_geti (z := 0) dX11_halt_92 flX11_171 cok_9 rfl (by decide) rfl (fun q92 => (?_ : RR _ _ _ _ 95 _ _ _ _))
          rw [e0] at q92 ⊢
          refine R_iload_n dX11_halt_95 rfl (?_ : RR _ _ _ _ 96 _ _ _ _)
          refine R_icmp_ne (t := 103) dX11_halt_96 rfl (fun c96 => ?_) (fun c96 => ?_)
          · exfalso; omega
          refine R_iconst dX11_halt_99 (?_ : RR _ _ _ _ 100 _ _ _ _)
          refine R_goto (t := 104) dX11_halt_100 rfl (?_ : RR _ _ _ _ 104 _ _ _ _)
          exact R_ireturn dX11_halt_104 trivial hq
        · have hq := hq 0 (by unfold hlZ; rw [if_neg w1, if_neg w2, if_neg w4, if_neg y])
          refine R_iload_n dX11_halt_0 rfl (?_ : RR _ _ _ _ 1 _ _ _ _)
          refine R_if_lt (t := 24) dX11_halt_1 rfl (fun c1 => ?_) (fun c1 => ?_)
          · exfalso; omega
          refine R_iload_n dX11_halt_4 rfl (?_ : RR _ _ _ _ 5 _ _ _ _)
          refine R_aload_n dX11_halt_5 rfl (?_ : RR _ _ _ _ 6 _ _ _ _)
          refine R_getr dX11_halt_6 flX11_19 cok_11 rfl (by decide) (?_ : RR _ _ _ _ 9 _ _ _ _)
          refine R_geti (z := 0) dX11_halt_9 flX11_129 cok_0 rfl (by decide) rfl (fun q9 => (?_ : RR _ _ _ _ 12 _ _ _ _))
          rw [h3H] at q9 ⊢
          refine R_icmp_ge (t := 24) dX11_halt_12 rfl (fun c12 => ?_) (fun c12 => ?_)
          · exfalso; omega
          refine R_iload_n dX11_halt_15 rfl (?_ : RR _ _ _ _ 16 _ _ _ _)
          refine R_if_lt (t := 24) dX11_halt_16 rfl (fun c16 => ?_) (fun c16 => ?_)
          · exfalso; omega
          refine R_iload_n dX11_halt_19 rfl (?_ : RR _ _ _ _ 20 _ _ _ _)
          refine R_iconst dX11_halt_20 (?_ : RR _ _ _ _ 21 _ _ _ _)
          refine R_icmp_le (t := 34) dX11_halt_21 rfl (fun c21 => ?_) (fun c21 => ?_)
          rotate_left
          · exfalso; omega
          refine R_iload_n dX11_halt_34 rfl (?_ : RR _ _ _ _ 35 _ _ _ _)
          refine R_iconst dX11_halt_35 (?_ : RR _ _ _ _ 36 _ _ _ _)
          refine R_icmp_ge (t := 53) dX11_halt_36 rfl (fun c36 => ?_) (fun c36 => ?_)
          rotate_left
          · exfalso; omega
          refine R_iload_n dX11_halt_53 rfl (?_ : RR _ _ _ _ 54 _ _ _ _)
          refine R_iconst dX11_halt_54 (?_ : RR _ _ _ _ 55 _ _ _ _)
          refine R_icmp_ge (t := 74) dX11_halt_55 rfl (fun c55 => ?_) (fun c55 => ?_)
          rotate_left
          · exfalso; omega
          refine R_iload_n dX11_halt_74 rfl (?_ : RR _ _ _ _ 75 _ _ _ _)
          refine R_iconst dX11_halt_75 (?_ : RR _ _ _ _ 76 _ _ _ _)
          refine R_icmp_ne (t := 88) dX11_halt_76 rfl (fun c76 => ?_) (fun c76 => ?_)
          rotate_left
          · exfalso; omega
          refine R_aload_n dX11_halt_88 rfl (?_ : RR _ _ _ _ 89 _ _ _ _)
          refine R_getr dX11_halt_89 flX11_36 cok_11 rfl (by decide) (?_ : RR _ _ _ _ 92 _ _ _ _)
          refine R_geti (z := 0) dX11_halt_92 flX11_171 cok_9 rfl (by decide) rfl (fun q92 => (?_ : RR _ _ _ _ 95 _ _ _ _))
          rw [e0] at q92 ⊢
          refine R_iload_n dX11_halt_95 rfl (?_ : RR _ _ _ _ 96 _ _ _ _)
          refine R_icmp_ne (t := 103) dX11_halt_96 rfl (fun c96 => ?_) (fun c96 => ?_)
          rotate_left
          · exfalso; omega
          refine R_iconst dX11_halt_103 (?_ : RR _ _ _ _ 104 _ _ _ _)
          exact R_ireturn dX11_halt_104 trivial hq
theorem M_haltA {i w : Int} (hs : SRx k h sem H np nc len) (e3 : ∀ a, 147 ≤ a → h3 a = h a) (hi : r32 i) (hw : r32 w) : RR mX12_halt 3 0 0 0 (pm_ent [pR 147, pI i, pI w] 3) [] (shp0, rf0, h3) (if (0 ≤ i ∧ i < H) ∧ 0 ≤ w ∧ w ≤ 5 then mq0 h3 (pI (hlZ h nc i w)) 0 else mq0 h3 (pI 0) 1) := by
  show RR _ _ _ _ _ [pR 147, pI i, pI w] _ _ _
  have x6 := sR6 hs
  have hH := sRH hs
  have r154 := isRw_154
  have h147 : h3 147 3 = H := by rw [e3 147 (by omega)]; exact hs.1.1
  have h4c : h3 147 4 = nc := by rw [e3 147 (by omega)]; exact hs.1.2.1
  obtain ⟨h5, h5e⟩ : ∃ h5, h5 = rup h3 147 (fup (h3 147) 0 0) := ⟨_, rfl⟩
  have f5 : ∀ a, 147 < a → h5 a = h a := fun a a1 => by rw [h5e, rup_n (by omega)]; exact e3 a (by omega)
  have j5 : ∀ j : Int, j ≠ 0 → h5 147 j = h3 147 j := fun j j1 => by rw [h5e, rup_s, fup_n j1]
  have hI := T_X12_isHalt (h := h5) (c := i) (by rw [j5 3 (by omega)]; omega) hi
  rw [j5 3 (by omega), h147] at hI
  have hIn := T_X12_in (h := h5) (v := w) (a := 0) (b := 5)
  have hR : mq0 h3 (pI 0) 1 (some (pI 0)) (shp0, rf0, rup h5 147 (fup (h5 147) 0 1)) := mq0_i 0 1 (by rw [h5e, rup_s, rup_rup, fup_fup])
  have hRf := T_X12_refuse (h := h5)
  by_cases q1 : 0 ≤ i ∧ i < H
  · rw [if_pos (by omega)] at hI
    by_cases q2 : 0 ≤ w ∧ w ≤ 5
    · rw [if_pos q2] at hIn
      rw [if_pos ⟨q1, q2⟩]
      have hq : ∀ z : Int, z = hlZ h nc i w → mq0 h3 (pI (hlZ h nc i w)) 0 (some (pI z)) (shp0, rf0, h5) := fun z hz => by rw [hz]; exact mq0_i _ 0 h5e
      generalize mq0 h3 (pI (hlZ h nc i w)) 0 = QQ at *
      have f149 := f5 149 (by omega)
      have f150 := f5 150 (by omega)
      have f154 := f5 154 (by omega)
      have hS := T_X12_standingAt (h := h5) (r := 154) (nc := nc) (c := i) (by rw [j5 4 (by omega)]; exact h4c)
      rw [f154] at hS
      have hw6 : w = 0 ∨ w = 1 ∨ w = 2 ∨ w = 3 ∨ w = 4 ∨ w = 5 := by omega
      clear hR hRf
      rcases hw6 with rfl | rfl | rfl | rfl | rfl | rfl
      · have hq := hq (h5 149 (2 * i + 0)) (by unfold hlZ; rw [if_pos (by omega), f149])
        refine R_aload_n dX12_halt_0 rfl (?_ : RR _ _ _ _ 1 _ _ _ _)
        refine R_iconst dX12_halt_1 (?_ : RR _ _ _ _ 2 _ _ _ _)
        refine R_puti (zk := 0) dX12_halt_2 flX12_106 cok_12 (by decide) (fun q hq => by cases hq; rfl) rfl (?_ : RR _ _ _ _ 5 _ _ _ _)
        rw [← h5e]
        refine R_aload_n dX12_halt_5 rfl (?_ : RR _ _ _ _ 6 _ _ _ _)
        refine R_iload_n dX12_halt_6 rfl (?_ : RR _ _ _ _ 7 _ _ _ _)
        refine R_cVi1 dX12_halt_7 mvX12_isHalt mlX12_306 (by decide) (by decide) (Nat.le_of_ble_eq_true rfl) (Nat.le_of_ble_eq_true rfl) (hI) (?_ : RR _ _ _ _ 10 _ _ _ _)
        refine R_if_eq (t := 25) dX12_halt_10 rfl (fun c10 => ?_) (fun c10 => ?_)
        · exfalso; omega
        refine R_iload_n dX12_halt_13 rfl (?_ : RR _ _ _ _ 14 _ _ _ _)
        refine R_i2l dX12_halt_14 (by first | assumption | omega) (?_ : RR _ _ _ _ 15 _ _ _ _)
        refine R_lconst (z := 0) dX12_halt_15 rfl (?_ : RR _ _ _ _ 16 _ _ _ _)
        refine R_ldc2 (z := 5) dX12_halt_16 klX12_309 (?_ : RR _ _ _ _ 19 _ _ _ _)
        refine R_cSi3 dX12_halt_19 msX12_in mlX12_120 (by decide) (Nat.le_of_ble_eq_true rfl) (Nat.le_of_ble_eq_true rfl) (hIn) (?_ : RR _ _ _ _ 22 _ _ _ _)
        refine R_if_ne (t := 30) dX12_halt_22 rfl (fun c22 => ?_) (fun c22 => ?_)
        rotate_left
        · exfalso; omega
        refine R_iload_n dX12_halt_30 rfl (?_ : RR _ _ _ _ 31 _ _ _ _)
        refine R_tabIn (t := 64) (off := 33) dX12_halt_31 (by omega) (by omega) rfl rfl (?_ : RR _ _ _ _ 64 _ _ _ _)
        refine R_aload_n dX12_halt_64 rfl (?_ : RR _ _ _ _ 65 _ _ _ _)
        refine R_getr dX12_halt_65 flX12_17 cok_12 rfl (by decide) (?_ : RR _ _ _ _ 68 _ _ _ _)
        refine R_iconst dX12_halt_68 (?_ : RR _ _ _ _ 69 _ _ _ _)
        refine R_iload_n dX12_halt_69 rfl (?_ : RR _ _ _ _ 70 _ _ _ _)
        refine R_imul dX12_halt_70 (?_ : RR _ _ _ _ 71 _ _ _ _)
        refine R_iload_n dX12_halt_71 rfl (?_ : RR _ _ _ _ 72 _ _ _ _)
        refine R_iadd dX12_halt_72 (?_ : RR _ _ _ _ 73 _ _ _ _)
        refine R_iald dX12_halt_73 (fun q73 => (?_ : RR _ _ _ _ 74 _ _ _ _))
        exact R_ireturn dX12_halt_74 trivial hq
      · have hq := hq (h5 149 (2 * i + 1)) (by unfold hlZ; rw [if_pos (by omega), f149])
        refine R_aload_n dX12_halt_0 rfl (?_ : RR _ _ _ _ 1 _ _ _ _)
        refine R_iconst dX12_halt_1 (?_ : RR _ _ _ _ 2 _ _ _ _)
        refine R_puti (zk := 0) dX12_halt_2 flX12_106 cok_12 (by decide) (fun q hq => by cases hq; rfl) rfl (?_ : RR _ _ _ _ 5 _ _ _ _)
        rw [← h5e]
        refine R_aload_n dX12_halt_5 rfl (?_ : RR _ _ _ _ 6 _ _ _ _)
        refine R_iload_n dX12_halt_6 rfl (?_ : RR _ _ _ _ 7 _ _ _ _)
        refine R_cVi1 dX12_halt_7 mvX12_isHalt mlX12_306 (by decide) (by decide) (Nat.le_of_ble_eq_true rfl) (Nat.le_of_ble_eq_true rfl) (hI) (?_ : RR _ _ _ _ 10 _ _ _ _)
        refine R_if_eq (t := 25) dX12_halt_10 rfl (fun c10 => ?_) (fun c10 => ?_)
        · exfalso; omega
        refine R_iload_n dX12_halt_13 rfl (?_ : RR _ _ _ _ 14 _ _ _ _)
        refine R_i2l dX12_halt_14 (by first | assumption | omega) (?_ : RR _ _ _ _ 15 _ _ _ _)
        refine R_lconst (z := 0) dX12_halt_15 rfl (?_ : RR _ _ _ _ 16 _ _ _ _)
        refine R_ldc2 (z := 5) dX12_halt_16 klX12_309 (?_ : RR _ _ _ _ 19 _ _ _ _)
        refine R_cSi3 dX12_halt_19 msX12_in mlX12_120 (by decide) (Nat.le_of_ble_eq_true rfl) (Nat.le_of_ble_eq_true rfl) (hIn) (?_ : RR _ _ _ _ 22 _ _ _ _)
        refine R_if_ne (t := 30) dX12_halt_22 rfl (fun c22 => ?_) (fun c22 => ?_)
        rotate_left
        · exfalso; omega
        refine R_iload_n dX12_halt_30 rfl (?_ : RR _ _ _ _ 31 _ _ _ _)
        refine R_tabIn (t := 64) (off := 33) dX12_halt_31 (by omega) (by omega) rfl rfl (?_ : RR _ _ _ _ 64 _ _ _ _)
        refine R_aload_n dX12_halt_64 rfl (?_ : RR _ _ _ _ 65 _ _ _ _)
        refine R_getr dX12_halt_65 flX12_17 cok_12 rfl (by decide) (?_ : RR _ _ _ _ 68 _ _ _ _)
        refine R_iconst dX12_halt_68 (?_ : RR _ _ _ _ 69 _ _ _ _)
        refine R_iload_n dX12_halt_69 rfl (?_ : RR _ _ _ _ 70 _ _ _ _)
        refine R_imul dX12_halt_70 (?_ : RR _ _ _ _ 71 _ _ _ _)
        refine R_iload_n dX12_halt_71 rfl (?_ : RR _ _ _ _ 72 _ _ _ _)
        refine R_iadd dX12_halt_72 (?_ : RR _ _ _ _ 73 _ _ _ _)
        refine R_iald dX12_halt_73 (fun q73 => (?_ : RR _ _ _ _ 74 _ _ _ _))
        exact R_ireturn dX12_halt_74 trivial hq
      · have hq := hq (h5 150 (2 * i + 2 - 2)) (by unfold hlZ; rw [if_neg (by omega), if_pos (by omega), f150])
        refine R_aload_n dX12_halt_0 rfl (?_ : RR _ _ _ _ 1 _ _ _ _)
        refine R_iconst dX12_halt_1 (?_ : RR _ _ _ _ 2 _ _ _ _)
        refine R_puti (zk := 0) dX12_halt_2 flX12_106 cok_12 (by decide) (fun q hq => by cases hq; rfl) rfl (?_ : RR _ _ _ _ 5 _ _ _ _)
        rw [← h5e]
        refine R_aload_n dX12_halt_5 rfl (?_ : RR _ _ _ _ 6 _ _ _ _)
        refine R_iload_n dX12_halt_6 rfl (?_ : RR _ _ _ _ 7 _ _ _ _)
        refine R_cVi1 dX12_halt_7 mvX12_isHalt mlX12_306 (by decide) (by decide) (Nat.le_of_ble_eq_true rfl) (Nat.le_of_ble_eq_true rfl) (hI) (?_ : RR _ _ _ _ 10 _ _ _ _)
        refine R_if_eq (t := 25) dX12_halt_10 rfl (fun c10 => ?_) (fun c10 => ?_)
        · exfalso; omega
        refine R_iload_n dX12_halt_13 rfl (?_ : RR _ _ _ _ 14 _ _ _ _)
        refine R_i2l dX12_halt_14 (by first | assumption | omega) (?_ : RR _ _ _ _ 15 _ _ _ _)
        refine R_lconst (z := 0) dX12_halt_15 rfl (?_ : RR _ _ _ _ 16 _ _ _ _)
        refine R_ldc2 (z := 5) dX12_halt_16 klX12_309 (?_ : RR _ _ _ _ 19 _ _ _ _)
        refine R_cSi3 dX12_halt_19 msX12_in mlX12_120 (by decide) (Nat.le_of_ble_eq_true rfl) (Nat.le_of_ble_eq_true rfl) (hIn) (?_ : RR _ _ _ _ 22 _ _ _ _)
        refine R_if_ne (t := 30) dX12_halt_22 rfl (fun c22 => ?_) (fun c22 => ?_)
        rotate_left
        · exfalso; omega
        refine R_iload_n dX12_halt_30 rfl (?_ : RR _ _ _ _ 31 _ _ _ _)
        refine R_tabIn (t := 75) (off := 44) dX12_halt_31 (by omega) (by omega) rfl rfl (?_ : RR _ _ _ _ 75 _ _ _ _)
        refine R_aload_n dX12_halt_75 rfl (?_ : RR _ _ _ _ 76 _ _ _ _)
        refine R_getr dX12_halt_76 flX12_21 cok_12 rfl (by decide) (?_ : RR _ _ _ _ 79 _ _ _ _)
        refine R_iconst dX12_halt_79 (?_ : RR _ _ _ _ 80 _ _ _ _)
        refine R_iload_n dX12_halt_80 rfl (?_ : RR _ _ _ _ 81 _ _ _ _)
        refine R_imul dX12_halt_81 (?_ : RR _ _ _ _ 82 _ _ _ _)
        refine R_iload_n dX12_halt_82 rfl (?_ : RR _ _ _ _ 83 _ _ _ _)
        refine R_iadd dX12_halt_83 (?_ : RR _ _ _ _ 84 _ _ _ _)
        refine R_iconst dX12_halt_84 (?_ : RR _ _ _ _ 85 _ _ _ _)
        refine R_isub dX12_halt_85 (?_ : RR _ _ _ _ 86 _ _ _ _)
        refine R_iald dX12_halt_86 (fun q86 => (?_ : RR _ _ _ _ 87 _ _ _ _))
        exact R_ireturn dX12_halt_87 trivial hq
      · have hq := hq (h5 150 (2 * i + 3 - 2)) (by unfold hlZ; rw [if_neg (by omega), if_pos (by omega), f150])
        refine R_aload_n dX12_halt_0 rfl (?_ : RR _ _ _ _ 1 _ _ _ _)
        refine R_iconst dX12_halt_1 (?_ : RR _ _ _ _ 2 _ _ _ _)
        refine R_puti (zk := 0) dX12_halt_2 flX12_106 cok_12 (by decide) (fun q hq => by cases hq; rfl) rfl (?_ : RR _ _ _ _ 5 _ _ _ _)
        rw [← h5e]
        refine R_aload_n dX12_halt_5 rfl (?_ : RR _ _ _ _ 6 _ _ _ _)
        refine R_iload_n dX12_halt_6 rfl (?_ : RR _ _ _ _ 7 _ _ _ _)
        refine R_cVi1 dX12_halt_7 mvX12_isHalt mlX12_306 (by decide) (by decide) (Nat.le_of_ble_eq_true rfl) (Nat.le_of_ble_eq_true rfl) (hI) (?_ : RR _ _ _ _ 10 _ _ _ _)
        refine R_if_eq (t := 25) dX12_halt_10 rfl (fun c10 => ?_) (fun c10 => ?_)
        · exfalso; omega
        refine R_iload_n dX12_halt_13 rfl (?_ : RR _ _ _ _ 14 _ _ _ _)
        refine R_i2l dX12_halt_14 (by first | assumption | omega) (?_ : RR _ _ _ _ 15 _ _ _ _)
        refine R_lconst (z := 0) dX12_halt_15 rfl (?_ : RR _ _ _ _ 16 _ _ _ _)
        refine R_ldc2 (z := 5) dX12_halt_16 klX12_309 (?_ : RR _ _ _ _ 19 _ _ _ _)
        refine R_cSi3 dX12_halt_19 msX12_in mlX12_120 (by decide) (Nat.le_of_ble_eq_true rfl) (Nat.le_of_ble_eq_true rfl) (hIn) (?_ : RR _ _ _ _ 22 _ _ _ _)
        refine R_if_ne (t := 30) dX12_halt_22 rfl (fun c22 => ?_) (fun c22 => ?_)
        rotate_left
        · exfalso; omega
        refine R_iload_n dX12_halt_30 rfl (?_ : RR _ _ _ _ 31 _ _ _ _)
        refine R_tabIn (t := 75) (off := 44) dX12_halt_31 (by omega) (by omega) rfl rfl (?_ : RR _ _ _ _ 75 _ _ _ _)
        refine R_aload_n dX12_halt_75 rfl (?_ : RR _ _ _ _ 76 _ _ _ _)
        refine R_getr dX12_halt_76 flX12_21 cok_12 rfl (by decide) (?_ : RR _ _ _ _ 79 _ _ _ _)
        refine R_iconst dX12_halt_79 (?_ : RR _ _ _ _ 80 _ _ _ _)
        refine R_iload_n dX12_halt_80 rfl (?_ : RR _ _ _ _ 81 _ _ _ _)
        refine R_imul dX12_halt_81 (?_ : RR _ _ _ _ 82 _ _ _ _)
        refine R_iload_n dX12_halt_82 rfl (?_ : RR _ _ _ _ 83 _ _ _ _)
        refine R_iadd dX12_halt_83 (?_ : RR _ _ _ _ 84 _ _ _ _)
        refine R_iconst dX12_halt_84 (?_ : RR _ _ _ _ 85 _ _ _ _)
        refine R_isub dX12_halt_85 (?_ : RR _ _ _ _ 86 _ _ _ _)
        refine R_iald dX12_halt_86 (fun q86 => (?_ : RR _ _ _ _ 87 _ _ _ _))
        exact R_ireturn dX12_halt_87 trivial hq
      · have hq := hq (bset (fun j => decide (mP (h 154) j < 0 ∧ mA (h 154) j = i)) nc : Nat) (by unfold hlZ; rw [if_neg (by omega), if_neg (by omega), if_pos rfl])
        generalize bset (fun j => decide (mP (h 154) j < 0 ∧ mA (h 154) j = i)) nc = B at *
        refine R_aload_n dX12_halt_0 rfl (?_ : RR _ _ _ _ 1 _ _ _ _)
        refine R_iconst dX12_halt_1 (?_ : RR _ _ _ _ 2 _ _ _ _)
        refine R_puti (zk := 0) dX12_halt_2 flX12_106 cok_12 (by decide) (fun q hq => by cases hq; rfl) rfl (?_ : RR _ _ _ _ 5 _ _ _ _)
        rw [← h5e]
        refine R_aload_n dX12_halt_5 rfl (?_ : RR _ _ _ _ 6 _ _ _ _)
        refine R_iload_n dX12_halt_6 rfl (?_ : RR _ _ _ _ 7 _ _ _ _)
        refine R_cVi1 dX12_halt_7 mvX12_isHalt mlX12_306 (by decide) (by decide) (Nat.le_of_ble_eq_true rfl) (Nat.le_of_ble_eq_true rfl) (hI) (?_ : RR _ _ _ _ 10 _ _ _ _)
        refine R_if_eq (t := 25) dX12_halt_10 rfl (fun c10 => ?_) (fun c10 => ?_)
        · exfalso; omega
        refine R_iload_n dX12_halt_13 rfl (?_ : RR _ _ _ _ 14 _ _ _ _)
        refine R_i2l dX12_halt_14 (by first | assumption | omega) (?_ : RR _ _ _ _ 15 _ _ _ _)
        refine R_lconst (z := 0) dX12_halt_15 rfl (?_ : RR _ _ _ _ 16 _ _ _ _)
        refine R_ldc2 (z := 5) dX12_halt_16 klX12_309 (?_ : RR _ _ _ _ 19 _ _ _ _)
        refine R_cSi3 dX12_halt_19 msX12_in mlX12_120 (by decide) (Nat.le_of_ble_eq_true rfl) (Nat.le_of_ble_eq_true rfl) (hIn) (?_ : RR _ _ _ _ 22 _ _ _ _)
        refine R_if_ne (t := 30) dX12_halt_22 rfl (fun c22 => ?_) (fun c22 => ?_)
        rotate_left
        · exfalso; omega
        refine R_iload_n dX12_halt_30 rfl (?_ : RR _ _ _ _ 31 _ _ _ _)
        refine R_tabIn (t := 88) (off := 57) dX12_halt_31 (by omega) (by omega) rfl rfl (?_ : RR _ _ _ _ 88 _ _ _ _)
        refine R_aload_n dX12_halt_88 rfl (?_ : RR _ _ _ _ 89 _ _ _ _)
        refine R_aload_n dX12_halt_89 rfl (?_ : RR _ _ _ _ 90 _ _ _ _)
        refine R_getr dX12_halt_90 flX12_33 cok_12 rfl (by decide) (?_ : RR _ _ _ _ 93 _ _ _ _)
        refine R_iload_n dX12_halt_93 rfl (?_ : RR _ _ _ _ 94 _ _ _ _)
        refine R_cVi2 dX12_halt_94 mvX12_standingAt mlX12_314 (by decide) (by decide) (Nat.le_of_ble_eq_true rfl) (Nat.le_of_ble_eq_true rfl) (hS) (?_ : RR _ _ _ _ 97 _ _ _ _)
        exact R_ireturn dX12_halt_97 trivial hq
      · have e0 : h5 154 0 = h 154 0 := by rw [f154]
        by_cases y : h 154 0 = i
        · have hq := hq 1 (by unfold hlZ; rw [if_neg (by omega), if_neg (by omega), if_neg (by omega), if_pos y])
          refine R_aload_n dX12_halt_0 rfl (?_ : RR _ _ _ _ 1 _ _ _ _)
          refine R_iconst dX12_halt_1 (?_ : RR _ _ _ _ 2 _ _ _ _)
          refine R_puti (zk := 0) dX12_halt_2 flX12_106 cok_12 (by decide) (fun q hq => by cases hq; rfl) rfl (?_ : RR _ _ _ _ 5 _ _ _ _)
          rw [← h5e]
          refine R_aload_n dX12_halt_5 rfl (?_ : RR _ _ _ _ 6 _ _ _ _)
          refine R_iload_n dX12_halt_6 rfl (?_ : RR _ _ _ _ 7 _ _ _ _)
          refine R_cVi1 dX12_halt_7 mvX12_isHalt mlX12_306 (by decide) (by decide) (Nat.le_of_ble_eq_true rfl) (Nat.le_of_ble_eq_true rfl) (hI) (?_ : RR _ _ _ _ 10 _ _ _ _)
          refine R_if_eq (t := 25) dX12_halt_10 rfl (fun c10 => ?_) (fun c10 => ?_)
          · exfalso; omega
          refine R_iload_n dX12_halt_13 rfl (?_ : RR _ _ _ _ 14 _ _ _ _)
          refine R_i2l dX12_halt_14 (by first | assumption | omega) (?_ : RR _ _ _ _ 15 _ _ _ _)
          refine R_lconst (z := 0) dX12_halt_15 rfl (?_ : RR _ _ _ _ 16 _ _ _ _)
          refine R_ldc2 (z := 5) dX12_halt_16 klX12_309 (?_ : RR _ _ _ _ 19 _ _ _ _)
          refine R_cSi3 dX12_halt_19 msX12_in mlX12_120 (by decide) (Nat.le_of_ble_eq_true rfl) (Nat.le_of_ble_eq_true rfl) (hIn) (?_ : RR _ _ _ _ 22 _ _ _ _)
          refine R_if_ne (t := 30) dX12_halt_22 rfl (fun c22 => ?_) (fun c22 => ?_)
          rotate_left
          · exfalso; omega
          refine R_iload_n dX12_halt_30 rfl (?_ : RR _ _ _ _ 31 _ _ _ _)
          refine R_tabOut (t := 98) dX12_halt_31 rfl (by omega) (?_ : RR _ _ _ _ 98 _ _ _ _)
          refine R_aload_n dX12_halt_98 rfl (?_ : RR _ _ _ _ 99 _ _ _ _)
          refine R_getr dX12_halt_99 flX12_33 cok_12 rfl (by decide) (?_ : RR _ _ _ _ 102 _ _ _ _)
          refine R_iconst dX12_halt_102 (?_ : RR _ _ _ _ 103 _ _ _ _)
          refine R_iald dX12_halt_103 (fun q103 => (?_ : RR _ _ _ _ 104 _ _ _ _))
          rw [e0] at q103 ⊢
          refine R_iload_n dX12_halt_104 rfl (?_ : RR _ _ _ _ 105 _ _ _ _)
          refine R_icmp_ne (t := 112) dX12_halt_105 rfl (fun c105 => ?_) (fun c105 => ?_)
          · exfalso; omega
          refine R_iconst dX12_halt_108 (?_ : RR _ _ _ _ 109 _ _ _ _)
          refine R_goto (t := 113) dX12_halt_109 rfl (?_ : RR _ _ _ _ 113 _ _ _ _)
          refine R_cSi1 dX12_halt_113 msX12_flag mlX12_134 (by decide) (Nat.le_of_ble_eq_true rfl) (Nat.le_of_ble_eq_true rfl) (T_X12_flag (Or.inr rfl)) (?_ : RR _ _ _ _ 116 _ _ _ _)
          exact R_ireturn dX12_halt_116 trivial hq
        · have hq := hq 0 (by unfold hlZ; rw [if_neg (by omega), if_neg (by omega), if_neg (by omega), if_neg y])
          refine R_aload_n dX12_halt_0 rfl (?_ : RR _ _ _ _ 1 _ _ _ _)
          refine R_iconst dX12_halt_1 (?_ : RR _ _ _ _ 2 _ _ _ _)
          refine R_puti (zk := 0) dX12_halt_2 flX12_106 cok_12 (by decide) (fun q hq => by cases hq; rfl) rfl (?_ : RR _ _ _ _ 5 _ _ _ _)
          rw [← h5e]
          refine R_aload_n dX12_halt_5 rfl (?_ : RR _ _ _ _ 6 _ _ _ _)
          refine R_iload_n dX12_halt_6 rfl (?_ : RR _ _ _ _ 7 _ _ _ _)
          refine R_cVi1 dX12_halt_7 mvX12_isHalt mlX12_306 (by decide) (by decide) (Nat.le_of_ble_eq_true rfl) (Nat.le_of_ble_eq_true rfl) (hI) (?_ : RR _ _ _ _ 10 _ _ _ _)
          refine R_if_eq (t := 25) dX12_halt_10 rfl (fun c10 => ?_) (fun c10 => ?_)
          · exfalso; omega
          refine R_iload_n dX12_halt_13 rfl (?_ : RR _ _ _ _ 14 _ _ _ _)
          refine R_i2l dX12_halt_14 (by first | assumption | omega) (?_ : RR _ _ _ _ 15 _ _ _ _)
          refine R_lconst (z := 0) dX12_halt_15 rfl (?_ : RR _ _ _ _ 16 _ _ _ _)
          refine R_ldc2 (z := 5) dX12_halt_16 klX12_309 (?_ : RR _ _ _ _ 19 _ _ _ _)
          refine R_cSi3 dX12_halt_19 msX12_in mlX12_120 (by decide) (Nat.le_of_ble_eq_true rfl) (Nat.le_of_ble_eq_true rfl) (hIn) (?_ : RR _ _ _ _ 22 _ _ _ _)
          refine R_if_ne (t := 30) dX12_halt_22 rfl (fun c22 => ?_) (fun c22 => ?_)
          rotate_left
          · exfalso; omega
          refine R_iload_n dX12_halt_30 rfl (?_ : RR _ _ _ _ 31 _ _ _ _)
          refine R_tabOut (t := 98) dX12_halt_31 rfl (by omega) (?_ : RR _ _ _ _ 98 _ _ _ _)
          refine R_aload_n dX12_halt_98 rfl (?_ : RR _ _ _ _ 99 _ _ _ _)
          refine R_getr dX12_halt_99 flX12_33 cok_12 rfl (by decide) (?_ : RR _ _ _ _ 102 _ _ _ _)
          refine R_iconst dX12_halt_102 (?_ : RR _ _ _ _ 103 _ _ _ _)
          refine R_iald dX12_halt_103 (fun q103 => (?_ : RR _ _ _ _ 104 _ _ _ _))
          rw [e0] at q103 ⊢
          refine R_iload_n dX12_halt_104 rfl (?_ : RR _ _ _ _ 105 _ _ _ _)
          refine R_icmp_ne (t := 112) dX12_halt_105 rfl (fun c105 => ?_) (fun c105 => ?_)
          rotate_left
          · exfalso; omega
          refine R_iconst dX12_halt_112 (?_ : RR _ _ _ _ 113 _ _ _ _)
          refine R_cSi1 dX12_halt_113 msX12_flag mlX12_134 (by decide) (Nat.le_of_ble_eq_true rfl) (Nat.le_of_ble_eq_true rfl) (T_X12_flag (Or.inl rfl)) (?_ : RR _ _ _ _ 116 _ _ _ _)
          exact R_ireturn dX12_halt_116 trivial hq
    · rw [if_neg q2] at hIn
      rw [if_neg (fun w => q2 w.2)]
      generalize mq0 h3 (pI 0) 1 = QQ at *
      refine R_aload_n dX12_halt_0 rfl (?_ : RR _ _ _ _ 1 _ _ _ _)
      refine R_iconst dX12_halt_1 (?_ : RR _ _ _ _ 2 _ _ _ _)
      refine R_puti (zk := 0) dX12_halt_2 flX12_106 cok_12 (by decide) (fun q hq => by cases hq; rfl) rfl (?_ : RR _ _ _ _ 5 _ _ _ _)
      rw [← h5e]
      refine R_aload_n dX12_halt_5 rfl (?_ : RR _ _ _ _ 6 _ _ _ _)
      refine R_iload_n dX12_halt_6 rfl (?_ : RR _ _ _ _ 7 _ _ _ _)
      refine R_cVi1 dX12_halt_7 mvX12_isHalt mlX12_306 (by decide) (by decide) (Nat.le_of_ble_eq_true rfl) (Nat.le_of_ble_eq_true rfl) (hI) (?_ : RR _ _ _ _ 10 _ _ _ _)
      refine R_if_eq (t := 25) dX12_halt_10 rfl (fun c10 => ?_) (fun c10 => ?_)
      · exfalso; omega
      refine R_iload_n dX12_halt_13 rfl (?_ : RR _ _ _ _ 14 _ _ _ _)
      refine R_i2l dX12_halt_14 (by first | assumption | omega) (?_ : RR _ _ _ _ 15 _ _ _ _)
      refine R_lconst (z := 0) dX12_halt_15 rfl (?_ : RR _ _ _ _ 16 _ _ _ _)
      refine R_ldc2 (z := 5) dX12_halt_16 klX12_309 (?_ : RR _ _ _ _ 19 _ _ _ _)
      refine R_cSi3 dX12_halt_19 msX12_in mlX12_120 (by decide) (Nat.le_of_ble_eq_true rfl) (Nat.le_of_ble_eq_true rfl) (hIn) (?_ : RR _ _ _ _ 22 _ _ _ _)
      refine R_if_ne (t := 30) dX12_halt_22 rfl (fun c22 => ?_) (fun c22 => ?_)
      · exfalso; omega
      refine R_aload_n dX12_halt_25 rfl (?_ : RR _ _ _ _ 26 _ _ _ _)
      refine R_cVi0 dX12_halt_26 mvX12_refuse mlX12_311 (by decide) (by decide) (Nat.le_of_ble_eq_true rfl) (Nat.le_of_ble_eq_true rfl) (hRf) (?_ : RR _ _ _ _ 29 _ _ _ _)
      exact R_ireturn dX12_halt_29 trivial hR
  · rw [if_neg (by omega)] at hI
    rw [if_neg (fun w => q1 w.1)]
    generalize mq0 h3 (pI 0) 1 = QQ at *
    refine R_aload_n dX12_halt_0 rfl (?_ : RR _ _ _ _ 1 _ _ _ _)
    refine R_iconst dX12_halt_1 (?_ : RR _ _ _ _ 2 _ _ _ _)
    refine R_puti (zk := 0) dX12_halt_2 flX12_106 cok_12 (by decide) (fun q hq => by cases hq; rfl) rfl (?_ : RR _ _ _ _ 5 _ _ _ _)
    rw [← h5e]
    refine R_aload_n dX12_halt_5 rfl (?_ : RR _ _ _ _ 6 _ _ _ _)
    refine R_iload_n dX12_halt_6 rfl (?_ : RR _ _ _ _ 7 _ _ _ _)
    refine R_cVi1 dX12_halt_7 mvX12_isHalt mlX12_306 (by decide) (by decide) (Nat.le_of_ble_eq_true rfl) (Nat.le_of_ble_eq_true rfl) (hI) (?_ : RR _ _ _ _ 10 _ _ _ _)
    refine R_if_eq (t := 25) dX12_halt_10 rfl (fun c10 => ?_) (fun c10 => ?_)
    rotate_left
    · exfalso; omega
    refine R_aload_n dX12_halt_25 rfl (?_ : RR _ _ _ _ 26 _ _ _ _)
    refine R_cVi0 dX12_halt_26 mvX12_refuse mlX12_311 (by decide) (by decide) (Nat.le_of_ble_eq_true rfl) (Nat.le_of_ble_eq_true rfl) (hRf) (?_ : RR _ _ _ _ 29 _ _ _ _)
    exact R_ireturn dX12_halt_29 trivial hR
end LKS
