section CCL
variable {k : Nat} {h h1 h2 h3 h4 : Nat → Int → Int} {sem : Sem} {H np nc len : Nat} {v : Int} {X : Cx}
def clF (h h1 : Nat → Int → Int) : Prop := (∀ a, ¬ ((7 ≤ a ∧ a ≤ 10) ∨ (24 ≤ a ∧ a ≤ 28) ∨ a = 31 ∨ a = 35 ∨ (37 ≤ a ∧ a ≤ 43)) → h1 a = h a) ∧ bnd (h1 10) ∧ exB (h1 8) ∧ miB (h1 9)
theorem clF_tr (hF : clF h h1) (hT : trF h1 h2) : clF h h2 := ⟨fun a q => (hT a (by omega)).trans (hF.1 a (by omega)), by rw [hT 10 (by omega)]; exact hF.2.1, by rw [hT 8 (by omega)]; exact hF.2.2.1, by rw [hT 9 (by omega)]; exact hF.2.2.2⟩
/-- the spare net with one exit shut -/
def shN (h : Nat → Int → Int) (H : Nat) (e : Int) : Nat → Int → Int := rup (rup (rup (rup h 7 (fup (h 7) 0 H)) 8 (fup (cpy (h 4) (h 8) 18) e (-1))) 9 (fup (cpy (h 5) (h 9) 18) e 0)) 10 (wAll H (fup (cpy (h 4) (h 8) 18) e (-1)) (fup (cpy (h 5) (h 9) 18) e 0) (h 10))
theorem cpy_in {f g : Int → Int} {i : Int} (q : 0 ≤ i ∧ i < 18) : cpy f g 18 i = f i := if_pos (by omega)
theorem shN_n {e : Int} {a : Nat} (q : ¬ (7 ≤ a ∧ a ≤ 10)) : shN h H e a = h a := by
  unfold shN
  rw [rup_n (by omega), rup_n (by omega), rup_n (by omega), rup_n (by omega)]
theorem shN_8 {e : Int} : shN h H e 8 = fup (cpy (h 4) (h 8) 18) e (-1) := by
  unfold shN
  rw [rup_n (by omega), rup_n (by omega), rup_s]
theorem shN_9 {e : Int} : shN h H e 9 = fup (cpy (h 5) (h 9) 18) e 0 := by
  unfold shN
  rw [rup_n (by omega), rup_s]
theorem shN_10 {e : Int} : shN h H e 10 = wAll H (shN h H e 8) (shN h H e 9) (h 10) := by
  rw [shN_8, shN_9]
  unfold shN
  rw [rup_s]
theorem sh_co {e : Nat} (hs : SRx k h sem H np nc len) (hF : clF h h1) (he : e < 2 * H) : CO (clX sem h np nc H e) H (shN h1 H e) 7 24 29 ∧ bnd (shN h1 H e 10) ∧ exB (shN h1 H e 8) ∧ miB (shN h1 H e 9) := by
  obtain ⟨o1, o2, o3, o4, o5, o6, o7, o8, o9⟩ : xOK (cxM sem h np nc) H := hs.1.2.2.2.2.1
  obtain ⟨hE, hD⟩ := hs.1.2.2.2.2.2.1
  obtain ⟨c1, c2, c3, c4, c5, c6, ⟨t1, t2, t3⟩, c8, c9, c10, c11⟩ := hs.1.2.2.2.2.2.2.1
  have o5 : exB (h 149) := o5
  have o6 : miB (h 150) := o6
  have o7 : farB (h 151) := o7
  have c4 : exB (h 4) := c4
  have c5 : miB (h 5) := c5
  have e4 : h1 4 = h 4 := hF.1 4 (by omega)
  have e5 : h1 5 = h 5 := hF.1 5 (by omega)
  have b8 : exB (cpy (h1 4) (h1 8) 18) := fun z z0 z1 => by rw [cpy_in (by omega), e4]; exact c4 z z0 z1
  have b9 : miB (cpy (h1 5) (h1 9) 18) := fun z z0 z1 => by rw [cpy_in (by omega), e5]; exact c5 z z0 z1
  have B8 : exB (shN h1 H e 8) := by rw [shN_8]; exact exB_s b8
  have B9 : miB (shN h1 H e 9) := by rw [shN_9]; exact miB_s b9
  have q8 : ∀ z : Int, 0 ≤ z → z < 2 * H → shN h1 H e 8 z = fup (h 149) e (-1) z := fun z z0 z1 => by
    rw [shN_8]
    by_cases q : z = e
    · rw [q, fup_s, fup_s]
    · rw [fup_n q, fup_n q, cpy_in (by omega), e4]
      exact (c1.1 z z0 z1).1
  have q9 : ∀ z : Int, 0 ≤ z → z < 2 * H → shN h1 H e 9 z = fup (h 150) e 0 z := fun z z0 z1 => by
    rw [shN_9]
    by_cases q : z = e
    · rw [q, fup_s, fup_s]
    · rw [fup_n q, fup_n q, cpy_in (by omega), e5]
      exact (c1.1 z z0 z1).2
  have hEs := exK_s (e := (e : Int)) hE
  have hE8 : exK H (shN h1 H e 8) (shN h1 H e 9) := fun z z0 z1 => by
    rw [q8 z z0 z1, q9 z z0 z1]
    by_cases q : z = e
    · rw [q, fup_s]; exact Or.inl rfl
    · rw [fup_n q, fup_n q]; exact hE z z0 z1
  have hG := wAll_G (f := h1 10) o2 hE8 hF.2.1 B8 B9
  rw [← shN_10] at hG
  have hG2 : wyG H (fup (h 149) e (-1)) (h 150) (shN h1 H e 10) := wyG_c hG (fun z z0 z1 => (q8 z z0 z1).symm) (fun z z0 z1 z2 => by
    rw [q9 z z0 z1]
    by_cases q : z = e
    · rw [q8 z z0 z1, q, fup_s] at z2; exact absurd rfl z2
    · rw [fup_n q])
  have fr : ∀ a, ¬ (7 ≤ a ∧ a ≤ 10) → ¬ ((24 ≤ a ∧ a ≤ 28) ∨ a = 31 ∨ a = 35 ∨ (37 ≤ a ∧ a ≤ 43)) → shN h1 H e a = h a := fun a q1 q2 => by
    rw [shN_n q1]; exact hF.1 a (by omega)
  have hCO : CO (clX sem h np nc H e) H (shN h1 H e) 7 24 29 := by
    refine ⟨⟨fun z z0 z1 => ⟨q8 z z0 z1, q9 z z0 z1⟩, fun a b a0 a1 b0 b1 => ?_⟩, ?_, ?_, B8, B9, hG.1, ⟨isTr_24, isNet_7, t3⟩, by omega, by omega, by omega, by omega⟩
    · exact nds_fP (hG.1 _ (by omega) (by omega)) (lAll_eq o2 hEs hG2 a b a0 a1 b0 b1)
    · unfold RidC
      rw [fr 11 (by omega) (by omega), fr 12 (by omega) (by omega), fr 13 (by omega) (by omega)]
      exact c2
    · unfold ruOK
      rw [fr 29 (by omega) (by omega), fr (29 + 1) (by omega) (by omega)]
      exact c3
  exact ⟨hCO, hG.1, B8, B9⟩
theorem sh_tri {e : Nat} (hs : SRx k h sem H np nc len) (hF : clF h h1) (he : e < 2 * H) : Cpl (clX sem h np nc H e) H (trC (shN h1 H e) 24 14) 24 (h 154) len ∧ Cpl (clX sem h np nc H e) H (trC (shN h1 H e) 24 14) 14 (h 154) len ∧ CO (clX sem h np nc H e) H (trC (shN h1 H e) 24 14) 7 24 29 ∧ (trC (shN h1 H e) 24 14 29 4 = 0 → noN sem) ∧ clF h (trC (shN h1 H e) 24 14) := by
  obtain ⟨k1, k2, k3, k4⟩ := sh_co hs hF he
  have hc : Cpl (clX sem h np nc H e) H (shN h1 H e) 14 (h 154) len := Cpl_fr hs.2.2.2.1.1 (fun a a1 a2 => by rw [shN_n (by omega)]; exact hF.1 a (by omega))
  refine ⟨Cpl_cp (sR6 hs) (sR12 hs) hc, Cpl_fr hc (fun a a1 a2 => trC_n (by omega)), CO_f k1 (fun a q => trC_n (by omega)), ?_, fun a q => ?_, ?_, ?_, ?_⟩
  · rw [trC_n (by omega), shN_n (by omega), hF.1 29 (by omega)]; exact hs.1.2.2.2.2.2.2.2.2.2.1
  · rw [trC_n (by omega), shN_n (by omega)]; exact hF.1 a (by omega)
  · rw [trC_n (by omega)]; exact k2
  · rw [trC_n (by omega)]; exact k3
  · rw [trC_n (by omega)]; exact k4
theorem C_cl {e m : Nat} (hs : SRx k h sem H np nc len) (hk : k ≤ 1000) (hF : clF h h1) (he : e < 2 * H) (hm : m ≤ 60) : RR mX11_outMoreIn 6 0 0 0 (pm_ent [pR 0, pI m, pR 7, pR 29, pI 0] 5) [] (shp0, rf0, trC (shN h1 H e) 24 14) (fun r' g' => r' = some (pI (clV sem h np nc H m e)) ∧ ∃ h', g' = (shp0, rf0, h') ∧ clF h h') := by
  obtain ⟨k1, k2, k3, k4, k5⟩ := sh_tri hs hF he
  have hn := hs.2.2.2.1.2.1
  refine RR.post (C_outMoreIn (m := m) (bh := 0) (clX_ok hs) k3 k1 k2 (by omega) (by omega) hm k4) (fun r' g' q => ?_)
  obtain ⟨rfl, h', l', rfl, hf, hc⟩ := q
  rw [clX_it]
  exact ⟨rfl, h', rfl, clF_tr k5 (fun a q => hf a (by omega) (by omega) (by omega) (by omega) (by omega) (by omega) (by omega))⟩
/-- a call that only looks, but for the spare net -/
def cQ7 (h : Nat → Int → Int) (z : Int) (L : List Int) (r' : Option PV) (g' : PH) : Prop := ∃ h1, g' = (shp0, rf0, h1) ∧ r' = some (pI z) ∧ (∀ a, ¬ (7 ≤ a ∧ a ≤ 10) → ¬ (a = 0 ∨ (19 ≤ a ∧ a ≤ 28) ∨ a = 31 ∨ (34 ≤ a ∧ a ≤ 43) ∨ (140 ≤ a ∧ a ≤ 146)) → h1 a = h a) ∧ (bnd (h1 10) ∧ exB (h1 8) ∧ miB (h1 9)) ∧ tC L h1
theorem SR_7 (hs : SR k h) (e : ∀ a, ¬ (7 ≤ a ∧ a ≤ 10) → h1 a = h a) (hb : bnd (h1 10) ∧ exB (h1 8) ∧ miB (h1 9)) : SR k h1 := by
  obtain ⟨sem, H, np, nc, len, ⟨b1, b2, b3, b4, b5, b6, b7, b8, b9, b10, b11⟩, ha, hd, ⟨u1, u2, u3, ⟨U, x, u4, u5, u6, u7, u8, u9⟩, u10, u11⟩, hss, hsp⟩ := hs
  have eX : cxM sem h1 np nc = cxM sem h np nc := cxM_fr (fun a a1 a2 => e a (by omega))
  have e147 : h1 147 = h 147 := e 147 (by omega)
  refine ⟨sem, H, np, nc, len, ⟨?_, ?_, ?_, ?_, ?_, ?_, ?_, ?_, ?_, ?_, b11⟩, ?_, ?_, ⟨?_, ?_, ?_, ⟨U, x, ?_, ?_, u6, ?_, u8, fun j hj => ?_⟩, ?_, fun i hi => ?_⟩, ?_, ?_⟩
  · rw [e147]; exact b1
  · rw [e147]; exact b2
  · rw [e147]; exact b3
  · rw [e 3 (by omega)]; exact b4
  · rw [eX]; exact b5
  · rw [e 149 (by omega), e 150 (by omega), e 151 (by omega)]; exact b6
  · rw [eX]; exact CO_f b7 (fun a q => e a (by omega))
  · exact mrOK_fr b8 (by rw [e147]) (e 158 (by omega))
  · rw [e 29 (by omega)]; exact b9
  · rw [e 29 (by omega)]; exact b10
  · unfold SA; rw [e 1 (by omega), e147, e 2 (by omega), e 156 (by omega)]; exact ha
  · unfold SD; rw [e 145 (by omega), e147, e 146 (by omega), e 148 (by omega)]; exact hd
  · rw [eX, e 154 (by omega)]
    exact Cpl_fr u1 (fun a a1 a2 => e a (by omega))
  · rw [e 154 (by omega)]; exact u2
  · rw [e 154 (by omega), e 155 (by omega)]; exact u3
  · rw [e 44 (by omega)]; exact u4
  · rw [e147]; exact u5
  · rw [e 44 (by omega)]; exact u7
  · obtain ⟨l, c1, c2⟩ := u9 j hj
    rw [eX, e 163 (by omega)]
    exact ⟨l, Cpl_fr c1 (fun a a1 a2 => e a (by omega)), c2⟩
  · rw [e147]; exact u10
  · obtain ⟨v1, v2, v3, v4, v5⟩ := u11 i hi
    rw [eX, e 47 (by omega), e 175 (by omega), e 176 (by omega), e 177 (by omega), e147]
    refine ⟨v1, v2, v3, v4, fun q => ?_⟩
    obtain ⟨l, c1, c2⟩ := v5 q
    exact ⟨l, Cpl_fr c1 (fun a a1 a2 => e a (by omega)), c2⟩
  · unfold SS
    rw [e 138 (by omega), e 139 (by omega), e 170 (by omega), e 171 (by omega), e 172 (by omega), e147]
    exact hss
  · obtain ⟨p1, p2, p3⟩ := hsp
    exact ⟨hb, by rw [e 32 (by omega)]; exact p2, by rw [e147]; exact p3⟩
theorem A_q7 {Mc Mm : PMt} {dc dm : Nat} {As : List PV} {z : Int} {L : List Int} (hs : SRx k h sem H np nc len)
    (hcls : RR Mc dc 0 0 0 (pm_ent (pR 0 :: As) Mc.2.2.1) [] (shp0, rf0, h) (cQ7 h z L))
    (hmod : ∀ h3 : Nat → Int → Int, (∀ a, 147 ≤ a → h3 a = h a) → RR Mm dm 0 0 0 (pm_ent (pR 147 :: As) Mm.2.2.1) [] (shp0, rf0, h3) (mQ h3 z (some L))) (ho : L.length ≤ 12) : AG Mc Mm dc dm As k h := by
  refine RR.post hcls (fun r' g' q => ?_)
  obtain ⟨h1, rfl, rfl, c1, c2, c3⟩ := q
  refine ⟨h1, rfl, RR.post (hmod h1 (fun a ha => c1 a (by omega) (by omega))) (fun r'' g'' q => ?_)⟩
  obtain ⟨h4, rfl, rfl, m1, m2⟩ := q
  have key : SR (k + 1) (fun a => if 7 ≤ a ∧ a ≤ 10 then h a else h4 a) := SR_q (h1 := fun a => if 7 ≤ a ∧ a ≤ 10 then h a else h1 a) hs (fun a q => by
    dsimp only
    split
    · rfl
    · rename_i y; exact c1 a y q) ⟨fun a q => by
    dsimp only
    split
    · rfl
    · exact m1.1 a q, fun j q => m1.2.1 j q, m1.2.2.1, m1.2.2.2⟩ (SD_L ho (h3 := h1) c3 m2 (m1.1 145 (by omega)) (m1.1 146 (by omega)))
  refine ⟨rfl, h4, rfl, SR_7 key (fun a q => by rw [if_neg q]) ?_⟩
  rw [m1.1 10 (by omega), m1.1 8 (by omega), m1.1 9 (by omega)]
  exact c2
theorem C_close {m : Nat} {F : Int × Int} (hs : SRx k h sem H np nc len) (hk : k ≤ 1000) (hm : 1 ≤ m ∧ m ≤ 12) (hF9 : F = it (clS (clV sem h np nc H m)) (clB sem h np nc m, -3) (2 * H)) : RR mX11_close 7 0 0 0 (pm_ent [pR 0, pI m] 6) [] (shp0, rf0, h) (cQ7 h F.2 [F.1]) := by
  have n3 := isNet_3
  have n7 := isNet_7
  have t14 := isTr_14
  have t24 := isTr_24
  have hX := hs.1.2.2.2.2.1
  have hH9 : H ≤ 9 := hX.2.1
  have h3H : h 3 0 = H := hs.1.2.2.2.1
  have hn := hs.2.2.2.1.2.1
  have bS := clS_b (b := clB sem h np nc m) (V := clV sem h np nc H m) (clB_b hs) (fun e => clV_b hs)
  have hB := clB_b (m := m) hs
  obtain ⟨V, hV⟩ : ∃ V, V = clV sem h np nc H m := ⟨_, rfl⟩
  obtain ⟨B, hBe⟩ : ∃ B, B = clB sem h np nc m := ⟨_, rfl⟩
  rw [← hV, ← hBe] at bS hF9
  rw [← hBe] at hB
  have hVb : ∀ e : Int, 0 ≤ V e ∧ V e ≤ 12 := fun e => by rw [hV]; exact clV_b hs
  show RR _ _ _ _ _ [pR 0, pI m, pU, pU, pU, pU] _ _ _
  have L : ∀ (j e : Nat) (h1 : Nat → Int → Int) (w5 : PV), e + j = 2 * H → clF h h1 → RR mX11_close 7 0 0 45 [pR 0, pI m, pI (it (clS V) (B, -3) e).1, pI (it (clS V) (B, -3) e).2, pI e, w5] [] (shp0, rf0, h1) (cQ7 h F.2 [F.1]) := by
    intro j
    induction j with
    | zero =>
      intro e h1 w5 he hF
      obtain rfl : e = 2 * H := by omega
      have g3 : h1 3 0 = H := by rw [hF.1 3 (by omega)]; exact h3H
      have bp := bS (2 * H)
      rw [← hF9] at bp ⊢
      have hq : cQ7 h F.2 [F.1] (some (pI F.2)) (shp0, rf0, tlR h1 [F.1]) := ⟨_, rfl, rfl, fun a q1 q2 => by rw [tlR_n (by omega) (by omega)]; exact hF.1 a (by omega), by rw [tlR_n (by omega) (by omega), tlR_n (by omega) (by omega), tlR_n (by omega) (by omega)]; exact hF.2, tlR_C rfl⟩
      refine R_iload dX11_close_45 rfl (?_ : RR _ _ _ _ 47 _ _ _ _)
      refine R_iconst dX11_close_47 (?_ : RR _ _ _ _ 48 _ _ _ _)
      refine R_aload_n dX11_close_48 rfl (?_ : RR _ _ _ _ 49 _ _ _ _)
      refine R_getr dX11_close_49 flX11_19 cok_11 rfl (by decide) (?_ : RR _ _ _ _ 52 _ _ _ _)
      refine R_geti (z := 0) dX11_close_52 flX11_129 cok_0 rfl (by decide) rfl (fun q52 => (?_ : RR _ _ _ _ 55 _ _ _ _))
      rw [g3] at q52 ⊢
      refine R_imul dX11_close_55 (?_ : RR _ _ _ _ 56 _ _ _ _)
      refine R_icmp_ge (t := 124) dX11_close_56 rfl (fun c56 => ?_) (fun c56 => ?_)
      rotate_left
      · exfalso; omega
      refine R_aload_n dX11_close_124 rfl (?_ : RR _ _ _ _ 125 _ _ _ _)
      refine R_getr dX11_close_125 flX11_87 cok_11 rfl (by decide) (?_ : RR _ _ _ _ 128 _ _ _ _)
      refine R_cVv0 dX11_close_128 mvX3_clear mlX11_239 (by decide) (by decide) (Nat.le_of_ble_eq_true rfl) (Nat.le_of_ble_eq_true rfl) (T_tlc) (?_ : RR _ _ _ _ 131 _ _ _ _)
      refine R_aload_n dX11_close_131 rfl (?_ : RR _ _ _ _ 132 _ _ _ _)
      refine R_getr dX11_close_132 flX11_87 cok_11 rfl (by decide) (?_ : RR _ _ _ _ 135 _ _ _ _)
      refine R_iload_n dX11_close_135 rfl (?_ : RR _ _ _ _ 136 _ _ _ _)
      refine R_i2l dX11_close_136 (by first | assumption | omega) (?_ : RR _ _ _ _ 137 _ _ _ _)
      refine R_cVv1 dX11_close_137 mvX3_add mlX11_243 (by decide) (by decide) (Nat.le_of_ble_eq_true rfl) (Nat.le_of_ble_eq_true rfl) (T_tla (by simp) (by omega)) (?_ : RR _ _ _ _ 140 _ _ _ _)
      refine R_iload_n dX11_close_140 rfl (?_ : RR _ _ _ _ 141 _ _ _ _)
      exact R_ireturn dX11_close_141 trivial hq
    | succ j ih =>
      intro e h1 w5 he hF
      have g3 : h1 3 0 = H := by rw [hF.1 3 (by omega)]; exact h3H
      have bp := bS e
      have hve := hVb e
      have hpo := C_cl (e := e) (m := m) hs hk hF (by omega) (by omega)
      rw [← hV] at hpo
      have IH := fun h1 w5 hF => ih (e + 1) h1 w5 (by omega) hF
      rw [show it (clS V) (B, -3) (e + 1) = clS V e (it (clS V) (B, -3) e) from rfl] at IH
      generalize it (clS V) (B, -3) e = s at bp IH ⊢
      have K : ∀ h2 : Nat → Int → Int, clF h h2 → RR mX11_close 7 0 0 106 [pR 0, pI m, pI s.1, pI s.2, pI e, pI (V e)] [] (shp0, rf0, h2) (cQ7 h F.2 [F.1]) := by
        intro h2 hF2
        have IH2 := fun w5 => IH h2 w5 hF2
        unfold clS at IH2
        by_cases u : s.1 < V e
        · rw [if_pos u] at IH2
          refine R_iload dX11_close_106 rfl (?_ : RR _ _ _ _ 108 _ _ _ _)
          refine R_iload_n dX11_close_108 rfl (?_ : RR _ _ _ _ 109 _ _ _ _)
          refine R_icmp_le (t := 118) dX11_close_109 rfl (fun c109 => ?_) (fun c109 => ?_)
          · exfalso; omega
          refine R_iload dX11_close_112 rfl (?_ : RR _ _ _ _ 114 _ _ _ _)
          refine R_istore_n dX11_close_114 (Nat.le_of_ble_eq_true rfl) (?_ : RR _ _ _ _ 115 [_, _, _, _, _, _] _ _ _)
          refine R_iload dX11_close_115 rfl (?_ : RR _ _ _ _ 117 _ _ _ _)
          refine R_istore_n dX11_close_117 (Nat.le_of_ble_eq_true rfl) (?_ : RR _ _ _ _ 118 [_, _, _, _, _, _] _ _ _)
          refine R_iinc dX11_close_118 rfl (Nat.le_of_ble_eq_true rfl) (?_ : RR _ _ _ _ 121 [_, _, _, _, _, _] _ _ _)
          refine R_goto (t := 45) dX11_close_121 rfl (?_ : RR _ _ _ _ 45 _ _ _ _)
          exact IH2 _
        · rw [if_neg u] at IH2
          refine R_iload dX11_close_106 rfl (?_ : RR _ _ _ _ 108 _ _ _ _)
          refine R_iload_n dX11_close_108 rfl (?_ : RR _ _ _ _ 109 _ _ _ _)
          refine R_icmp_le (t := 118) dX11_close_109 rfl (fun c109 => ?_) (fun c109 => ?_)
          rotate_left
          · exfalso; omega
          refine R_iinc dX11_close_118 rfl (Nat.le_of_ble_eq_true rfl) (?_ : RR _ _ _ _ 121 [_, _, _, _, _, _] _ _ _)
          refine R_goto (t := 45) dX11_close_121 rfl (?_ : RR _ _ _ _ 45 _ _ _ _)
          exact IH2 _
      have c8 := (sh_co (e := e) hs hF (by omega)).1
      have hcE : exB (h1 4) := by rw [hF.1 4 (by omega)]; exact hs.1.2.2.2.2.2.2.1.2.2.2.1
      have hcM : miB (h1 5) := by rw [hF.1 5 (by omega)]; exact hs.1.2.2.2.2.2.2.1.2.2.2.2.1
      have hcp := T_X0_copyFrom (t := 7) (o := 3) (h := h1)
      rw [g3] at hcp
      have hsh := T_X0_shut (t := 7) (H := H) (e := e) (h := rup (rup (rup h1 7 (fup (h1 7) 0 H)) (7 + 1) (cpy (h1 (3 + 1)) (h1 (7 + 1)) 18)) (7 + 2) (cpy (h1 (3 + 2)) (h1 (7 + 2)) 18)) (by simp (disch := omega) only [rup_n, rup_s, fup_s]) (by
        simp (disch := omega) only [rup_n, rup_s]
        exact fun z z0 z1 => by rw [cpy_in (by omega)]; exact hcE z z0 z1) (by
        simp (disch := omega) only [rup_n, rup_s]
        exact fun z z0 z1 => by rw [cpy_in (by omega)]; exact hcM z z0 z1) (by
        simp (disch := omega) only [rup_n]
        exact hF.2.1)
      have hsh2 : MT mX0_shut 3 [pR 7, pI e] (rup (rup (rup h1 7 (fup (h1 7) 0 H)) (7 + 1) (cpy (h1 (3 + 1)) (h1 (7 + 1)) 18)) (7 + 2) (cpy (h1 (3 + 2)) (h1 (7 + 2)) 18)) none (shN h1 H e) := by
        refine Eq.mp (congrArg (fun z => MT mX0_shut 3 [pR 7, pI e] _ none z) ?_) hsh
        unfold shN
        simp (disch := omega) only [rup_n, rup_s, rup_rup, rup_sort, rupS_def]
      refine R_iload dX11_close_45 rfl (?_ : RR _ _ _ _ 47 _ _ _ _)
      refine R_iconst dX11_close_47 (?_ : RR _ _ _ _ 48 _ _ _ _)
      refine R_aload_n dX11_close_48 rfl (?_ : RR _ _ _ _ 49 _ _ _ _)
      refine R_getr dX11_close_49 flX11_19 cok_11 rfl (by decide) (?_ : RR _ _ _ _ 52 _ _ _ _)
      refine R_geti (z := 0) dX11_close_52 flX11_129 cok_0 rfl (by decide) rfl (fun q52 => (?_ : RR _ _ _ _ 55 _ _ _ _))
      rw [g3] at q52 ⊢
      refine R_imul dX11_close_55 (?_ : RR _ _ _ _ 56 _ _ _ _)
      refine R_icmp_ge (t := 124) dX11_close_56 rfl (fun c56 => ?_) (fun c56 => ?_)
      · exfalso; omega
      refine R_aload_n dX11_close_59 rfl (?_ : RR _ _ _ _ 60 _ _ _ _)
      refine R_getr dX11_close_60 flX11_23 cok_11 rfl (by decide) (?_ : RR _ _ _ _ 63 _ _ _ _)
      refine R_aload_n dX11_close_63 rfl (?_ : RR _ _ _ _ 64 _ _ _ _)
      refine R_getr dX11_close_64 flX11_19 cok_11 rfl (by decide) (?_ : RR _ _ _ _ 67 _ _ _ _)
      refine R_cVv1 dX11_close_67 mvX0_copyFrom mlX11_106 (by decide) (by decide) (Nat.le_of_ble_eq_true rfl) (Nat.le_of_ble_eq_true rfl) (hcp) (?_ : RR _ _ _ _ 70 _ _ _ _)
      refine R_aload_n dX11_close_70 rfl (?_ : RR _ _ _ _ 71 _ _ _ _)
      refine R_getr dX11_close_71 flX11_23 cok_11 rfl (by decide) (?_ : RR _ _ _ _ 74 _ _ _ _)
      refine R_iload dX11_close_74 rfl (?_ : RR _ _ _ _ 76 _ _ _ _)
      refine R_cVv1 dX11_close_76 mvX0_shut mlX11_355 (by decide) (by decide) (Nat.le_of_ble_eq_true rfl) (Nat.le_of_ble_eq_true rfl) (hsh2) (?_ : RR _ _ _ _ 79 _ _ _ _)
      refine R_aload_n dX11_close_79 rfl (?_ : RR _ _ _ _ 80 _ _ _ _)
      refine R_getr dX11_close_80 flX11_43 cok_11 rfl (by decide) (?_ : RR _ _ _ _ 83 _ _ _ _)
      refine R_aload_n dX11_close_83 rfl (?_ : RR _ _ _ _ 84 _ _ _ _)
      refine R_getr dX11_close_84 flX11_36 cok_11 rfl (by decide) (?_ : RR _ _ _ _ 87 _ _ _ _)
      refine R_cVv1 dX11_close_87 mvX9_copyFrom mlX11_231 (by decide) (by decide) (Nat.le_of_ble_eq_true rfl) (Nat.le_of_ble_eq_true rfl) (T_X9_copyFrom) (?_ : RR _ _ _ _ 90 _ _ _ _)
      refine R_aload_n dX11_close_90 rfl (?_ : RR _ _ _ _ 91 _ _ _ _)
      refine R_iload_n dX11_close_91 rfl (?_ : RR _ _ _ _ 92 _ _ _ _)
      refine R_aload_n dX11_close_92 rfl (?_ : RR _ _ _ _ 93 _ _ _ _)
      refine R_getr dX11_close_93 flX11_23 cok_11 rfl (by decide) (?_ : RR _ _ _ _ 96 _ _ _ _)
      refine R_aload_n dX11_close_96 rfl (?_ : RR _ _ _ _ 97 _ _ _ _)
      refine R_getr dX11_close_97 flX11_49 cok_11 rfl (by decide) (?_ : RR _ _ _ _ 100 _ _ _ _)
      refine R_iconst dX11_close_100 (?_ : RR _ _ _ _ 101 _ _ _ _)
      refine R_qV4 dX11_close_101 mvX11_outMoreIn mlX11_308 (by decide) (by decide) (Nat.le_of_ble_eq_true rfl) (Nat.le_of_ble_eq_true rfl) (hpo) (fun r9 g9 hq9 => (?_ : RR _ _ _ _ 104 _ _ _ _))
      obtain ⟨rfl, h5, rfl, hf5⟩ := hq9
      show RR _ _ _ _ _ _ [pI (V e)] _ _
      refine R_istore dX11_close_104 (Nat.le_of_ble_eq_true rfl) (?_ : RR _ _ _ _ 106 [_, _, _, _, _, _] _ _ _)
      exact K h5 hf5
  obtain ⟨k1, k2, k3, k4⟩ := tri hs
  have hpo := C_outMoreIn (m := m) (bh := 0) hX k3 k1 k2 (by omega) (by omega) (by omega) k4
  rw [show (oMn (cxM sem h np nc) (xIt (cxM sem h np nc) 0 m (h 154)) : Int) - oMn (cxM sem h np nc) (h 154) = B by rw [hBe]; rfl] at hpo
  have L0 := fun h1 hF => L (2 * H) 0 h1 pU (by omega) hF
  refine R_iload_n dX11_close_0 rfl (?_ : RR _ _ _ _ 1 _ _ _ _)
  refine R_iconst dX11_close_1 (?_ : RR _ _ _ _ 2 _ _ _ _)
  refine R_icmp_lt (t := 11) dX11_close_2 rfl (fun c2 => ?_) (fun c2 => ?_)
  · exfalso; omega
  refine R_iload_n dX11_close_5 rfl (?_ : RR _ _ _ _ 6 _ _ _ _)
  refine R_bipush dX11_close_6 rfl (?_ : RR _ _ _ _ 8 _ _ _ _)
  refine R_icmp_le (t := 13) dX11_close_8 rfl (fun c8 => ?_) (fun c8 => ?_)
  rotate_left
  · exfalso; omega
  refine R_aload_n dX11_close_13 rfl (?_ : RR _ _ _ _ 14 _ _ _ _)
  refine R_getr dX11_close_14 flX11_43 cok_11 rfl (by decide) (?_ : RR _ _ _ _ 17 _ _ _ _)
  refine R_aload_n dX11_close_17 rfl (?_ : RR _ _ _ _ 18 _ _ _ _)
  refine R_getr dX11_close_18 flX11_36 cok_11 rfl (by decide) (?_ : RR _ _ _ _ 21 _ _ _ _)
  refine R_cVv1 dX11_close_21 mvX9_copyFrom mlX11_231 (by decide) (by decide) (Nat.le_of_ble_eq_true rfl) (Nat.le_of_ble_eq_true rfl) (T_X9_copyFrom) (?_ : RR _ _ _ _ 24 _ _ _ _)
  refine R_aload_n dX11_close_24 rfl (?_ : RR _ _ _ _ 25 _ _ _ _)
  refine R_iload_n dX11_close_25 rfl (?_ : RR _ _ _ _ 26 _ _ _ _)
  refine R_aload_n dX11_close_26 rfl (?_ : RR _ _ _ _ 27 _ _ _ _)
  refine R_getr dX11_close_27 flX11_19 cok_11 rfl (by decide) (?_ : RR _ _ _ _ 30 _ _ _ _)
  refine R_aload_n dX11_close_30 rfl (?_ : RR _ _ _ _ 31 _ _ _ _)
  refine R_getr dX11_close_31 flX11_49 cok_11 rfl (by decide) (?_ : RR _ _ _ _ 34 _ _ _ _)
  refine R_iconst dX11_close_34 (?_ : RR _ _ _ _ 35 _ _ _ _)
  refine R_qV4 dX11_close_35 mvX11_outMoreIn mlX11_308 (by decide) (by decide) (Nat.le_of_ble_eq_true rfl) (Nat.le_of_ble_eq_true rfl) (hpo) (fun r9 g9 hq9 => (?_ : RR _ _ _ _ 38 _ _ _ _))
  obtain ⟨rfl, h2, len2, rfl, hf2, hc2⟩ := hq9
  show RR _ _ _ _ _ _ [pI B] _ _
  refine R_istore_n dX11_close_38 (Nat.le_of_ble_eq_true rfl) (?_ : RR _ _ _ _ 39 [_, _, _, _, _, _] _ _ _)
  refine R_bipush dX11_close_39 rfl (?_ : RR _ _ _ _ 41 _ _ _ _)
  refine R_istore_n dX11_close_41 (Nat.le_of_ble_eq_true rfl) (?_ : RR _ _ _ _ 42 [_, _, _, _, _, _] _ _ _)
  refine R_iconst dX11_close_42 (?_ : RR _ _ _ _ 43 _ _ _ _)
  refine R_istore dX11_close_43 (Nat.le_of_ble_eq_true rfl) (?_ : RR _ _ _ _ 45 [_, _, _, _, _, _] _ _ _)
  exact L0 h2 (clF_tr ⟨fun _ _ => rfl, hs.2.2.2.2.2.1⟩ (trF_on trF_rf hf2))
end CCL
