theorem R_qV6 {M M2 : PMt} {d d2 pc idx : Nat} {ls st : List PV} {Q Q2 : Option PV → PH → Prop} {h : Nat → Int → Int} {x1 x2 x3 x4 x5 x6 : PV} {a ci n0 : Nat} (hd : decode M.2.1 pc = .ok (.invokevirtual idx, 3)) (hm : pm_mv M2 ci 6) (hlk : Cond.methodLink M.1.cls idx M2.1 ∈ tblG) (hl : ci < 50) (hdd : d2 + 1 ≤ d) (hcat : pm_cat st ≤ 8) (hlen : (pm_sl (pR a :: [x1, x2, x3, x4, x5, x6])).length ≤ M2.2.2.1) (hcall : RR M2 d2 0 0 0 (pm_ent (pR a :: [x1, x2, x3, x4, x5, x6]) M2.2.2.1) [] (shp0, rf0, h) Q2) (kk : ∀ r g', Q2 r g' → RR M d 0 0 (pc + 3) ls (r.toList ++ st) g' Q) (hc : shp0[a]? = some (ci, n0) := by first | assumption | rfl) : RR M d 0 0 pc ls (x6 :: x5 :: x4 :: x3 :: x2 :: x1 :: pR a :: st) (shp0, rf0, h) Q :=
  R_callV (kc := 0) (ks := 0) (kc2 := 0) (ks2 := 0) (As := [x1, x2, x3, x4, x5, x6]) hd hm hlk rfl rfl hcat hlen hdd hl hc hcall (fun r g' q _ => kk r g' q)
/-! calls that only look: an answer, and (or not) a row -/
def tC (L : List Int) (h : Nat → Int → Int) : Prop := h 145 1 = (L.length : Int) ∧ ∀ i : Nat, i < L.length → h 146 i = L.getD i 0
def tM (L : List Int) (h : Nat → Int → Int) : Prop := h 147 1 = (L.length : Int) ∧ ∀ i : Nat, i < L.length → h 148 i = L.getD i 0
def tCo (h : Nat → Int → Int) (o : Option (List Int)) (h3 : Nat → Int → Int) : Prop := match o with
  | none => h3 145 = h 145 ∧ h3 146 = h 146
  | some L => tC L h3
def tMo (h : Nat → Int → Int) (o : Option (List Int)) (h4 : Nat → Int → Int) : Prop := match o with
  | none => h4 147 1 = h 147 1 ∧ h4 148 = h 148
  | some L => tM L h4
def cQ (h : Nat → Int → Int) (z : Int) (o : Option (List Int)) (r' : Option PV) (g' : PH) : Prop := ∃ h1, g' = (shp0, rf0, h1) ∧ r' = some (pI z) ∧ cqF h h1 ∧ tCo h o h1
def mQ (h : Nat → Int → Int) (z : Int) (o : Option (List Int)) (r' : Option PV) (g' : PH) : Prop := ∃ h4, g' = (shp0, rf0, h4) ∧ r' = some (pI z) ∧ mqF h h4 ∧ tMo h o h4
section QU
variable {k : Nat} {h h3 h4 : Nat → Int → Int} {sem : Sem} {H np nc len : Nat}
theorem tC_1 {a : Int} (e : h 145 1 = 1) (e0 : h 146 0 = a) : tC [a] h := ⟨e, fun i hi => by
  obtain rfl : i = 0 := by simp at hi; omega
  exact e0⟩
theorem tC_2 {a b : Int} (e : h 145 1 = 2) (e0 : h 146 0 = a) (e1 : h 146 1 = b) : tC [a, b] h := ⟨e, fun i hi => by
  have : i = 0 ∨ i = 1 := by simp at hi; omega
  rcases this with rfl | rfl
  · exact e0
  · exact e1⟩
theorem tC_3 {a b c : Int} (e : h 145 1 = 3) (e0 : h 146 0 = a) (e1 : h 146 1 = b) (e2 : h 146 2 = c) : tC [a, b, c] h := ⟨e, fun i hi => by
  have : i = 0 ∨ i = 1 ∨ i = 2 := by simp at hi; omega
  rcases this with rfl | rfl | rfl
  · exact e0
  · exact e1
  · exact e2⟩
theorem tC_4 {a b c d : Int} (e : h 145 1 = 4) (e0 : h 146 0 = a) (e1 : h 146 1 = b) (e2 : h 146 2 = c) (e3 : h 146 3 = d) : tC [a, b, c, d] h := ⟨e, fun i hi => by
  have : i = 0 ∨ i = 1 ∨ i = 2 ∨ i = 3 := by simp at hi; omega
  rcases this with rfl | rfl | rfl | rfl
  · exact e0
  · exact e1
  · exact e2
  · exact e3⟩
theorem tM_1 {a : Int} (e : h 147 1 = 1) (e0 : h 148 0 = a) : tM [a] h := ⟨e, fun i hi => by
  obtain rfl : i = 0 := by simp at hi; omega
  exact e0⟩
theorem tM_2 {a b : Int} (e : h 147 1 = 2) (e0 : h 148 0 = a) (e1 : h 148 1 = b) : tM [a, b] h := ⟨e, fun i hi => by
  have : i = 0 ∨ i = 1 := by simp at hi; omega
  rcases this with rfl | rfl
  · exact e0
  · exact e1⟩
theorem tM_3 {a b c : Int} (e : h 147 1 = 3) (e0 : h 148 0 = a) (e1 : h 148 1 = b) (e2 : h 148 2 = c) : tM [a, b, c] h := ⟨e, fun i hi => by
  have : i = 0 ∨ i = 1 ∨ i = 2 := by simp at hi; omega
  rcases this with rfl | rfl | rfl
  · exact e0
  · exact e1
  · exact e2⟩
theorem tM_4 {a b c d : Int} (e : h 147 1 = 4) (e0 : h 148 0 = a) (e1 : h 148 1 = b) (e2 : h 148 2 = c) (e3 : h 148 3 = d) : tM [a, b, c, d] h := ⟨e, fun i hi => by
  have : i = 0 ∨ i = 1 ∨ i = 2 ∨ i = 3 := by simp at hi; omega
  rcases this with rfl | rfl | rfl | rfl
  · exact e0
  · exact e1
  · exact e2
  · exact e3⟩
theorem SD_L {L : List Int} (hL : L.length ≤ 12) (c : tC L h3) (m : tM L h4) (e1 : h4 145 = h3 145) (e2 : h4 146 = h3 146) : SD h4 := ⟨L.length, by rw [e1]; exact c.1, m.1, hL, fun i hi => by rw [e2, c.2 i hi, m.2 i hi]⟩
theorem A_q {Mc Mm : PMt} {dc dm : Nat} {As : List PV} {z : Int} {o : Option (List Int)} (hs : SRx k h sem H np nc len)
    (hcls : RR Mc dc 0 0 0 (pm_ent (pR 0 :: As) Mc.2.2.1) [] (shp0, rf0, h) (cQ h z o))
    (hmod : ∀ h3 : Nat → Int → Int, (∀ a, 147 ≤ a → h3 a = h a) → RR Mm dm 0 0 0 (pm_ent (pR 147 :: As) Mm.2.2.1) [] (shp0, rf0, h3) (mQ h3 z o)) (ho : ∀ L, o = some L → L.length ≤ 12) : AG Mc Mm dc dm As k h := by
  refine RR.post hcls (fun r' g' q => ?_)
  obtain ⟨h1, rfl, rfl, c1, c2⟩ := q
  refine ⟨h1, rfl, RR.post (hmod h1 (fun a ha => c1 a (by omega))) (fun r'' g'' q => ?_)⟩
  obtain ⟨h4, rfl, rfl, m1, m2⟩ := q
  refine ⟨rfl, h4, rfl, SR_q hs c1 m1 ?_⟩
  have e145 := m1.1 145 (by omega)
  have e146 := m1.1 146 (by omega)
  cases o with
  | none => exact SD_same hs.2.2.1 (by rw [e145, c2.1]) (by rw [m2.1, c1 147 (by omega)]) (e146.trans c2.2) (m2.2.trans (c1 148 (by omega)))
  | some L => exact SD_L (ho L rfl) c2 m2 e145 e146
/-- a refusal: nothing but 'thrown' -/
theorem mQ_thr {z : Int} {M : PMt} {d : Nat} {As : List PV} (hm : MT M d As h (some (pI z)) (rup h 147 (fup (h 147) 0 0))) : RR M d 0 0 0 (pm_ent As M.2.2.1) [] (shp0, rf0, h) (mQ h z none) := RR.post hm (fun r' g' q => by
  obtain ⟨rfl, rfl⟩ := q
  exact ⟨_, rfl, rfl, ⟨fun a q => by rw [rup_n (by omega)], fun j q => by rw [rup_s, fup_n (by omega)], fun q => by rw [rup_s, fup_n (by omega)]; exact q, fun j q => by rw [rup_n (by omega)]⟩, by rw [rup_s, fup_n (by omega)], by rw [rup_n (by omega)]⟩)
theorem cQ_no {z : Int} {M : PMt} {d : Nat} {As : List PV} (hm : MT M d As h (some (pI z)) h) : RR M d 0 0 0 (pm_ent As M.2.2.1) [] (shp0, rf0, h) (cQ h z none) := RR.post hm (fun r' g' q => by
  obtain ⟨rfl, rfl⟩ := q
  exact ⟨_, rfl, rfl, cqF_rf, rfl, rfl⟩)
/-! how many are out -/
def oMn (X : Cx) (f : Int → Int) : Nat := pop 12 (bset (fun p => decide (mS f p < 0)) (xP X))
theorem pop_12 {P : Nat → Bool} {n : Nat} (hn : n ≤ 12) : pop 12 (bset P n) ≤ 12 := by
  have h1 := pop_bset (P := P) hn
  have h2 := sm_b (g := fun p : Nat => if P p then 1 else 0) (B := 1) (by omega) (fun p => by split <;> omega) n
  rw [← h1] at h2
  omega
theorem oMn_b {X : Cx} {f : Int → Int} (h12 : xP X ≤ 12) : oMn X f ≤ 12 := pop_12 h12
theorem T_X11_outMoreThan {X : Cx} {t o l1 l2 : Nat} {f g : Int → Int} (h12 : xP X ≤ 12) (h11 : h 11 0 = xP X) (hc : Cpl X H h t f l1) (hd : Cpl X H h o g l2) (ht : isTr t := by assumption) (ho : isTr o := by assumption) : MT mX11_outMoreThan 3 [pR 0, pR t, pR o] h (some (pI (oMn X g - oMn X f))) h := by
  refine MT.of (fun Q hQ => (?_ : RR mX11_outMoreThan _ _ _ _ [pR 0, pR t, pR o] _ _ _))
  have e1 := cpl_outs hc rfl
  have e2 := cpl_outs hd rfl
  have b1 := oMn_b (X := X) (f := f) h12
  have b2 := oMn_b (X := X) (f := g) h12
  have l1 := bset_4096 (P := fun p => decide (mS f p < 0)) h12
  have l2 := bset_4096 (P := fun p => decide (mS g p < 0)) h12
  have t1 := ht.1
  have o1 := ho.1
  unfold oMn at hQ b1 b2
  refine R_aload_n dX11_outMoreThan_0 rfl (?_ : RR _ _ _ _ 1 _ _ _ _)
  refine R_aload_n dX11_outMoreThan_1 rfl (?_ : RR _ _ _ _ 2 _ _ _ _)
  refine R_getr dX11_outMoreThan_2 flX11_29 cok_11 rfl (by decide) (?_ : RR _ _ _ _ 5 _ _ _ _)
  refine R_geti (z := 0) dX11_outMoreThan_5 flX11_116 cok_2 rfl (by decide) rfl (fun q5 => (?_ : RR _ _ _ _ 8 _ _ _ _))
  rw [h11] at q5 ⊢
  refine R_cVi1 dX11_outMoreThan_8 mvX9_outBits mlX11_254 (by decide) (by decide) (Nat.le_of_ble_eq_true rfl) (Nat.le_of_ble_eq_true rfl) (T_X9_outBits (n := xP X)) (?_ : RR _ _ _ _ 11 _ _ _ _)
  rw [e2]
  refine R_cSi1 dX11_outMoreThan_11 msJ6_bitCount_0f7a4 mlX11_325 (by decide) (Nat.le_of_ble_eq_true rfl) (Nat.le_of_ble_eq_true rfl) (T_J6_bitCount_0f7a4) (?_ : RR _ _ _ _ 14 _ _ _ _)
  refine R_aload_n dX11_outMoreThan_14 rfl (?_ : RR _ _ _ _ 15 _ _ _ _)
  refine R_aload_n dX11_outMoreThan_15 rfl (?_ : RR _ _ _ _ 16 _ _ _ _)
  refine R_getr dX11_outMoreThan_16 flX11_29 cok_11 rfl (by decide) (?_ : RR _ _ _ _ 19 _ _ _ _)
  refine R_geti (z := 0) dX11_outMoreThan_19 flX11_116 cok_2 rfl (by decide) rfl (fun q19 => (?_ : RR _ _ _ _ 22 _ _ _ _))
  rw [h11] at q19 ⊢
  refine R_cVi1 dX11_outMoreThan_22 mvX9_outBits mlX11_254 (by decide) (by decide) (Nat.le_of_ble_eq_true rfl) (Nat.le_of_ble_eq_true rfl) (T_X9_outBits (n := xP X)) (?_ : RR _ _ _ _ 25 _ _ _ _)
  rw [e1]
  refine R_cSi1 dX11_outMoreThan_25 msJ6_bitCount_0f7a4 mlX11_325 (by decide) (Nat.le_of_ble_eq_true rfl) (Nat.le_of_ble_eq_true rfl) (T_J6_bitCount_0f7a4) (?_ : RR _ _ _ _ 28 _ _ _ _)
  refine R_isub dX11_outMoreThan_28 (?_ : RR _ _ _ _ 29 _ _ _ _)
  exact R_ireturn dX11_outMoreThan_29 trivial hQ
theorem C_outMoreIn {X : Cx} {m n r len0 : Nat} {bh : Int} {f f0 : Int → Int} (hX : xOK X H) (hC : CO X H h n 24 r) (hc : Cpl X H h 24 f len) (hc0 : Cpl X H h 14 f0 len0) (hnow : f 1 ≤ 1000000000) (hbh : bh = 0 ∨ bh = 1) (hm : m ≤ 60) (hun : h r 4 = 0 → noN (xS X)) : RR mX11_outMoreIn 6 0 0 0 (pm_ent [pR 0, pI m, pR n, pR r, pI bh] 5) [] (shp0, rf0, h) (fun r' g' => r' = some (pI (oMn X (xIt X bh m f) - oMn X f0)) ∧ ∃ h' len', g' = (shp0, rf0, h') ∧ onF 24 r h h' ∧ Cpl X H h' 24 (xIt X bh m f) len') := by
  have x12 := hX.2.2.1
  have t14 := isTr_14
  have t24 := isTr_24
  have h11 := hC.2.1.1
  have hrb := hC.2.2.2.2.2.2.2.2.2
  have b1 := oMn_b (X := X) (f := f0) x12
  have b2 := oMn_b (X := X) (f := xIt X bh m f) x12
  suffices hS : ∀ Q : Option PV → PH → Prop, (∀ h' len', onF 24 r h h' → Cpl X H h' 24 (xIt X bh m f) len' → Q (some (pI (oMn X (xIt X bh m f) - oMn X f0))) (shp0, rf0, h')) → RR mX11_outMoreIn 6 0 0 0 [pR 0, pI m, pR n, pR r, pI bh] [] (shp0, rf0, h) Q from hS _ (fun h' len' q1 q2 => ⟨rfl, h', len', rfl, q1, q2⟩)
  intro Q hQ
  refine R_aload_n dX11_outMoreIn_0 rfl (?_ : RR _ _ _ _ 1 _ _ _ _)
  refine R_getr dX11_outMoreIn_1 flX11_59 cok_11 rfl (by decide) (?_ : RR _ _ _ _ 4 _ _ _ _)
  refine R_iload_n dX11_outMoreIn_4 rfl (?_ : RR _ _ _ _ 5 _ _ _ _)
  refine R_aload_n dX11_outMoreIn_5 rfl (?_ : RR _ _ _ _ 6 _ _ _ _)
  refine R_aload_n dX11_outMoreIn_6 rfl (?_ : RR _ _ _ _ 7 _ _ _ _)
  refine R_getr dX11_outMoreIn_7 flX11_43 cok_11 rfl (by decide) (?_ : RR _ _ _ _ 10 _ _ _ _)
  refine R_aload_n dX11_outMoreIn_10 rfl (?_ : RR _ _ _ _ 11 _ _ _ _)
  refine R_getr dX11_outMoreIn_11 flX11_29 cok_11 rfl (by decide) (?_ : RR _ _ _ _ 14 _ _ _ _)
  refine R_aload_n dX11_outMoreIn_14 rfl (?_ : RR _ _ _ _ 15 _ _ _ _)
  refine R_iload dX11_outMoreIn_15 rfl (?_ : RR _ _ _ _ 17 _ _ _ _)
  refine R_qV6 dX11_outMoreIn_17 mvX5_often mlX11_465 (by decide) (by decide) (Nat.le_of_ble_eq_true rfl) (Nat.le_of_ble_eq_true rfl) (C_often hX hC hc hnow hbh hm hun) (fun r9 g9 hq9 => (?_ : RR _ _ _ _ 20 _ _ _ _))
  obtain ⟨rfl, h2, len2, rfl, hf2, hc2⟩ := hq9
  show RR _ _ _ _ _ _ [] _ _
  refine R_aload_n dX11_outMoreIn_20 rfl (?_ : RR _ _ _ _ 21 _ _ _ _)
  refine R_aload_n dX11_outMoreIn_21 rfl (?_ : RR _ _ _ _ 22 _ _ _ _)
  refine R_getr dX11_outMoreIn_22 flX11_36 cok_11 rfl (by decide) (?_ : RR _ _ _ _ 25 _ _ _ _)
  refine R_aload_n dX11_outMoreIn_25 rfl (?_ : RR _ _ _ _ 26 _ _ _ _)
  refine R_getr dX11_outMoreIn_26 flX11_43 cok_11 rfl (by decide) (?_ : RR _ _ _ _ 29 _ _ _ _)
  refine R_cVi2 dX11_outMoreIn_29 mvX11_outMoreThan mlX11_281 (by decide) (by decide) (Nat.le_of_ble_eq_true rfl) (Nat.le_of_ble_eq_true rfl) (T_X11_outMoreThan (X := X) x12 (by rw [hf2 11 (by omega) (by omega) (by omega) (by omega) (by omega) (by omega) (by omega)]; exact h11) (Cpl_fr hc0 (fun a a1 a2 => hf2 a (by omega) (by omega) (by omega) (by omega) (by omega) (by omega) (by omega))) hc2) (?_ : RR _ _ _ _ 32 _ _ _ _)
  exact R_ireturn dX11_outMoreIn_32 trivial (hQ h2 len2 hf2 hc2)
theorem T_X12_outMany {r : Nat} (hnp : h 147 5 = np) (hr : isRw r := by assumption) (h12 : np ≤ 12 := by omega) : MT mX12_outMany 1 [pR 147, pR r] h (some (pI (pop 12 (bset (fun p => decide (mS (h r) p < 0)) np)))) h := by
  refine MT.of (fun Q hQ => (?_ : RR mX12_outMany _ _ _ _ [pR 147, pR r] _ _ _))
  have l1 := bset_4096 (P := fun p => decide (mS (h r) p < 0)) h12
  refine R_aload_n dX12_outMany_0 rfl (?_ : RR _ _ _ _ 1 _ _ _ _)
  refine R_aload_n dX12_outMany_1 rfl (?_ : RR _ _ _ _ 2 _ _ _ _)
  refine R_cVi1 dX12_outMany_2 mvX12_outs mlX12_370 (by decide) (by decide) (Nat.le_of_ble_eq_true rfl) (Nat.le_of_ble_eq_true rfl) (T_X12_outs hnp) (?_ : RR _ _ _ _ 5 _ _ _ _)
  refine R_cSi1 dX12_outMany_5 msJ6_bitCount_0f7a4 mlX12_273 (by decide) (Nat.le_of_ble_eq_true rfl) (Nat.le_of_ble_eq_true rfl) (T_J6_bitCount_0f7a4) (?_ : RR _ _ _ _ 8 _ _ _ _)
  exact R_ireturn dX12_outMany_8 trivial hQ
/-- the other's frame of runs on 'then' -/
def tnF (h h' : Nat → Int → Int) : Prop := (∀ a, a ≠ 147 → a ≠ 155 → a ≠ 160 → a ≠ 161 → a ≠ 162 → h' a = h a) ∧ (∀ j : Int, j ≠ 30 → h' 147 j = h 147 j) ∧ (0 ≤ h' 147 30 ∧ h' 147 30 < 64)
theorem tnF_tr {h1 h2 : Nat → Int → Int} (a : tnF h h1) (b : tnF h1 h2) : tnF h h2 := ⟨fun x x1 x2 x3 x4 x5 => (b.1 x x1 x2 x3 x4 x5).trans (a.1 x x1 x2 x3 x4 x5), fun j hj => (b.2.1 j hj).trans (a.2.1 j hj), b.2.2⟩
theorem MBk_tn {h1 : Nat → Int → Int} {f : Int → Int} (hB : MBk sem h 155 H np nc) (hf : tnF h h1) (e : h1 155 = f) (ho : okF (cxM sem h np nc) H f) (hn : f 1 ≤ 2000000000) : MBk sem h1 155 H np nc ∧ cxM sem h1 np nc = cxM sem h np nc := by
  obtain ⟨m1, m2, m3, m4, m5, m6, m7, m8, m9⟩ := hB
  have eX : cxM sem h1 np nc = cxM sem h np nc := cxM_fr (fun a a1 a2 => hf.1 a (by omega) (by omega) (by omega) (by omega) (by omega))
  exact ⟨⟨by rw [eX]; exact m1, by rw [eX, e]; exact ho, mrOK_fr m3 (hf.2.1 23 (by omega)) (hf.1 158 (by omega) (by omega) (by omega) (by omega) (by omega)), by rw [hf.2.1 5 (by omega)]; exact m4, by rw [hf.2.1 4 (by omega)]; exact m5, by rw [e]; exact hn, hf.2.2, m8, m9⟩, eX⟩
theorem xIt_s {X : Cx} {bh : Int} : ∀ (n : Nat) (f : Int → Int), xIt X bh (n + 1) f = xStep X bh (xIt X bh n f)
  | 0, f => rfl
  | n + 1, f => xIt_s n (xStep X bh f)
theorem M_outIn {m : Nat} (hB : MBk sem h 155 H np nc) (hm : m ≤ 60) (hn : h 155 1 ≤ 1000000000) : RR mX12_outIn 9 0 0 0 (pm_ent [pR 147, pI m] 3) [] (shp0, rf0, h) (fun r' g' => r' = some (pI (oMn (cxM sem h np nc) (xIt (cxM sem h np nc) 0 m (h 155)) - oMn (cxM sem h np nc) (h 154))) ∧ ∃ h', g' = (shp0, rf0, h') ∧ tnF h h' ∧ h' 155 = xIt (cxM sem h np nc) 0 m (h 155)) := by
  obtain ⟨hX, hok, -, hnp, hnc, -, h64, -⟩ := id hB
  have x12 : np ≤ 12 := hX.2.2.1
  have r154 := isRw_154
  have r155 := isRw_155
  obtain ⟨X, hXe⟩ : ∃ X, X = cxM sem h np nc := ⟨_, rfl⟩
  rw [← hXe] at hX hok ⊢
  have hXP : xP X = np := by rw [hXe]; rfl
  suffices hS : ∀ Q : Option PV → PH → Prop, (∀ h', tnF h h' → h' 155 = xIt X 0 m (h 155) → Q (some (pI (oMn X (xIt X 0 m (h 155)) - oMn X (h 154)))) (shp0, rf0, h')) → RR mX12_outIn 9 0 0 0 [pR 147, pI m, pU] [] (shp0, rf0, h) Q from hS _ (fun h' q1 q2 => ⟨rfl, h', rfl, q1, q2⟩)
  intro Q hQ
  have L : ∀ (j i : Nat) (h1 : Nat → Int → Int), i + j = m → tnF h h1 → h1 155 = xIt X 0 i (h 155) → RR mX12_outIn 9 0 0 2 [pR 147, pI m, pI i] [] (shp0, rf0, h1) Q := by
    intro j
    induction j with
    | zero =>
      intro i h1 hi hf he
      obtain rfl : i = m := by omega
      have hq := hQ h1 hf he
      have b1 := oMn_b (X := X) (f := h 154) (by rw [hXP]; exact x12)
      have b2 := oMn_b (X := X) (f := xIt X 0 i (h 155)) (by rw [hXP]; exact x12)
      have g5 : h1 147 5 = np := by rw [hf.2.1 5 (by omega)]; exact hnp
      have e154 : h1 154 = h 154 := hf.1 154 (by omega) (by omega) (by omega) (by omega) (by omega)
      unfold oMn at hq b1 b2
      rw [hXP] at hq b1 b2
      refine R_iload_n dX12_outIn_2 rfl (?_ : RR _ _ _ _ 3 _ _ _ _)
      refine R_iload_n dX12_outIn_3 rfl (?_ : RR _ _ _ _ 4 _ _ _ _)
      refine R_icmp_ge (t := 22) dX12_outIn_4 rfl (fun c4 => ?_) (fun c4 => ?_)
      rotate_left
      · exfalso; omega
      refine R_aload_n dX12_outIn_22 rfl (?_ : RR _ _ _ _ 23 _ _ _ _)
      refine R_aload_n dX12_outIn_23 rfl (?_ : RR _ _ _ _ 24 _ _ _ _)
      refine R_getr dX12_outIn_24 flX12_36 cok_12 rfl (by decide) (?_ : RR _ _ _ _ 27 _ _ _ _)
      refine R_cVi1 dX12_outIn_27 mvX12_outMany mlX12_410 (by decide) (by decide) (Nat.le_of_ble_eq_true rfl) (Nat.le_of_ble_eq_true rfl) (T_X12_outMany (np := np) g5) (?_ : RR _ _ _ _ 30 _ _ _ _)
      rw [he]
      refine R_aload_n dX12_outIn_30 rfl (?_ : RR _ _ _ _ 31 _ _ _ _)
      refine R_aload_n dX12_outIn_31 rfl (?_ : RR _ _ _ _ 32 _ _ _ _)
      refine R_getr dX12_outIn_32 flX12_33 cok_12 rfl (by decide) (?_ : RR _ _ _ _ 35 _ _ _ _)
      refine R_cVi1 dX12_outIn_35 mvX12_outMany mlX12_410 (by decide) (by decide) (Nat.le_of_ble_eq_true rfl) (Nat.le_of_ble_eq_true rfl) (T_X12_outMany (np := np) g5) (?_ : RR _ _ _ _ 38 _ _ _ _)
      rw [e154]
      refine R_isub dX12_outIn_38 (?_ : RR _ _ _ _ 39 _ _ _ _)
      exact R_ireturn dX12_outIn_39 trivial hq
    | succ j ih =>
      intro i h1 hi hf he
      have ho1 := ok_it (bh := 0) hX i (h 155) hok
      have hn1 := xIt_1 (bh := 0) hX i (h 155) hok
      obtain ⟨hB1, eX⟩ := MBk_tn (f := xIt X 0 i (h 155)) hB hf he (by rw [← hXe]; exact ho1) (by omega)
      have hT := M_runs hB1
      rw [eX, ← hXe, he] at hT
      refine R_iload_n dX12_outIn_2 rfl (?_ : RR _ _ _ _ 3 _ _ _ _)
      refine R_iload_n dX12_outIn_3 rfl (?_ : RR _ _ _ _ 4 _ _ _ _)
      refine R_icmp_ge (t := 22) dX12_outIn_4 rfl (fun c4 => ?_) (fun c4 => ?_)
      · exfalso; omega
      refine R_aload_n dX12_outIn_7 rfl (?_ : RR _ _ _ _ 8 _ _ _ _)
      refine R_aload_n dX12_outIn_8 rfl (?_ : RR _ _ _ _ 9 _ _ _ _)
      refine R_getr dX12_outIn_9 flX12_36 cok_12 rfl (by decide) (?_ : RR _ _ _ _ 12 _ _ _ _)
      refine R_qV1 dX12_outIn_12 mvX12_runs mlX12_373 (by decide) (by decide) (Nat.le_of_ble_eq_true rfl) (Nat.le_of_ble_eq_true rfl) (hT) (fun r9 g9 hq9 => (?_ : RR _ _ _ _ 15 _ _ _ _))
      obtain ⟨⟨h2, rfl, m1, m2, rfl, m3, m4⟩, -⟩ := hq9
      show RR _ _ _ _ _ _ [pI _] _ _
      refine R_pop dX12_outIn_15 (fun _ => rfl) (?_ : RR _ _ _ _ 16 _ _ _ _)
      refine R_iinc dX12_outIn_16 rfl (Nat.le_of_ble_eq_true rfl) (?_ : RR _ _ _ _ 19 [_, _, _] _ _ _)
      refine R_goto (t := 2) dX12_outIn_19 rfl (?_ : RR _ _ _ _ 2 _ _ _ _)
      exact ih (i + 1) h2 (by omega) (tnF_tr hf ⟨m1, m3, m4⟩) (by rw [m2, xIt_s]; rfl)
  refine R_iconst dX12_outIn_0 (?_ : RR _ _ _ _ 1 _ _ _ _)
  refine R_istore_n dX12_outIn_1 (Nat.le_of_ble_eq_true rfl) (?_ : RR _ _ _ _ 2 [_, _, _] _ _ _)
  exact L m 0 h (by omega) ⟨fun _ _ _ _ _ _ => rfl, fun _ _ => rfl, h64⟩ rfl
end QU
