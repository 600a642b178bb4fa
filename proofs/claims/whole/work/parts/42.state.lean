/-! both systems side by side: what holds between two calls -/
def cqF (h h1 : Nat → Int → Int) : Prop := ∀ a, ¬ (a = 0 ∨ (19 ≤ a ∧ a ≤ 28) ∨ a = 31 ∨ (34 ≤ a ∧ a ≤ 43) ∨ (140 ≤ a ∧ a ≤ 146)) → h1 a = h a
theorem cqF_rf {h : Nat → Int → Int} : cqF h h := fun _ _ => rfl
theorem cqF_tr {h h1 h2 : Nat → Int → Int} (a : cqF h h1) (b : cqF h1 h2) : cqF h h2 := fun x q => (b x q).trans (a x q)
def oor (f g : Int → Int) : Prop := ∀ j : Int, ¬ (0 ≤ j ∧ j < 26) → f j = g j
def mqF (h h1 : Nat → Int → Int) : Prop := (∀ a, ¬ (a = 147 ∨ a = 148 ∨ a = 155 ∨ a = 157 ∨ (159 ≤ a ∧ a ≤ 162) ∨ (164 ≤ a ∧ a ≤ 169) ∨ a = 173 ∨ a = 174) → h1 a = h a) ∧
  (∀ j : Int, (j = 3 ∨ j = 4 ∨ j = 5 ∨ j = 6 ∨ j = 15 ∨ j = 23 ∨ j = 28 ∨ j = 40) → h1 147 j = h 147 j) ∧ (0 ≤ h 147 30 ∧ h 147 30 < 64 → 0 ≤ h1 147 30 ∧ h1 147 30 < 64) ∧ oor (h1 155) (h 155)
theorem mqF_rf {h : Nat → Int → Int} : mqF h h := ⟨fun _ _ => rfl, fun _ _ => rfl, id, fun _ _ => rfl⟩
theorem mqF_tr {h h1 h2 : Nat → Int → Int} (a : mqF h h1) (b : mqF h1 h2) : mqF h h2 := ⟨fun x q => (b.1 x q).trans (a.1 x q), fun x q => (b.2.1 x q).trans (a.2.1 x q), fun q => b.2.2.1 (a.2.2.1 q), fun j q => (b.2.2.2 j q).trans (a.2.2.2 j q)⟩
/-- the context, and the net, riders, rule of both -/
def SB (h : Nat → Int → Int) (sem : Sem) (H np nc : Nat) : Prop :=
  h 147 3 = H ∧ h 147 4 = nc ∧ h 147 5 = np ∧ h 3 0 = H ∧ xOK (cxM sem h np nc) H ∧ (exK H (h 149) (h 150) ∧ wyG H (h 149) (h 150) (nds (h 151))) ∧ CO (cxM sem h np nc) H h 3 14 29 ∧ mrOK h sem ∧ (h 29 4 = 0 ∨ h 29 4 = 1) ∧ (h 29 4 = 0 → noN sem) ∧ (1 ≤ np → 1 ≤ nc)
/-- the text -/
def SA (h : Nat → Int → Int) : Prop := ∃ n : Nat, h 1 1 = n ∧ h 147 15 = n ∧ n ≤ 80 ∧ ∀ i : Nat, i < n → h 2 i = h 156 i ∧ 0 ≤ h 156 i ∧ h 156 i ≤ 255
/-- the row -/
def SD (h : Nat → Int → Int) : Prop := ∃ n : Nat, h 145 1 = n ∧ h 147 1 = n ∧ n ≤ 12 ∧ ∀ i : Nat, i < n → h 146 i = h 148 i
/-- the trains -/
def SU (k : Nat) (h : Nat → Int → Int) (X : Cx) (H len : Nat) : Prop :=
  Cpl X H h 14 (h 154) len ∧ h 154 1 ≤ 600 * k ∧ oor (h 155) (h 154) ∧
  (∃ U x : Nat, h 44 3 = U ∧ h 147 28 = U ∧ U ≤ 15 ∧ h 44 4 = x ∧ x < 15 ∧ ∀ j : Nat, j < U → ∃ l, Cpl X H h (48 + 5 * ((x + 15 - U + j) % 15)) (fun z => h 163 (26 * j + z)) l ∧ h 163 (26 * j + 1) ≤ 600 * k) ∧
  (0 ≤ h 147 6 ∧ h 147 6 ≤ k) ∧
  (∀ i : Nat, i < 3 → (h 47 i = 0 ∨ h 47 i = 1) ∧ (h 175 i = 0 ∨ h 175 i = 1) ∧ (h 47 i = 1 ↔ (h 175 i = 1 ∧ h 176 i = h 147 6)) ∧ h 176 i ≤ h 147 6 ∧ (h 47 i = 1 → ∃ l, Cpl X H h (123 + 5 * i) (fun z => h 177 (26 * i + z)) l ∧ h 177 (26 * i + 1) ≤ 600 * k))
/-- what was seen -/
def lsS (f : Int → Int) : Nat → Int
  | 0 => -1
  | n + 1 => max (lsS f n) (f n)
def fiS (st ha si : Int → Int) (k c : Int) : Nat → Bool
  | 0 => true
  | n + 1 => fiS st ha si k c n && decide (st n ≠ k ∨ (if ha n = c then 1 else 0) = si n)
def SS (h : Nat → Int → Int) (H : Nat) : Prop := ∃ N : Nat, h 138 0 = N ∧ h 147 40 = N ∧ N ≤ 12 ∧ (∀ i : Nat, i < N → 0 ≤ h 170 i ∧ h 170 i ≤ 12 ∧ 0 ≤ h 171 i ∧ h 171 i < H ∧ (h 172 i = 0 ∨ h 172 i = 1)) ∧ h 138 1 = max 0 (lsS (h 170) N) ∧
  ∀ k : Nat, k ≤ 12 → ∃ al : Nat, al < 512 ∧ h 139 k = al ∧ ∀ c : Nat, c < 9 → al.testBit c = fiS (h 170) (h 171) (h 172) k c N
/-- what is used again -/
def SP (h : Nat → Int → Int) : Prop := (bnd (h 10) ∧ exB (h 8) ∧ miB (h 9)) ∧ (h 32 4 = 0 ∨ h 32 4 = 1) ∧ 0 ≤ h 147 30 ∧ h 147 30 < 64
def SRx (k : Nat) (h : Nat → Int → Int) (sem : Sem) (H np nc len : Nat) : Prop := SB h sem H np nc ∧ SA h ∧ SD h ∧ SU k h (cxM sem h np nc) H len ∧ SS h H ∧ SP h
def SR (k : Nat) (h : Nat → Int → Int) : Prop := ∃ (sem : Sem) (H np nc len : Nat), SRx k h sem H np nc len
theorem Cpl_fr {X : Cx} {H t len : Nat} {h h' : Nat → Int → Int} {f : Int → Int} (hc : Cpl X H h t f len) (hf : ∀ a, t ≤ a → a ≤ t + 4 → h' a = h a) : Cpl X H h' t f len := by
  unfold Cpl at hc ⊢
  rw [hf t (by omega) (by omega), hf (t + 1) (by omega) (by omega), hf (t + 2) (by omega) (by omega), hf (t + 3) (by omega) (by omega), hf (t + 4) (by omega) (by omega)]
  exact hc
def fE (f g : Int → Int) : Prop := ∀ i : Int, 0 ≤ i → i < 26 → f i = g i
/-- coupling looks at the row's 26 numbers and at the wishes alone -/
theorem Cpl_E {X X' : Cx} {H t len : Nat} {h : Nat → Int → Int} {f g : Int → Int} (h6 : xC X ≤ 6) (h12 : xP X ≤ 12) (hc : Cpl X H h t f len) (he : fE g f) (e1 : xC X' = xC X) (e2 : xP X' = xP X) (e3 : ∀ p : Nat, p < xP X → xW X' p = xW X p) : Cpl X' H h t g len := by
  obtain ⟨⟨f0, f1, f2, f3, f4, f5⟩, g1, g2, g3, g4, g5, g6, g7⟩ := hc
  have p : ∀ c : Int, 0 ≤ c → c < xC X → mP g c = mP f c := fun c c0 c1 => he _ (by omega) (by omega)
  have a : ∀ c : Int, 0 ≤ c → c < xC X → mA g c = mA f c := fun c c0 c1 => he _ (by omega) (by omega)
  have s : ∀ q : Nat, q < xP X → mS g q = mS f q := fun q hq => he _ (by omega) (by omega)
  have z0 := he 0 (by omega) (by omega)
  have z1 := he 1 (by omega) (by omega)
  unfold Cpl fOK
  rw [e1, e2, z0, z1]
  refine ⟨⟨f0, f1, f2, fun j hj => ?_, fun c hc => ?_, fun q hq => ?_⟩, g1, g2, g3, g4, fun c hc => ?_, fun c hc => ?_, fun q hq => ?_⟩
  · have := f3 j hj
    rw [p _ this.1 this.2.1]
    exact this
  · rw [p c (by omega) (by omega), a c (by omega) (by omega)]
    exact f4 c hc
  · rw [s q hq, e3 q hq]
    by_cases w : mS f q = -1
    · exact Or.inl w
    · have := f5 q hq
      unfold halS at this ⊢
      rw [p _ (by omega) (by omega), a _ (by omega) (by omega)]
      exact this
  · rw [p c (by omega) (by omega)]
    exact g5 c hc
  · rw [p c (by omega) (by omega), a c (by omega) (by omega)]
    exact g6 c hc
  · rw [s q hq]
    exact g7 q hq
theorem Cpl_cp {X : Cx} {H t o len : Nat} {h : Nat → Int → Int} {f : Int → Int} (h6 : xC X ≤ 6) (h12 : xP X ≤ 12) (hc : Cpl X H h o f len) : Cpl X H (trC h t o) t f len := by
  obtain ⟨⟨f0, f1, f2, f3, f4, f5⟩, g1, g2, g3, g4, g5, g6, g7⟩ := hc
  unfold Cpl fOK
  rw [trC_t, trC_1, trC_2, trC_3, trC_4]
  have ord : ∀ j : Int, 0 ≤ j → j < len → cpy (h (o + 1)) (h (t + 1)) 6 j = h (o + 1) j := fun j j0 j1 => if_pos (by omega)
  refine ⟨⟨f0, f1, f2, fun j hj => ?_, fun c hc => ?_, f5⟩, ?_, ?_, ?_, ?_, fun c hc => ?_, fun c hc => ?_, fun q hq => ?_⟩
  · rw [ord j (by omega) (by omega)]
    exact f3 j hj
  · have := f4 c hc
    by_cases w : mP f c = -1
    · exact Or.inl (by omega)
    · rw [ord _ (by omega) (by omega)]
      exact this
  · simp (disch := omega) only [fup_n, fup_s]; exact g1
  · simp (disch := omega) only [fup_n, fup_s]; exact g2
  · simp (disch := omega) only [fup_n, fup_s]; exact g3
  · simp (disch := omega) only [fup_n, fup_s]; exact g4
  · rw [← g5 c hc]; exact if_pos (by omega)
  · rw [show cpy (h (o + 3)) (h (t + 3)) 6 c = h (o + 3) c from if_pos (by omega)]
    exact g6 c hc
  · rw [← g7 q hq]; exact if_pos (by omega)
section SQ
variable {k : Nat} {h h1 h2 : Nat → Int → Int} {sem : Sem} {H np nc len : Nat}
/-- a call that only looks -/
theorem SR_q (hs : SRx k h sem H np nc len) (hc : cqF h h1) (hm : mqF h1 h2) (hd : SD h2) : SR (k + 1) h2 := by
  have ee : ∀ a, ¬ (a = 0 ∨ (19 ≤ a ∧ a ≤ 28) ∨ a = 31 ∨ (34 ≤ a ∧ a ≤ 43) ∨ (140 ≤ a ∧ a ≤ 146)) → ¬ (a = 147 ∨ a = 148 ∨ a = 155 ∨ a = 157 ∨ (159 ≤ a ∧ a ≤ 162) ∨ (164 ≤ a ∧ a ≤ 169) ∨ a = 173 ∨ a = 174) → h2 a = h a := fun a q1 q2 => (hm.1 a q2).trans (hc a q1)
  have e147 : h1 147 = h 147 := hc 147 (by omega)
  have e155 : h1 155 = h 155 := hc 155 (by omega)
  obtain ⟨m1, m2, m3, m4⟩ := hm
  rw [e147] at m2 m3
  rw [e155] at m4
  obtain ⟨⟨b1, b2, b3, b4, b5, b6, b7, b8, b9, b10, b11⟩, ha, -, ⟨u1, u2, u3, ⟨U, x, u4, u5, u6, u7, u8, u9⟩, u10, u11⟩, hss, hsp⟩ := hs
  have eX : cxM sem h2 np nc = cxM sem h np nc := cxM_fr (fun a a1 a2 => ee a (by omega) (by omega))
  have e30 : h2 29 = h 29 := ee 29 (by omega) (by omega)
  refine ⟨sem, H, np, nc, len, ⟨?_, ?_, ?_, ?_, ?_, ?_, ?_, ?_, ?_, ?_, b11⟩, ?_, hd, ⟨?_, ?_, ?_, ⟨U, x, ?_, ?_, u6, ?_, u8, fun j hj => ?_⟩, ?_, fun i hi => ?_⟩, ?_, ?_⟩
  · rw [m2 3 (by omega)]; exact b1
  · rw [m2 4 (by omega)]; exact b2
  · rw [m2 5 (by omega)]; exact b3
  · rw [ee 3 (by omega) (by omega)]; exact b4
  · rw [eX]; exact b5
  · rw [ee 149 (by omega) (by omega), ee 150 (by omega) (by omega), ee 151 (by omega) (by omega)]; exact b6
  · rw [eX]
    obtain ⟨c1, c2, c3, c4, c5, c6, c7⟩ := b7
    unfold CO NetC RidC ruOK
    rw [ee (3 + 1) (by omega) (by omega), ee (3 + 2) (by omega) (by omega), ee (3 + 3) (by omega) (by omega), ee 11 (by omega) (by omega), ee 12 (by omega) (by omega), ee 13 (by omega) (by omega), ee 29 (by omega) (by omega), ee (29 + 1) (by omega) (by omega)]
    exact ⟨c1, c2, c3, c4, c5, c6, c7⟩
  · exact mrOK_fr b8 (m2 23 (by omega)) (ee 158 (by omega) (by omega))
  · rw [e30]; exact b9
  · rw [e30]; exact b10
  · obtain ⟨n, n1, n2, n3, n4⟩ := ha
    refine ⟨n, ?_, ?_, n3, ?_⟩
    · rw [ee 1 (by omega) (by omega)]; exact n1
    · rw [m2 15 (by omega)]; exact n2
    · rw [ee 2 (by omega) (by omega), ee 156 (by omega) (by omega)]; exact n4
  · rw [eX, ee 154 (by omega) (by omega)]
    exact Cpl_fr u1 (fun a a1 a2 => ee a (by omega) (by omega))
  · rw [ee 154 (by omega) (by omega)]
    omega
  · rw [ee 154 (by omega) (by omega)]
    exact fun j q => (m4 j q).trans (u3 j q)
  · rw [ee 44 (by omega) (by omega)]; exact u4
  · rw [m2 28 (by omega)]; exact u5
  · rw [ee 44 (by omega) (by omega)]; exact u7
  · obtain ⟨l, c1, c2⟩ := u9 j hj
    rw [eX, ee 163 (by omega) (by omega)]
    exact ⟨l, Cpl_fr c1 (fun a a1 a2 => ee a (by omega) (by omega)), by omega⟩
  · rw [m2 6 (by omega)]; omega
  · obtain ⟨v1, v2, v3, v4, v5⟩ := u11 i hi
    rw [eX, ee 47 (by omega) (by omega), ee 175 (by omega) (by omega), ee 176 (by omega) (by omega), ee 177 (by omega) (by omega), m2 6 (by omega)]
    refine ⟨v1, v2, v3, v4, fun q => ?_⟩
    obtain ⟨l, c1, c2⟩ := v5 q
    exact ⟨l, Cpl_fr c1 (fun a a1 a2 => ee a (by omega) (by omega)), by omega⟩
  · unfold SS
    rw [ee 138 (by omega) (by omega), ee 139 (by omega) (by omega), ee 170 (by omega) (by omega), ee 171 (by omega) (by omega), ee 172 (by omega) (by omega), m2 40 (by omega)]
    exact hss
  · obtain ⟨p1, p2, p3, p4⟩ := hsp
    have := m3 ⟨p3, p4⟩
    refine ⟨?_, ?_, this.1, this.2⟩
    · rw [ee 10 (by omega) (by omega), ee 8 (by omega) (by omega), ee 9 (by omega) (by omega)]; exact p1
    · rw [ee 32 (by omega) (by omega)]; exact p2
/-- the told row -/
theorem SD_same (hd : SD h) (e1 : h1 145 1 = h 145 1) (e2 : h1 147 1 = h 147 1) (e3 : h1 146 = h 146) (e4 : h1 148 = h 148) : SD h1 := by
  unfold SD
  rw [e1, e2, e3, e4]
  exact hd
theorem SD_g {n : Nat} (hn : n ≤ 12) (e1 : h 145 1 = n) (e2 : h 147 1 = n) (e3 : ∀ i : Nat, i < n → h 146 i = h 148 i) : SD h := ⟨n, e1, e2, hn, e3⟩
theorem SD_0 (e1 : h 145 1 = 0) (e2 : h 147 1 = 0) : SD h := ⟨0, e1, e2, by omega, fun i hi => by omega⟩
theorem SD_1 {a : Int} (e1 : h 145 1 = 1) (e2 : h 147 1 = 1) (a1 : h 146 0 = a) (a2 : h 148 0 = a) : SD h := ⟨1, e1, e2, by omega, fun i hi => by
  obtain rfl : i = 0 := by omega
  exact a1.trans a2.symm⟩
theorem SD_2 {a b : Int} (e1 : h 145 1 = 2) (e2 : h 147 1 = 2) (a1 : h 146 0 = a) (a2 : h 148 0 = a) (b1 : h 146 1 = b) (b2 : h 148 1 = b) : SD h := ⟨2, e1, e2, by omega, fun i hi => by
  have : i = 0 ∨ i = 1 := by omega
  rcases this with rfl | rfl
  · exact a1.trans a2.symm
  · exact b1.trans b2.symm⟩
theorem SD_3 {a b c : Int} (e1 : h 145 1 = 3) (e2 : h 147 1 = 3) (a1 : h 146 0 = a) (a2 : h 148 0 = a) (b1 : h 146 1 = b) (b2 : h 148 1 = b) (c1 : h 146 2 = c) (c2 : h 148 2 = c) : SD h := ⟨3, e1, e2, by omega, fun i hi => by
  have : i = 0 ∨ i = 1 ∨ i = 2 := by omega
  rcases this with rfl | rfl | rfl
  · exact a1.trans a2.symm
  · exact b1.trans b2.symm
  · exact c1.trans c2.symm⟩
theorem SD_4 {a b c d : Int} (e1 : h 145 1 = 4) (e2 : h 147 1 = 4) (a1 : h 146 0 = a) (a2 : h 148 0 = a) (b1 : h 146 1 = b) (b2 : h 148 1 = b) (c1 : h 146 2 = c) (c2 : h 148 2 = c) (d1 : h 146 3 = d) (d2 : h 148 3 = d) : SD h := ⟨4, e1, e2, by omega, fun i hi => by
  have : i = 0 ∨ i = 1 ∨ i = 2 ∨ i = 3 := by omega
  rcases this with rfl | rfl | rfl | rfl
  · exact a1.trans a2.symm
  · exact b1.trans b2.symm
  · exact c1.trans c2.symm
  · exact d1.trans d2.symm⟩
end SQ
/-- the class's method and the other's agree at every state, and keep it -/
def AG (Mc Mm : PMt) (dc dm : Nat) (As : List PV) (k : Nat) (h : Nat → Int → Int) : Prop :=
  RR Mc dc 0 0 0 (pm_ent (pR 0 :: As) Mc.2.2.1) [] (shp0, rf0, h) (fun r g => ∃ h1, g = (shp0, rf0, h1) ∧ RR Mm dm 0 0 0 (pm_ent (pR 147 :: As) Mm.2.2.1) [] (shp0, rf0, h1) (fun r' g' => r' = r ∧ ∃ h2, g' = (shp0, rf0, h2) ∧ SR (k + 1) h2))
/-- both by deterministic contracts -/
theorem AG_det {Mc Mm : PMt} {dc dm k : Nat} {As : List PV} {h h1 h2 : Nat → Int → Int} {r : Option PV} (hc : MT Mc dc (pR 0 :: As) h r h1) (hm : MT Mm dm (pR 147 :: As) h1 r h2) (hs : SR (k + 1) h2) : AG Mc Mm dc dm As k h :=
  RR.post hc (fun r' g' q => by
    obtain ⟨rfl, rfl⟩ := q
    exact ⟨h1, rfl, RR.post hm (fun r'' g'' q => by
      obtain ⟨rfl, rfl⟩ := q
      exact ⟨rfl, h2, rfl, hs⟩)⟩)
