/-- the other's frame of votes -/
def vtF (h4 h1 : Nat → Int → Int) : Prop := ∀ a, a ≠ 160 → a ≠ 161 → a ≠ 162 → h1 a = h4 a
section MW
variable {k : Nat} {h h1 h2 h3 h4 : Nat → Int → Int} {sem : Sem} {H np nc len : Nat} {v : Int} {X : Cx}
theorem vtF_rf : vtF h h := fun _ _ _ _ => rfl
theorem vtF_tr (a : vtF h h1) (b : vtF h1 h2) : vtF h h2 := fun x x1 x2 x3 => (b x x1 x2 x3).trans (a x x1 x2 x3)
theorem hypM (hs : SRx k h sem H np nc len) (hX : X = cxM sem h np nc) (e : ∀ a, 147 ≤ a → h3 a = h a) (h4e : h4 = rup h3 147 (fup (h3 147) 0 0)) (hf : vtF h4 h1) : mOK h1 154 np ∧ mrOK h1 sem ∧ h1 147 5 = np ∧ h1 154 = h 154 ∧ cxM sem h1 np nc = X ∧ mqF h3 h1 ∧ h1 147 4 = nc := by
  have f4 : ∀ a, 147 < a → h4 a = h a := fun a a1 => by rw [h4e, rup_n (by omega)]; exact e a (by omega)
  have j4 : ∀ j : Int, j ≠ 0 → h4 147 j = h 147 j := fun j j1 => by rw [h4e, rup_s, fup_n j1, e 147 (by omega)]
  refine ⟨mOK_s hs (fun a q => by rw [hf a (by omega) (by omega) (by omega)]; exact f4 a (by omega)), mrOK_fr hs.1.2.2.2.2.2.2.2.1 (by rw [hf 147 (by omega) (by omega) (by omega), j4 23 (by omega)]) (by rw [hf 158 (by omega) (by omega) (by omega)]; exact f4 158 (by omega)), by rw [hf 147 (by omega) (by omega) (by omega), j4 5 (by omega)]; exact hs.1.2.2.1, by rw [hf 154 (by omega) (by omega) (by omega)]; exact f4 154 (by omega), by rw [hX]; exact cxM_fr (fun a a1 a2 => by rw [hf a (by omega) (by omega) (by omega)]; exact f4 a (by omega)), ⟨fun a q => by rw [hf a (by omega) (by omega) (by omega), h4e, rup_n (by omega)], fun j q => by rw [hf 147 (by omega) (by omega) (by omega), h4e, rup_s, fup_n (by omega)], fun q => by rw [hf 147 (by omega) (by omega) (by omega), h4e, rup_s, fup_n (by omega)]; exact q, fun j q => by rw [hf 155 (by omega) (by omega) (by omega), h4e, rup_n (by omega)]⟩, by rw [hf 147 (by omega) (by omega) (by omega), j4 4 (by omega)]; exact hs.1.2.1⟩
theorem M_votes {o : Nat} (hs : SRx k h sem H np nc len) (hX : X = cxM sem h np nc) (e : ∀ a, 147 ≤ a → h3 a = h a) (h4e : h4 = rup h3 147 (fup (h3 147) 0 0)) (hf : vtF h4 h1) (ho : o < np) (hse : mS (h 154) o ≠ -1) : RR mX12_votesOf 3 0 0 0 (pm_ent [pR 147, pR 154, pI o] 5) [] (shp0, rf0, h1) (fun r' g' => r' = some (pI (xV X (h 154) o)) ∧ ∃ h2, g' = (shp0, rf0, h2) ∧ (∀ a, a ≠ 160 → a ≠ 161 → h2 a = h1 a)) := by
  obtain ⟨y1, y2, y3, y4, y5, y6, -⟩ := hypM hs hX e h4e hf
  have r154 := isRw_154
  have x12 := sR12 hs
  refine RR.post (T_X12_votesOf (h := h1) (r := 154) (np := np) (p := o) (sem := sem) y1 y2 y3 ho (by rw [y4]; exact hse)) (fun r' g' q => ?_)
  obtain ⟨rfl, sk, th, rfl⟩ := q
  refine ⟨?_, _, rfl, fun a a1 a2 => by rw [rup_n a2, rup_n a1]⟩
  rw [← y5, ← y4]
  rfl
theorem M_polls {S : Nat} (hs : SRx k h sem H np nc len) (hX : X = cxM sem h np nc) (e : ∀ a, 147 ≤ a → h3 a = h a) (h4e : h4 = rup h3 147 (fup (h3 147) 0 0)) (hf : vtF h4 h1) (hS : ∀ p : Nat, p < np → S.testBit p = true → mS (h 154) p ≠ -1) (hSb : S < 4096) : RR mX12_polls 4 0 0 0 (pm_ent [pR 147, pR 154, pI S] 4) [] (shp0, rf0, h1) (fun r' g' => r' = none ∧ ∃ h2, g' = (shp0, rf0, h2) ∧ vtF h1 h2 ∧ ∀ j : Int, 0 ≤ j → j < 3 → h2 162 j = poS S.testBit (xV X (h 154)) (xWi X (h 154)) np j) := by
  obtain ⟨y1, y2, y3, y4, y5, y6, -⟩ := hypM hs hX e h4e hf
  have r154 := isRw_154
  have x12 := sR12 hs
  refine RR.post (T_X12_polls (h := h1) (r := 154) (np := np) (sem := sem) y1 y2 y3 (fun p hp hb => by rw [y4]; exact hS p hp hb) (hSb := hSb)) (fun r' g' q => ?_)
  obtain ⟨rfl, sk, th, rfl⟩ := q
  refine ⟨rfl, _, rfl, fun a a1 a2 a3 => by rw [rup_n a3, rup_n a2, rup_n a1], fun j j0 j1 => ?_⟩
  rw [rup_s]
  unfold plF
  rw [if_pos ⟨j0, j1⟩, ← y5, ← y4]
  rfl
/-- the votes of a set, one by one -/
theorem MPW_112 {p a x : Nat} {T own many : Int} {Q : Option PV → PH → Prop} (hs : SRx k h sem H np nc len) (hX : X = cxM sem h np nc) (e : ∀ a, 147 ≤ a → h3 a = h a) (h4e : h4 = rup h3 147 (fup (h3 147) 0 0)) (hxl : x < 4096) (hx : ∀ o : Nat, o < np → x.testBit o = true → mS (h 154) o ≠ -1) (KK : ∀ (h2 : Nat → Int → Int) (w8 : PV), vtF h4 h2 → RR mX12_power 82 0 0 156 [pR 147, pI p, pI a, pI T, pI own, pI many, pI x, pI (pwV (xV X (h 154)) np x), w8] [] (shp0, rf0, h2) Q) : ∀ (j o : Nat) (h1 : Nat → Int → Int), o + j = np → vtF h4 h1 → RR mX12_power 82 0 0 112 [pR 147, pI p, pI a, pI T, pI own, pI many, pI x, pI (pwV (xV X (h 154)) o x), pI o] [] (shp0, rf0, h1) Q := by
  have x12 := sR12 hs
  intro j
  induction j with
  | zero =>
    intro o h1 ho hf
    obtain rfl : o = np := by omega
    obtain ⟨y1, y2, y3, y4, y5, y6, -⟩ := hypM hs hX e h4e hf
    refine R_iload dX12_power_112 rfl (?_ : RR _ _ _ _ 114 _ _ _ _)
    refine R_aload_n dX12_power_114 rfl (?_ : RR _ _ _ _ 115 _ _ _ _)
    refine R_geti (z := 5) dX12_power_115 flX12_127 cok_12 rfl (by decide) rfl (fun q115 => (?_ : RR _ _ _ _ 118 _ _ _ _))
    rw [y3] at q115 ⊢
    refine R_icmp_ge (t := 156) dX12_power_118 rfl (fun c118 => ?_) (fun c118 => ?_)
    rotate_left
    · exfalso; omega
    exact KK h1 _ hf
  | succ j ih =>
    intro o h1 ho hf
    obtain ⟨y1, y2, y3, y4, y5, y6, -⟩ := hypM hs hX e h4e hf
    have IH := fun h1 hf => ih (o + 1) h1 (by omega) hf
    rw [show pwV (xV X (h 154)) (o + 1) x = pwV (xV X (h 154)) o x + (if x.testBit o then xV X (h 154) o else 0) from rfl] at IH
    by_cases y : x.testBit o = true
    · rw [if_pos y] at IH
      have hT := M_votes (o := o) hs hX e h4e hf (by omega) (hx o (by omega) y)
      refine R_iload dX12_power_112 rfl (?_ : RR _ _ _ _ 114 _ _ _ _)
      refine R_aload_n dX12_power_114 rfl (?_ : RR _ _ _ _ 115 _ _ _ _)
      refine R_geti (z := 5) dX12_power_115 flX12_127 cok_12 rfl (by decide) rfl (fun q115 => (?_ : RR _ _ _ _ 118 _ _ _ _))
      rw [y3] at q115 ⊢
      refine R_icmp_ge (t := 156) dX12_power_118 rfl (fun c118 => ?_) (fun c118 => ?_)
      · exfalso; omega
      refine R_iload dX12_power_121 rfl (?_ : RR _ _ _ _ 123 _ _ _ _)
      refine R_iload dX12_power_123 rfl (?_ : RR _ _ _ _ 125 _ _ _ _)
      refine R_iload dX12_power_125 rfl (?_ : RR _ _ _ _ 127 _ _ _ _)
      refine R_cSi2 dX12_power_127 msX12_has mlX12_288 (by decide) (Nat.le_of_ble_eq_true rfl) (Nat.le_of_ble_eq_true rfl) (T_X12_has (by omega)) (?_ : RR _ _ _ _ 130 _ _ _ _)
      rw [if_pos y]
      refine R_if_eq (t := 146) dX12_power_130 rfl (fun c130 => ?_) (fun c130 => ?_)
      · exfalso; omega
      refine R_aload_n dX12_power_133 rfl (?_ : RR _ _ _ _ 134 _ _ _ _)
      refine R_aload_n dX12_power_134 rfl (?_ : RR _ _ _ _ 135 _ _ _ _)
      refine R_getr dX12_power_135 flX12_33 cok_12 rfl (by decide) (?_ : RR _ _ _ _ 138 _ _ _ _)
      refine R_iload dX12_power_138 rfl (?_ : RR _ _ _ _ 140 _ _ _ _)
      refine R_qV2 dX12_power_140 mvX12_votesOf mlX12_294 (by decide) (by decide) (Nat.le_of_ble_eq_true rfl) (Nat.le_of_ble_eq_true rfl) (hT) (fun r9 g9 hq9 => (?_ : RR _ _ _ _ 143 _ _ _ _))
      obtain ⟨rfl, h5, rfl, hf5⟩ := hq9
      show RR _ _ _ _ _ _ [pI _, pI _] _ _
      refine R_goto (t := 147) dX12_power_143 rfl (?_ : RR _ _ _ _ 147 _ _ _ _)
      refine R_iadd dX12_power_147 (?_ : RR _ _ _ _ 148 _ _ _ _)
      refine R_istore dX12_power_148 (Nat.le_of_ble_eq_true rfl) (?_ : RR _ _ _ _ 150 [_, _, _, _, _, _, _, _, _] _ _ _)
      refine R_iinc dX12_power_150 rfl (Nat.le_of_ble_eq_true rfl) (?_ : RR _ _ _ _ 153 [_, _, _, _, _, _, _, _, _] _ _ _)
      refine R_goto (t := 112) dX12_power_153 rfl (?_ : RR _ _ _ _ 112 _ _ _ _)
      exact IH h5 (vtF_tr hf (fun a a1 a2 a3 => hf5 a a1 a2))
    · rw [if_neg y] at IH
      refine R_iload dX12_power_112 rfl (?_ : RR _ _ _ _ 114 _ _ _ _)
      refine R_aload_n dX12_power_114 rfl (?_ : RR _ _ _ _ 115 _ _ _ _)
      refine R_geti (z := 5) dX12_power_115 flX12_127 cok_12 rfl (by decide) rfl (fun q115 => (?_ : RR _ _ _ _ 118 _ _ _ _))
      rw [y3] at q115 ⊢
      refine R_icmp_ge (t := 156) dX12_power_118 rfl (fun c118 => ?_) (fun c118 => ?_)
      · exfalso; omega
      refine R_iload dX12_power_121 rfl (?_ : RR _ _ _ _ 123 _ _ _ _)
      refine R_iload dX12_power_123 rfl (?_ : RR _ _ _ _ 125 _ _ _ _)
      refine R_iload dX12_power_125 rfl (?_ : RR _ _ _ _ 127 _ _ _ _)
      refine R_cSi2 dX12_power_127 msX12_has mlX12_288 (by decide) (Nat.le_of_ble_eq_true rfl) (Nat.le_of_ble_eq_true rfl) (T_X12_has (by omega)) (?_ : RR _ _ _ _ 130 _ _ _ _)
      rw [if_neg y]
      refine R_if_eq (t := 146) dX12_power_130 rfl (fun c130 => ?_) (fun c130 => ?_)
      rotate_left
      · exfalso; omega
      refine R_iconst dX12_power_146 (?_ : RR _ _ _ _ 147 _ _ _ _)
      refine R_iadd dX12_power_147 (?_ : RR _ _ _ _ 148 _ _ _ _)
      refine R_istore dX12_power_148 (Nat.le_of_ble_eq_true rfl) (?_ : RR _ _ _ _ 150 [_, _, _, _, _, _, _, _, _] _ _ _)
      refine R_iinc dX12_power_150 rfl (Nat.le_of_ble_eq_true rfl) (?_ : RR _ _ _ _ 153 [_, _, _, _, _, _, _, _, _] _ _ _)
      refine R_goto (t := 112) dX12_power_153 rfl (?_ : RR _ _ _ _ 112 _ _ _ _)
      exact IH h1 hf
theorem MPW_156 {p a x L : Int} {T own many : Int} {Q : Option PV → PH → Prop} {w8 : PV} (hT : 0 ≤ T ∧ T ≤ 4000) (hown : 0 ≤ own ∧ own ≤ 99) (hL : 0 ≤ L ∧ L ≤ 4000) (KK : RR mX12_power 82 0 0 188 [pR 147, pI p, pI a, pI T, pI own, pI (many + pwT T own L), pI x, pI L, w8] [] (shp0, rf0, h1) Q) : RR mX12_power 82 0 0 156 [pR 147, pI p, pI a, pI T, pI own, pI many, pI x, pI L, w8] [] (shp0, rf0, h1) Q := by
  unfold pwT at KK
  by_cases y1 : T ≤ 2 * L
  · by_cases y2 : 2 * (L - own) < T
    · rw [if_pos ⟨y1, y2⟩] at KK
      refine R_iload dX12_power_156 rfl (?_ : RR _ _ _ _ 158 _ _ _ _)
      refine R_iconst dX12_power_158 (?_ : RR _ _ _ _ 159 _ _ _ _)
      refine R_iload dX12_power_159 rfl (?_ : RR _ _ _ _ 161 _ _ _ _)
      refine R_imul dX12_power_161 (?_ : RR _ _ _ _ 162 _ _ _ _)
      refine R_iload_n dX12_power_162 rfl (?_ : RR _ _ _ _ 163 _ _ _ _)
      refine R_icmp_lt (t := 181) dX12_power_163 rfl (fun c163 => ?_) (fun c163 => ?_)
      · exfalso; omega
      refine R_iconst dX12_power_166 (?_ : RR _ _ _ _ 167 _ _ _ _)
      refine R_iload dX12_power_167 rfl (?_ : RR _ _ _ _ 169 _ _ _ _)
      refine R_iload dX12_power_169 rfl (?_ : RR _ _ _ _ 171 _ _ _ _)
      refine R_isub dX12_power_171 (?_ : RR _ _ _ _ 172 _ _ _ _)
      refine R_imul dX12_power_172 (?_ : RR _ _ _ _ 173 _ _ _ _)
      refine R_iload_n dX12_power_173 rfl (?_ : RR _ _ _ _ 174 _ _ _ _)
      refine R_icmp_ge (t := 181) dX12_power_174 rfl (fun c174 => ?_) (fun c174 => ?_)
      · exfalso; omega
      refine R_iconst dX12_power_177 (?_ : RR _ _ _ _ 178 _ _ _ _)
      refine R_goto (t := 182) dX12_power_178 rfl (?_ : RR _ _ _ _ 182 _ _ _ _)
      refine R_cSi1 dX12_power_182 msX12_flag mlX12_134 (by decide) (Nat.le_of_ble_eq_true rfl) (Nat.le_of_ble_eq_true rfl) (T_X12_flag) (?_ : RR _ _ _ _ 185 _ _ _ _)
      refine R_iadd dX12_power_185 (?_ : RR _ _ _ _ 186 _ _ _ _)
      refine R_istore dX12_power_186 (Nat.le_of_ble_eq_true rfl) (?_ : RR _ _ _ _ 188 [_, _, _, _, _, _, _, _, _] _ _ _)
      exact KK
    · rw [if_neg (fun z => y2 z.2)] at KK
      refine R_iload dX12_power_156 rfl (?_ : RR _ _ _ _ 158 _ _ _ _)
      refine R_iconst dX12_power_158 (?_ : RR _ _ _ _ 159 _ _ _ _)
      refine R_iload dX12_power_159 rfl (?_ : RR _ _ _ _ 161 _ _ _ _)
      refine R_imul dX12_power_161 (?_ : RR _ _ _ _ 162 _ _ _ _)
      refine R_iload_n dX12_power_162 rfl (?_ : RR _ _ _ _ 163 _ _ _ _)
      refine R_icmp_lt (t := 181) dX12_power_163 rfl (fun c163 => ?_) (fun c163 => ?_)
      · exfalso; omega
      refine R_iconst dX12_power_166 (?_ : RR _ _ _ _ 167 _ _ _ _)
      refine R_iload dX12_power_167 rfl (?_ : RR _ _ _ _ 169 _ _ _ _)
      refine R_iload dX12_power_169 rfl (?_ : RR _ _ _ _ 171 _ _ _ _)
      refine R_isub dX12_power_171 (?_ : RR _ _ _ _ 172 _ _ _ _)
      refine R_imul dX12_power_172 (?_ : RR _ _ _ _ 173 _ _ _ _)
      refine R_iload_n dX12_power_173 rfl (?_ : RR _ _ _ _ 174 _ _ _ _)
      refine R_icmp_ge (t := 181) dX12_power_174 rfl (fun c174 => ?_) (fun c174 => ?_)
      rotate_left
      · exfalso; omega
      refine R_iconst dX12_power_181 (?_ : RR _ _ _ _ 182 _ _ _ _)
      refine R_cSi1 dX12_power_182 msX12_flag mlX12_134 (by decide) (Nat.le_of_ble_eq_true rfl) (Nat.le_of_ble_eq_true rfl) (T_X12_flag) (?_ : RR _ _ _ _ 185 _ _ _ _)
      refine R_iadd dX12_power_185 (?_ : RR _ _ _ _ 186 _ _ _ _)
      refine R_istore dX12_power_186 (Nat.le_of_ble_eq_true rfl) (?_ : RR _ _ _ _ 188 [_, _, _, _, _, _, _, _, _] _ _ _)
      exact KK
  · rw [if_neg (fun z => y1 z.1)] at KK
    refine R_iload dX12_power_156 rfl (?_ : RR _ _ _ _ 158 _ _ _ _)
    refine R_iconst dX12_power_158 (?_ : RR _ _ _ _ 159 _ _ _ _)
    refine R_iload dX12_power_159 rfl (?_ : RR _ _ _ _ 161 _ _ _ _)
    refine R_imul dX12_power_161 (?_ : RR _ _ _ _ 162 _ _ _ _)
    refine R_iload_n dX12_power_162 rfl (?_ : RR _ _ _ _ 163 _ _ _ _)
    refine R_icmp_lt (t := 181) dX12_power_163 rfl (fun c163 => ?_) (fun c163 => ?_)
    rotate_left
    · exfalso; omega
    refine R_iconst dX12_power_181 (?_ : RR _ _ _ _ 182 _ _ _ _)
    refine R_cSi1 dX12_power_182 msX12_flag mlX12_134 (by decide) (Nat.le_of_ble_eq_true rfl) (Nat.le_of_ble_eq_true rfl) (T_X12_flag) (?_ : RR _ _ _ _ 185 _ _ _ _)
    refine R_iadd dX12_power_185 (?_ : RR _ _ _ _ 186 _ _ _ _)
    refine R_istore dX12_power_186 (Nat.le_of_ble_eq_true rfl) (?_ : RR _ _ _ _ 188 [_, _, _, _, _, _, _, _, _] _ _ _)
    exact KK
def pwG (V : Int → Int) (np a p : Nat) (T own : Int) (x : Nat) (s : Int) : Int := if (x ≤ a ∧ bset (fun i => x.testBit i && !a.testBit i) 12 = 0) ∧ x.testBit p = true then pwF V np T own x s else s
theorem pwG_b {V : Int → Int} {np a p : Nat} {T own : Int} : ∀ x : Nat, 0 ≤ it (pwG V np a p T own) 0 x ∧ it (pwG V np a p T own) 0 x ≤ x
  | 0 => ⟨Int.le_refl _, Int.le_refl _⟩
  | x + 1 => by
    have ih := pwG_b (V := V) (np := np) (a := a) (p := p) (T := T) (own := own) x
    show 0 ≤ pwG V np a p T own x (it (pwG V np a p T own) 0 x) ∧ pwG V np a p T own x (it (pwG V np a p T own) 0 x) ≤ ((x + 1 : Nat) : Int)
    generalize it (pwG V np a p T own) 0 x = s at ih ⊢
    unfold pwG pwF pwT
    split
    · split <;> omega
    · omega
theorem M_power {p a K N : Nat} {T own : Int} (hs : SRx k h sem H np nc len) (hX : X = cxM sem h np nc) (hp : p < np) (ha : a = bset (ridP (h 154)) np) (hr : ridP (h 154) p = true) (hT : T = poS (ridP (h 154)) (xV X (h 154)) (xWi X (h 154)) np 0 + poS (ridP (h 154)) (xV X (h 154)) (xWi X (h 154)) np 1 + poS (ridP (h 154)) (xV X (h 154)) (xWi X (h 154)) np 2) (hown : own = xV X (h 154) p) (hK : K = 2 ^ pop 12 (oth a p)) (hN : (N : Int) = pwN (xV X (h 154)) np a p T own K) (e : ∀ a, 147 ≤ a → h3 a = h a) : RR mX12_power 82 0 0 0 (pm_ent [pR 147, pI p] 9) [] (shp0, rf0, h3) (mQ h3 N (some (frL N K).reverse)) := by
  have x12 := sR12 hs
  have hcp := hs.2.2.2.1.1
  have hf := hcp.1
  have r154 := isRw_154
  have al := bset_4096 (P := ridP (h 154)) (n := np) x12
  rw [← ha] at al
  have hab : ∀ i, a.testBit i = true → i < np ∧ ridP (h 154) i = true := fun i hi => by
    rw [ha, bset_bit] at hi
    simpa using hi
  have hap : a.testBit p = true := by rw [ha, bset_bit, hr]; simpa using hp
  have hse : ∀ i, a.testBit i = true → mS (h 154) i ≠ -1 := fun i hi => by
    have := (ridP_i (hab i hi).2).1
    omega
  have b0 := poS_b (P := ridP (h 154)) (V := xV X (h 154)) (W := xWi X (h 154)) (np := np) (j := 0) (fun p => xV_b)
  have b1 := poS_b (P := ridP (h 154)) (V := xV X (h 154)) (W := xWi X (h 154)) (np := np) (j := 1) (fun p => xV_b)
  have b2 := poS_b (P := ridP (h 154)) (V := xV X (h 154)) (W := xWi X (h 154)) (np := np) (j := 2) (fun p => xV_b)
  have hTb : 0 ≤ T ∧ T ≤ 4000 := by omega
  have hownb : 0 ≤ own ∧ own ≤ 99 := by rw [hown]; exact xV_b
  have hVb : ∀ S : Nat, 0 ≤ pwV (xV X (h 154)) np S ∧ pwV (xV X (h 154)) np S ≤ 99 * np := fun S => sm_b (by omega) (fun q => by have := xV_b (X := X) (f := h 154) (p := q); split <;> omega) np
  have hpa := pop_oth al hap
  have hpl := pop_le 12 (oth a p)
  have hpl2 := pop_le 12 a
  have hKb : K ≤ 4096 := by rw [hK]; exact pw_4096
  have hK1 : 1 ≤ K := by rw [hK]; exact Nat.pow_pos (by omega)
  have hfin : it (pwG (xV X (h 154)) np a p T own) 0 (a + 1) = N := by
    rw [hN, hK]
    exact pw_enum al hap hp hown (fun x s hx => by
      unfold pwG
      have hxl := sub2_le hx.1
      rw [if_pos ⟨⟨hxl, (sub_0 (by omega)).mpr hx.1⟩, hx.2⟩]) (fun x s hx => by
      unfold pwG
      rw [if_neg (fun z => hx ⟨(sub_0 (by omega)).mp z.1.2, z.2⟩)])
  have hlsh := lShl_1 (pop 12 (oth a p)) (by omega)
  rw [← hK] at hlsh
  have hNb := pwN_b (V := xV X (h 154)) (np := np) (a := a) (p := p) (T := T) (own := own) K
  rw [← hN] at hNb
  show RR _ _ _ _ _ [pR 147, pI p, pU, pU, pU, pU, pU, pU, pU] _ _ _
  obtain ⟨h4, h4e⟩ : ∃ h4, h4 = rup h3 147 (fup (h3 147) 0 0) := ⟨_, rfl⟩
  have L : ∀ (j x : Nat) (h1 : Nat → Int → Int) (w7 w8 : PV), x + j = a + 1 → vtF h4 h1 → RR mX12_power 82 0 0 82 [pR 147, pI p, pI a, pI T, pI own, pI (it (pwG (xV X (h 154)) np a p T own) 0 x), pI x, w7, w8] [] (shp0, rf0, h1) (mQ h3 N (some (frL N K).reverse)) := by
    intro j
    induction j with
    | zero =>
      intro x h1 w7 w8 hx hf1
      obtain rfl : x = a + 1 := by omega
      obtain ⟨y1, y2, y3, y4, y5, y6, -⟩ := hypM hs hX e h4e hf1
      rw [hfin]
      refine R_iload dX12_power_82 rfl (?_ : RR _ _ _ _ 84 _ _ _ _)
      refine R_iload_n dX12_power_84 rfl (?_ : RR _ _ _ _ 85 _ _ _ _)
      refine R_icmp_gt (t := 194) dX12_power_85 rfl (fun c85 => ?_) (fun c85 => ?_)
      rotate_left
      · exfalso; omega
      refine R_aload_n dX12_power_194 rfl (?_ : RR _ _ _ _ 195 _ _ _ _)
      refine R_iload dX12_power_195 rfl (?_ : RR _ _ _ _ 197 _ _ _ _)
      refine R_i2l dX12_power_197 (by first | assumption | omega) (?_ : RR _ _ _ _ 198 _ _ _ _)
      refine R_lconst (z := 1) dX12_power_198 rfl (?_ : RR _ _ _ _ 199 _ _ _ _)
      refine R_iload_n dX12_power_199 rfl (?_ : RR _ _ _ _ 200 _ _ _ _)
      refine R_cSi1 dX12_power_200 msJ6_bitCount_0f7a4 mlX12_273 (by decide) (Nat.le_of_ble_eq_true rfl) (Nat.le_of_ble_eq_true rfl) (T_J6_bitCount_0f7a4) (?_ : RR _ _ _ _ 203 _ _ _ _)
      refine R_iconst dX12_power_203 (?_ : RR _ _ _ _ 204 _ _ _ _)
      refine R_isub dX12_power_204 (?_ : RR _ _ _ _ 205 _ _ _ _)
      rw [show ((pop 12 a : Nat) : Int) - 1 = ((pop 12 (oth a p) : Nat) : Int) by omega]
      refine R_lshl dX12_power_205 (?_ : RR _ _ _ _ 206 _ _ _ _)
      rw [hlsh]
      refine R_cVv2 dX12_power_206 mvX12_tellsFraction mlX12_424 (by decide) (by decide) (Nat.le_of_ble_eq_true rfl) (Nat.le_of_ble_eq_true rfl) (T_X12_tellsFraction (by omega) (by omega)) (?_ : RR _ _ _ _ 209 _ _ _ _)
      refine R_iload dX12_power_209 rfl (?_ : RR _ _ _ _ 211 _ _ _ _)
      exact R_ireturn dX12_power_211 trivial (mQ_tm y6 rfl)
    | succ j ih =>
      intro x h1 w7 w8 hx hf1
      have hgb := pwG_b (V := xV X (h 154)) (np := np) (a := a) (p := p) (T := T) (own := own) x
      have IH := fun h1 w7 w8 hf1 => ih (x + 1) h1 w7 w8 (by omega) hf1
      rw [show it (pwG (xV X (h 154)) np a p T own) 0 (x + 1) = pwG (xV X (h 154)) np a p T own x (it (pwG (xV X (h 154)) np a p T own) 0 x) from rfl] at IH
      generalize it (pwG (xV X (h 154)) np a p T own) 0 x = s at hgb IH ⊢
      unfold pwG at IH
      have hxb := iAndN (a := x) (b := a) (n := 12) (show x < 2 ^ 12 by omega) (by omega) (by omega)
      by_cases q1 : bset (fun i => x.testBit i && !a.testBit i) 12 = 0
      · rw [q1] at hxb
        by_cases q2 : x.testBit p = true
        · rw [if_pos ⟨⟨by omega, q1⟩, q2⟩] at IH
          unfold pwF at IH
          have hsx := (sub_0 (a := a) (show x < 4096 by omega)).mp q1
          have hv := hVb x
          have K188 : ∀ (h2 : Nat → Int → Int) (w8 : PV), vtF h4 h2 → RR mX12_power 82 0 0 188 [pR 147, pI p, pI a, pI T, pI own, pI (s + pwT T own (pwV (xV X (h 154)) np x)), pI x, pI (pwV (xV X (h 154)) np x), w8] [] (shp0, rf0, h2) (mQ h3 N (some (frL N K).reverse)) := by
            intro h2 w8 hf2
            have IH2 := fun w7 w8 => IH h2 w7 w8 hf2
            refine R_iinc dX12_power_188 rfl (Nat.le_of_ble_eq_true rfl) (?_ : RR _ _ _ _ 191 [_, _, _, _, _, _, _, _, _] _ _ _)
            refine R_goto (t := 82) dX12_power_191 rfl (?_ : RR _ _ _ _ 82 _ _ _ _)
            exact IH2 _ _
          have K2 := MPW_112 (p := p) (a := a) (x := x) (T := T) (own := own) (many := s) (Q := mQ h3 N (some (frL N K).reverse)) hs hX e h4e (by omega) (fun o ho hb => hse o (hsx o hb)) (fun h2 w8 hf2 => MPW_156 hTb hownb (by omega) (K188 h2 w8 hf2)) np 0 h1 (by omega) hf1
          refine R_iload dX12_power_82 rfl (?_ : RR _ _ _ _ 84 _ _ _ _)
          refine R_iload_n dX12_power_84 rfl (?_ : RR _ _ _ _ 85 _ _ _ _)
          refine R_icmp_gt (t := 194) dX12_power_85 rfl (fun c85 => ?_) (fun c85 => ?_)
          · exfalso; omega
          refine R_iload dX12_power_88 rfl (?_ : RR _ _ _ _ 90 _ _ _ _)
          refine R_iload_n dX12_power_90 rfl (?_ : RR _ _ _ _ 91 _ _ _ _)
          refine R_iconst dX12_power_91 (?_ : RR _ _ _ _ 92 _ _ _ _)
          refine R_ixor dX12_power_92 (?_ : RR _ _ _ _ 93 _ _ _ _)
          refine R_iand dX12_power_93 (?_ : RR _ _ _ _ 94 _ _ _ _)
          rw [hxb]
          refine R_if_ne (t := 188) dX12_power_94 rfl (fun c94 => ?_) (fun c94 => ?_)
          · exfalso; omega
          refine R_iload dX12_power_97 rfl (?_ : RR _ _ _ _ 99 _ _ _ _)
          refine R_iload_n dX12_power_99 rfl (?_ : RR _ _ _ _ 100 _ _ _ _)
          refine R_cSi2 dX12_power_100 msX12_has mlX12_288 (by decide) (Nat.le_of_ble_eq_true rfl) (Nat.le_of_ble_eq_true rfl) (T_X12_has (by omega)) (?_ : RR _ _ _ _ 103 _ _ _ _)
          rw [if_pos q2]
          refine R_if_eq (t := 188) dX12_power_103 rfl (fun c103 => ?_) (fun c103 => ?_)
          · exfalso; omega
          refine R_iconst dX12_power_106 (?_ : RR _ _ _ _ 107 _ _ _ _)
          refine R_istore dX12_power_107 (Nat.le_of_ble_eq_true rfl) (?_ : RR _ _ _ _ 109 [_, _, _, _, _, _, _, _, _] _ _ _)
          refine R_iconst dX12_power_109 (?_ : RR _ _ _ _ 110 _ _ _ _)
          refine R_istore dX12_power_110 (Nat.le_of_ble_eq_true rfl) (?_ : RR _ _ _ _ 112 [_, _, _, _, _, _, _, _, _] _ _ _)
          exact K2
        · rw [if_neg (fun z => q2 z.2)] at IH
          refine R_iload dX12_power_82 rfl (?_ : RR _ _ _ _ 84 _ _ _ _)
          refine R_iload_n dX12_power_84 rfl (?_ : RR _ _ _ _ 85 _ _ _ _)
          refine R_icmp_gt (t := 194) dX12_power_85 rfl (fun c85 => ?_) (fun c85 => ?_)
          · exfalso; omega
          refine R_iload dX12_power_88 rfl (?_ : RR _ _ _ _ 90 _ _ _ _)
          refine R_iload_n dX12_power_90 rfl (?_ : RR _ _ _ _ 91 _ _ _ _)
          refine R_iconst dX12_power_91 (?_ : RR _ _ _ _ 92 _ _ _ _)
          refine R_ixor dX12_power_92 (?_ : RR _ _ _ _ 93 _ _ _ _)
          refine R_iand dX12_power_93 (?_ : RR _ _ _ _ 94 _ _ _ _)
          rw [hxb]
          refine R_if_ne (t := 188) dX12_power_94 rfl (fun c94 => ?_) (fun c94 => ?_)
          · exfalso; omega
          refine R_iload dX12_power_97 rfl (?_ : RR _ _ _ _ 99 _ _ _ _)
          refine R_iload_n dX12_power_99 rfl (?_ : RR _ _ _ _ 100 _ _ _ _)
          refine R_cSi2 dX12_power_100 msX12_has mlX12_288 (by decide) (Nat.le_of_ble_eq_true rfl) (Nat.le_of_ble_eq_true rfl) (T_X12_has (by omega)) (?_ : RR _ _ _ _ 103 _ _ _ _)
          rw [if_neg q2]
          refine R_if_eq (t := 188) dX12_power_103 rfl (fun c103 => ?_) (fun c103 => ?_)
          rotate_left
          · exfalso; omega
          refine R_iinc dX12_power_188 rfl (Nat.le_of_ble_eq_true rfl) (?_ : RR _ _ _ _ 191 [_, _, _, _, _, _, _, _, _] _ _ _)
          refine R_goto (t := 82) dX12_power_191 rfl (?_ : RR _ _ _ _ 82 _ _ _ _)
          exact IH h1 _ _ hf1
      · rw [if_neg (fun z => q1 z.1.2)] at IH
        have hbl := bset_lt (fun i => x.testBit i && !a.testBit i) 12
        generalize bset (fun i => x.testBit i && !a.testBit i) 12 = B at q1 hxb hbl
        refine R_iload dX12_power_82 rfl (?_ : RR _ _ _ _ 84 _ _ _ _)
        refine R_iload_n dX12_power_84 rfl (?_ : RR _ _ _ _ 85 _ _ _ _)
        refine R_icmp_gt (t := 194) dX12_power_85 rfl (fun c85 => ?_) (fun c85 => ?_)
        · exfalso; omega
        refine R_iload dX12_power_88 rfl (?_ : RR _ _ _ _ 90 _ _ _ _)
        refine R_iload_n dX12_power_90 rfl (?_ : RR _ _ _ _ 91 _ _ _ _)
        refine R_iconst dX12_power_91 (?_ : RR _ _ _ _ 92 _ _ _ _)
        refine R_ixor dX12_power_92 (?_ : RR _ _ _ _ 93 _ _ _ _)
        refine R_iand dX12_power_93 (?_ : RR _ _ _ _ 94 _ _ _ _)
        rw [hxb]
        refine R_if_ne (t := 188) dX12_power_94 rfl (fun c94 => ?_) (fun c94 => ?_)
        rotate_left
        · exfalso; omega
        refine R_iinc dX12_power_188 rfl (Nat.le_of_ble_eq_true rfl) (?_ : RR _ _ _ _ 191 [_, _, _, _, _, _, _, _, _] _ _ _)
        refine R_goto (t := 82) dX12_power_191 rfl (?_ : RR _ _ _ _ 82 _ _ _ _)
        exact IH h1 _ _ hf1
  obtain ⟨y1, y2, y3, y4, y5, y6, -⟩ := hypM hs hX e h4e vtF_rf
  have hri := T_X12_riding (h := h4) (r := 154) (np := np) y1.2.2.2.1 y3
  rw [y4, ← ha] at hri
  have hpo := M_polls (S := a) hs hX e h4e vtF_rf (fun p hp hb => hse p hb) al
  have g5 := y3
  have K44 : ∀ h2 : Nat → Int → Int, vtF h4 h2 → (∀ j : Int, 0 ≤ j → j < 3 → h2 162 j = poS a.testBit (xV X (h 154)) (xWi X (h 154)) np j) → RR mX12_power 82 0 0 44 [pR 147, pI p, pI a, pU, pU, pU, pU, pU, pU] [] (shp0, rf0, h2) (mQ h3 N (some (frL N K).reverse)) := by
    intro h2 hf2 hp2
    have q0 := hp2 0 (by omega) (by omega)
    have q1 := hp2 1 (by omega) (by omega)
    have q2 := hp2 2 (by omega) (by omega)
    rw [ha, poS_bset] at q0 q1 q2
    have hTe : h2 162 0 + h2 162 1 + h2 162 2 = T := by rw [q0, q1, q2, hT]
    have hv := M_votes (o := p) hs hX e h4e hf2 hp (hse p hap)
    rw [← hown] at hv
    have L0 := fun h1 w7 w8 hf1 => L (a + 1) 0 h1 w7 w8 (by omega) hf1
    refine R_aload_n dX12_power_44 rfl (?_ : RR _ _ _ _ 45 _ _ _ _)
    refine R_getr dX12_power_45 flX12_57 cok_12 rfl (by decide) (?_ : RR _ _ _ _ 48 _ _ _ _)
    refine R_iconst dX12_power_48 (?_ : RR _ _ _ _ 49 _ _ _ _)
    refine R_iald dX12_power_49 (fun q49 => (?_ : RR _ _ _ _ 50 _ _ _ _))
    refine R_aload_n dX12_power_50 rfl (?_ : RR _ _ _ _ 51 _ _ _ _)
    refine R_getr dX12_power_51 flX12_57 cok_12 rfl (by decide) (?_ : RR _ _ _ _ 54 _ _ _ _)
    refine R_iconst dX12_power_54 (?_ : RR _ _ _ _ 55 _ _ _ _)
    refine R_iald dX12_power_55 (fun q55 => (?_ : RR _ _ _ _ 56 _ _ _ _))
    refine R_iadd dX12_power_56 (?_ : RR _ _ _ _ 57 _ _ _ _)
    refine R_aload_n dX12_power_57 rfl (?_ : RR _ _ _ _ 58 _ _ _ _)
    refine R_getr dX12_power_58 flX12_57 cok_12 rfl (by decide) (?_ : RR _ _ _ _ 61 _ _ _ _)
    refine R_iconst dX12_power_61 (?_ : RR _ _ _ _ 62 _ _ _ _)
    refine R_iald dX12_power_62 (fun q62 => (?_ : RR _ _ _ _ 63 _ _ _ _))
    refine R_iadd dX12_power_63 (?_ : RR _ _ _ _ 64 _ _ _ _)
    rw [hTe]
    refine R_istore_n dX12_power_64 (Nat.le_of_ble_eq_true rfl) (?_ : RR _ _ _ _ 65 [_, _, _, _, _, _, _, _, _] _ _ _)
    refine R_aload_n dX12_power_65 rfl (?_ : RR _ _ _ _ 66 _ _ _ _)
    refine R_aload_n dX12_power_66 rfl (?_ : RR _ _ _ _ 67 _ _ _ _)
    refine R_getr dX12_power_67 flX12_33 cok_12 rfl (by decide) (?_ : RR _ _ _ _ 70 _ _ _ _)
    refine R_iload_n dX12_power_70 rfl (?_ : RR _ _ _ _ 71 _ _ _ _)
    refine R_qV2 dX12_power_71 mvX12_votesOf mlX12_294 (by decide) (by decide) (Nat.le_of_ble_eq_true rfl) (Nat.le_of_ble_eq_true rfl) (hv) (fun r9 g9 hq9 => (?_ : RR _ _ _ _ 74 _ _ _ _))
    obtain ⟨rfl, h5, rfl, hf5⟩ := hq9
    show RR _ _ _ _ _ _ [pI own] _ _
    refine R_istore dX12_power_74 (Nat.le_of_ble_eq_true rfl) (?_ : RR _ _ _ _ 76 [_, _, _, _, _, _, _, _, _] _ _ _)
    refine R_iconst dX12_power_76 (?_ : RR _ _ _ _ 77 _ _ _ _)
    refine R_istore dX12_power_77 (Nat.le_of_ble_eq_true rfl) (?_ : RR _ _ _ _ 79 [_, _, _, _, _, _, _, _, _] _ _ _)
    refine R_iconst dX12_power_79 (?_ : RR _ _ _ _ 80 _ _ _ _)
    refine R_istore dX12_power_80 (Nat.le_of_ble_eq_true rfl) (?_ : RR _ _ _ _ 82 [_, _, _, _, _, _, _, _, _] _ _ _)
    exact L0 h5 _ _ (vtF_tr hf2 (fun a a1 a2 a3 => hf5 a a1 a2))
  refine R_aload_n dX12_power_0 rfl (?_ : RR _ _ _ _ 1 _ _ _ _)
  refine R_iconst dX12_power_1 (?_ : RR _ _ _ _ 2 _ _ _ _)
  refine R_puti (zk := 0) dX12_power_2 flX12_106 cok_12 (by decide) (fun q hq => by cases hq; rfl) rfl (?_ : RR _ _ _ _ 5 _ _ _ _)
  rw [← h4e]
  refine R_aload_n dX12_power_5 rfl (?_ : RR _ _ _ _ 6 _ _ _ _)
  refine R_iload_n dX12_power_6 rfl (?_ : RR _ _ _ _ 7 _ _ _ _)
  refine R_cVi1 dX12_power_7 mvX12_isPassenger mlX12_325 (by decide) (by decide) (Nat.le_of_ble_eq_true rfl) (Nat.le_of_ble_eq_true rfl) (T_X12_isPassenger (by rw [g5]; omega)) (?_ : RR _ _ _ _ 10 _ _ _ _)
  rw [g5, if_pos (by omega)]
  refine R_if_ne (t := 15) dX12_power_10 rfl (fun c10 => ?_) (fun c10 => ?_)
  rotate_left
  · exfalso; omega
  refine R_aload_n dX12_power_15 rfl (?_ : RR _ _ _ _ 16 _ _ _ _)
  refine R_aload_n dX12_power_16 rfl (?_ : RR _ _ _ _ 17 _ _ _ _)
  refine R_getr dX12_power_17 flX12_33 cok_12 rfl (by decide) (?_ : RR _ _ _ _ 20 _ _ _ _)
  refine R_cVi1 dX12_power_20 mvX12_riding mlX12_303 (by decide) (by decide) (Nat.le_of_ble_eq_true rfl) (Nat.le_of_ble_eq_true rfl) (hri) (?_ : RR _ _ _ _ 23 _ _ _ _)
  refine R_istore_n dX12_power_23 (Nat.le_of_ble_eq_true rfl) (?_ : RR _ _ _ _ 24 [_, _, _, _, _, _, _, _, _] _ _ _)
  refine R_iload_n dX12_power_24 rfl (?_ : RR _ _ _ _ 25 _ _ _ _)
  refine R_iload_n dX12_power_25 rfl (?_ : RR _ _ _ _ 26 _ _ _ _)
  refine R_cSi2 dX12_power_26 msX12_has mlX12_288 (by decide) (Nat.le_of_ble_eq_true rfl) (Nat.le_of_ble_eq_true rfl) (T_X12_has (by omega)) (?_ : RR _ _ _ _ 29 _ _ _ _)
  rw [if_pos hap]
  refine R_if_ne (t := 35) dX12_power_29 rfl (fun c29 => ?_) (fun c29 => ?_)
  rotate_left
  · exfalso; omega
  refine R_aload_n dX12_power_35 rfl (?_ : RR _ _ _ _ 36 _ _ _ _)
  refine R_aload_n dX12_power_36 rfl (?_ : RR _ _ _ _ 37 _ _ _ _)
  refine R_getr dX12_power_37 flX12_33 cok_12 rfl (by decide) (?_ : RR _ _ _ _ 40 _ _ _ _)
  refine R_iload_n dX12_power_40 rfl (?_ : RR _ _ _ _ 41 _ _ _ _)
  refine R_qV2 dX12_power_41 mvX12_polls mlX12_297 (by decide) (by decide) (Nat.le_of_ble_eq_true rfl) (Nat.le_of_ble_eq_true rfl) (hpo) (fun r9 g9 hq9 => (?_ : RR _ _ _ _ 44 _ _ _ _))
  obtain ⟨rfl, h5, rfl, hf5, hp5⟩ := hq9
  show RR _ _ _ _ _ _ [] _ _
  exact K44 h5 hf5 hp5
theorem A_power (hs : SRx k h sem H np nc len) (hv : r32 v) : AG mX11_power mX12_power 5 82 [pI v] k h := by
  have x6 := sR6 hs
  have x12 := sR12 hs
  have hcp := hs.2.2.2.1.1
  obtain ⟨hf, e0, e1, e2, e3, ep, ea, es⟩ := id hcp
  have h11 : h 11 0 = np := hs.1.2.2.2.2.2.2.1.2.1.1
  have h5 : h 147 5 = np := hs.1.2.2.1
  have t14 := isTr_14
  have r154 := isRw_154
  by_cases q : 0 ≤ v ∧ v < np
  · obtain ⟨p, rfl⟩ := Int.eq_ofNat_of_zero_le q.1
    by_cases rd : ridP (h 154) p = true
    · obtain ⟨N, hN⟩ := Int.eq_ofNat_of_zero_le (pwN_b (V := xV (cxM sem h np nc) (h 154)) (np := np) (a := bset (ridP (h 154)) np) (p := p) (T := poS (ridP (h 154)) (xV (cxM sem h np nc) (h 154)) (xWi (cxM sem h np nc) (h 154)) np 0 + poS (ridP (h 154)) (xV (cxM sem h np nc) (h 154)) (xWi (cxM sem h np nc) (h 154)) np 1 + poS (ridP (h 154)) (xV (cxM sem h np nc) (h 154)) (xWi (cxM sem h np nc) (h 154)) np 2) (own := xV (cxM sem h np nc) (h 154) p) (2 ^ pop 12 (oth (bset (ridP (h 154)) np) p))).1
      exact A_q hs (C_power hs rfl (by omega) rfl rd rfl rfl rfl hN.symm) (fun h3 e => M_power hs rfl (by omega) rfl rd rfl rfl rfl hN.symm e) (fun L e => by injection e with e; subst e; exact frL_l)
    · have hsp : mS (h 154) p = -1 ∨ (0 ≤ mS (h 154) p ∧ mS (h 154) p < nc ∧ _) := hf.2.2.2.2.2 p (show p < np by omega)
      have esp : h (14 + 4) p = mS (h 154) p := es p (show p < np by omega)
      have rd2 : ¬ (0 ≤ mS (h 154) p ∧ 0 ≤ mP (h 154) (mS (h 154) p)) := fun z => rd (by unfold ridP; exact decide_eq_true z)
      have rd3 : ¬ (h (14 + 4) p ≠ -1 ∧ h (14 + 2) (h (14 + 4) p) ≠ -1) := fun z => rd2 (by
        rw [esp] at z
        have hz := ep (mS (h 154) p).toNat (show (mS (h 154) p).toNat < nc by omega)
        rw [show (((mS (h 154) p).toNat : Nat) : Int) = mS (h 154) p by omega] at hz
        rw [hz] at z
        have := fOK_pl hf (c := mS (h 154) p) (by omega) (show mS (h 154) p < nc by omega)
        omega)
      refine A_q hs (z := -2) (o := none) (cQ_no (M := mX11_power) (d := 5) (As := [pR 0, pI p]) (MT.of (fun Q hQ => (?_ : RR mX11_power _ _ _ _ [pR 0, pI p, pU, pU, pU, pU, pU, pU, pU, pU, pU, pU, pU, pU] _ _ _)))) (fun h3 e => mQ_thr (M := mX12_power) (d := 82) (As := [pR 147, pI p]) (MT.of (fun Q hQ => (?_ : RR mX12_power _ _ _ _ [pR 147, pI p, pU, pU, pU, pU, pU, pU, pU] _ _ _)))) (fun L e => by cases e)
      · refine R_aload_n dX11_power_0 rfl (?_ : RR _ _ _ _ 1 _ _ _ _)
        refine R_getr dX11_power_1 flX11_29 cok_11 rfl (by decide) (?_ : RR _ _ _ _ 4 _ _ _ _)
        refine R_iload_n dX11_power_4 rfl (?_ : RR _ _ _ _ 5 _ _ _ _)
        refine R_cVi1 dX11_power_5 mvX2_has mlX11_202 (by decide) (by decide) (Nat.le_of_ble_eq_true rfl) (Nat.le_of_ble_eq_true rfl) (T_X2_has) (?_ : RR _ _ _ _ 8 _ _ _ _)
        rw [h11, if_pos q]
        refine R_if_ne (t := 13) dX11_power_8 rfl (fun c8 => ?_) (fun c8 => ?_)
        rotate_left
        · exfalso; omega
        refine R_aload_n dX11_power_13 rfl (?_ : RR _ _ _ _ 14 _ _ _ _)
        refine R_getr dX11_power_14 flX11_36 cok_11 rfl (by decide) (?_ : RR _ _ _ _ 17 _ _ _ _)
        refine R_iload_n dX11_power_17 rfl (?_ : RR _ _ _ _ 18 _ _ _ _)
        refine R_cVi1 dX11_power_18 mvX9_carries mlX11_330 (by decide) (by decide) (Nat.le_of_ble_eq_true rfl) (Nat.le_of_ble_eq_true rfl) (T_X9_carries (hs := by rw [esp]; omega)) (?_ : RR _ _ _ _ 21 _ _ _ _)
        rw [if_neg rd3]
        refine R_if_ne (t := 27) dX11_power_21 rfl (fun c21 => ?_) (fun c21 => ?_)
        · exfalso; omega
        refine R_bipush dX11_power_24 rfl (?_ : RR _ _ _ _ 26 _ _ _ _)
        exact R_ireturn dX11_power_26 trivial hQ
      · have g5 : h3 147 5 = np := by rw [e 147 (by omega)]; exact h5
        have E154 : h3 154 = h 154 := e 154 (by omega)
        have hsr : ∀ j : Nat, j < np → mS (rup h3 147 (fup (h3 147) 0 0) 154) j = -1 ∨ (0 ≤ mS (rup h3 147 (fup (h3 147) 0 0) 154) j ∧ mS (rup h3 147 (fup (h3 147) 0 0) 154) j < 6) := fun j hj => by
          rw [rup_n (by omega), E154]
          have : mS (h 154) j = -1 ∨ (0 ≤ mS (h 154) j ∧ mS (h 154) j < nc ∧ _) := hf.2.2.2.2.2 j hj
          omega
        refine R_aload_n dX12_power_0 rfl (?_ : RR _ _ _ _ 1 _ _ _ _)
        refine R_iconst dX12_power_1 (?_ : RR _ _ _ _ 2 _ _ _ _)
        refine R_puti (zk := 0) dX12_power_2 flX12_106 cok_12 (by decide) (fun q hq => by cases hq; rfl) rfl (?_ : RR _ _ _ _ 5 _ _ _ _)
        refine R_aload_n dX12_power_5 rfl (?_ : RR _ _ _ _ 6 _ _ _ _)
        refine R_iload_n dX12_power_6 rfl (?_ : RR _ _ _ _ 7 _ _ _ _)
        refine R_cVi1 dX12_power_7 mvX12_isPassenger mlX12_325 (by decide) (by decide) (Nat.le_of_ble_eq_true rfl) (Nat.le_of_ble_eq_true rfl) (T_X12_isPassenger (by simp (disch := omega) only [rup_s, fup_n]; rw [g5]; omega)) (?_ : RR _ _ _ _ 10 _ _ _ _)
        simp (disch := omega) only [rup_s, fup_n]
        rw [g5, if_pos (by omega)]
        refine R_if_ne (t := 15) dX12_power_10 rfl (fun c10 => ?_) (fun c10 => ?_)
        rotate_left
        · exfalso; omega
        refine R_aload_n dX12_power_15 rfl (?_ : RR _ _ _ _ 16 _ _ _ _)
        refine R_aload_n dX12_power_16 rfl (?_ : RR _ _ _ _ 17 _ _ _ _)
        refine R_getr dX12_power_17 flX12_33 cok_12 rfl (by decide) (?_ : RR _ _ _ _ 20 _ _ _ _)
        refine R_cVi1 dX12_power_20 mvX12_riding mlX12_303 (by decide) (by decide) (Nat.le_of_ble_eq_true rfl) (Nat.le_of_ble_eq_true rfl) (T_X12_riding (np := np) hsr (by simp (disch := omega) only [rup_s, fup_n]; exact g5)) (?_ : RR _ _ _ _ 23 _ _ _ _)
        refine R_istore_n dX12_power_23 (Nat.le_of_ble_eq_true rfl) (?_ : RR _ _ _ _ 24 [_, _, _, _, _, _, _, _, _] _ _ _)
        refine R_iload_n dX12_power_24 rfl (?_ : RR _ _ _ _ 25 _ _ _ _)
        refine R_iload_n dX12_power_25 rfl (?_ : RR _ _ _ _ 26 _ _ _ _)
        refine R_cSi2 dX12_power_26 msX12_has mlX12_288 (by decide) (Nat.le_of_ble_eq_true rfl) (Nat.le_of_ble_eq_true rfl) (T_X12_has (bset_31 (by omega))) (?_ : RR _ _ _ _ 29 _ _ _ _)
        rw [rup_n (by omega), E154, if_neg (by rw [bset_bit]; simpa [show p < np by omega] using rd)]
        refine R_if_ne (t := 35) dX12_power_29 rfl (fun c29 => ?_) (fun c29 => ?_)
        · exfalso; omega
        refine R_bipush dX12_power_32 rfl (?_ : RR _ _ _ _ 34 _ _ _ _)
        exact R_ireturn dX12_power_34 trivial hQ
  · refine A_q hs (z := -1) (o := none) (cQ_no (M := mX11_power) (d := 5) (As := [pR 0, pI v]) (MT.of (fun Q hQ => (?_ : RR mX11_power _ _ _ _ [pR 0, pI v, pU, pU, pU, pU, pU, pU, pU, pU, pU, pU, pU, pU] _ _ _)))) (fun h3 e => mQ_thr (M := mX12_power) (d := 82) (As := [pR 147, pI v]) (MT.of (fun Q hQ => (?_ : RR mX12_power _ _ _ _ [pR 147, pI v, pU, pU, pU, pU, pU, pU, pU] _ _ _)))) (fun L e => by cases e)
    · refine R_aload_n dX11_power_0 rfl (?_ : RR _ _ _ _ 1 _ _ _ _)
      refine R_getr dX11_power_1 flX11_29 cok_11 rfl (by decide) (?_ : RR _ _ _ _ 4 _ _ _ _)
      refine R_iload_n dX11_power_4 rfl (?_ : RR _ _ _ _ 5 _ _ _ _)
      refine R_cVi1 dX11_power_5 mvX2_has mlX11_202 (by decide) (by decide) (Nat.le_of_ble_eq_true rfl) (Nat.le_of_ble_eq_true rfl) (T_X2_has) (?_ : RR _ _ _ _ 8 _ _ _ _)
      rw [h11, if_neg q]
      refine R_if_ne (t := 13) dX11_power_8 rfl (fun c8 => ?_) (fun c8 => ?_)
      · exfalso; omega
      refine R_iconst dX11_power_11 (?_ : RR _ _ _ _ 12 _ _ _ _)
      exact R_ireturn dX11_power_12 trivial hQ
    · have g5 : h3 147 5 = np := by rw [e 147 (by omega)]; exact h5
      refine R_aload_n dX12_power_0 rfl (?_ : RR _ _ _ _ 1 _ _ _ _)
      refine R_iconst dX12_power_1 (?_ : RR _ _ _ _ 2 _ _ _ _)
      refine R_puti (zk := 0) dX12_power_2 flX12_106 cok_12 (by decide) (fun q hq => by cases hq; rfl) rfl (?_ : RR _ _ _ _ 5 _ _ _ _)
      refine R_aload_n dX12_power_5 rfl (?_ : RR _ _ _ _ 6 _ _ _ _)
      refine R_iload_n dX12_power_6 rfl (?_ : RR _ _ _ _ 7 _ _ _ _)
      refine R_cVi1 dX12_power_7 mvX12_isPassenger mlX12_325 (by decide) (by decide) (Nat.le_of_ble_eq_true rfl) (Nat.le_of_ble_eq_true rfl) (T_X12_isPassenger (by simp (disch := omega) only [rup_s, fup_n]; rw [g5]; omega)) (?_ : RR _ _ _ _ 10 _ _ _ _)
      simp (disch := omega) only [rup_s, fup_n]
      rw [g5, if_neg (fun z => q ⟨z.1, by omega⟩)]
      refine R_if_ne (t := 15) dX12_power_10 rfl (fun c10 => ?_) (fun c10 => ?_)
      · exfalso; omega
      refine R_iconst dX12_power_13 (?_ : RR _ _ _ _ 14 _ _ _ _)
      exact R_ireturn dX12_power_14 trivial hQ
end MW
