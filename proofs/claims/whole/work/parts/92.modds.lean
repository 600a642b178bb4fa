section MOD
variable {k : Nat} {h h1 h2 h3 h4 : Nat → Int → Int} {sem : Sem} {H np nc len : Nat} {v u w : Int} {X : Cx}
/-- the share of one set, passenger by passenger -/
def odI (p x a o : Nat) : Nat := (10 - p) ^ cnB x o * p ^ (cnB a o - cnB x o)
theorem odI_0 {p x a o : Nat} (hx : x.testBit o = false) (ha : a.testBit o = false) : odI p x a (o + 1) = odI p x a o := by
  show (10 - p) ^ (cnB x o + (if x.testBit o then 1 else 0)) * p ^ (cnB a o + (if a.testBit o then 1 else 0) - (cnB x o + (if x.testBit o then 1 else 0))) = _
  rw [hx, ha]
  rfl
theorem odI_1 {p x a o : Nat} (hx : x.testBit o = true) (ha : a.testBit o = true) : odI p x a (o + 1) = odI p x a o * (10 - p) := by
  show (10 - p) ^ (cnB x o + (if x.testBit o then 1 else 0)) * p ^ (cnB a o + (if a.testBit o then 1 else 0) - (cnB x o + (if x.testBit o then 1 else 0))) = _
  rw [hx, ha, if_pos rfl, Nat.add_sub_add_right, Nat.pow_succ]
  unfold odI
  rw [Nat.mul_assoc, Nat.mul_assoc, Nat.mul_comm (10 - p)]
theorem odI_2 {p x a o : Nat} (hx : x.testBit o = false) (ha : a.testBit o = true) (hle : cnB x o ≤ cnB a o) : odI p x a (o + 1) = odI p x a o * p := by
  show (10 - p) ^ (cnB x o + (if x.testBit o then 1 else 0)) * p ^ (cnB a o + (if a.testBit o then 1 else 0) - (cnB x o + (if x.testBit o then 1 else 0))) = _
  rw [hx, ha, if_pos rfl, if_neg (by simp), Nat.add_zero, show cnB a o + 1 - cnB x o = (cnB a o - cnB x o) + 1 by omega, Nat.pow_succ]
  unfold odI
  rw [Nat.mul_assoc]
theorem MOD_121 {c : Int} {p x a : Nat} {up dn : Int} {Q : Option PV → PH → Prop} (hx : sub2 x a) (ha : a < 4096) (hp : p ≤ 10) (x12 : np ≤ 12) (g5 : h1 147 5 = np) (KK : RR mX12_odds 82 0 0 175 [pR 147, pI c, pI v, pI p, pI a, pL up, pU, pL dn, pU, pI x, pL (odI p x a np : Nat), pU, pI np] [] (shp0, rf0, h1) Q) : ∀ (j o : Nat), o + j = np → RR mX12_odds 82 0 0 121 [pR 147, pI c, pI v, pI p, pI a, pL up, pU, pL dn, pU, pI x, pL (odI p x a o : Nat), pU, pI o] [] (shp0, rf0, h1) Q := by
  have hxl : x < 4096 := by have := sub2_le hx; omega
  intro j
  induction j with
  | zero =>
    intro o ho
    obtain rfl : o = np := by omega
    refine R_iload dX12_odds_121 rfl (?_ : RR _ _ _ _ 123 _ _ _ _)
    refine R_aload_n dX12_odds_123 rfl (?_ : RR _ _ _ _ 124 _ _ _ _)
    refine R_geti (z := 5) dX12_odds_124 flX12_127 cok_12 rfl (by decide) rfl (fun q124 => (?_ : RR _ _ _ _ 127 _ _ _ _))
    rw [g5] at q124 ⊢
    refine R_icmp_ge (t := 175) dX12_odds_127 rfl (fun c127 => ?_) (fun c127 => ?_)
    rotate_left
    · exfalso; omega
    exact KK
  | succ j ih =>
    intro o ho
    have IH := ih (o + 1) (by omega)
    cases ya : a.testBit o
    · have yx : x.testBit o = false := by
        cases z : x.testBit o
        · rfl
        · rw [hx o z] at ya; cases ya
      rw [odI_0 yx ya] at IH
      refine R_iload dX12_odds_121 rfl (?_ : RR _ _ _ _ 123 _ _ _ _)
      refine R_aload_n dX12_odds_123 rfl (?_ : RR _ _ _ _ 124 _ _ _ _)
      refine R_geti (z := 5) dX12_odds_124 flX12_127 cok_12 rfl (by decide) rfl (fun q124 => (?_ : RR _ _ _ _ 127 _ _ _ _))
      rw [g5] at q124 ⊢
      refine R_icmp_ge (t := 175) dX12_odds_127 rfl (fun c127 => ?_) (fun c127 => ?_)
      · exfalso; omega
      refine R_lload dX12_odds_130 rfl (?_ : RR _ _ _ _ 132 _ _ _ _)
      refine R_iload dX12_odds_132 rfl (?_ : RR _ _ _ _ 134 _ _ _ _)
      refine R_iload dX12_odds_134 rfl (?_ : RR _ _ _ _ 136 _ _ _ _)
      refine R_cSi2 dX12_odds_136 msX12_has mlX12_288 (by decide) (Nat.le_of_ble_eq_true rfl) (Nat.le_of_ble_eq_true rfl) (T_X12_has (by omega)) (?_ : RR _ _ _ _ 139 _ _ _ _)
      rw [if_neg (by rw [ya]; simp)]
      refine R_if_ne (t := 146) dX12_odds_139 rfl (fun c139 => ?_) (fun c139 => ?_)
      · exfalso; omega
      refine R_lconst (z := 1) dX12_odds_142 rfl (?_ : RR _ _ _ _ 143 _ _ _ _)
      refine R_goto (t := 166) dX12_odds_143 rfl (?_ : RR _ _ _ _ 166 _ _ _ _)
      refine R_lmul dX12_odds_166 (?_ : RR _ _ _ _ 167 _ _ _ _)
      rw [Int.mul_one]
      refine R_lstore dX12_odds_167 (Nat.le_of_ble_eq_true rfl) (?_ : RR _ _ _ _ 169 [_, _, _, _, _, _, _, _, _, _, _, _, _] _ _ _)
      refine R_iinc dX12_odds_169 rfl (Nat.le_of_ble_eq_true rfl) (?_ : RR _ _ _ _ 172 [_, _, _, _, _, _, _, _, _, _, _, _, _] _ _ _)
      refine R_goto (t := 121) dX12_odds_172 rfl (?_ : RR _ _ _ _ 121 _ _ _ _)
      exact IH
    · cases yx : x.testBit o
      · rw [odI_2 yx ya (cnB_le hx o), Int.natCast_mul] at IH
        refine R_iload dX12_odds_121 rfl (?_ : RR _ _ _ _ 123 _ _ _ _)
        refine R_aload_n dX12_odds_123 rfl (?_ : RR _ _ _ _ 124 _ _ _ _)
        refine R_geti (z := 5) dX12_odds_124 flX12_127 cok_12 rfl (by decide) rfl (fun q124 => (?_ : RR _ _ _ _ 127 _ _ _ _))
        rw [g5] at q124 ⊢
        refine R_icmp_ge (t := 175) dX12_odds_127 rfl (fun c127 => ?_) (fun c127 => ?_)
        · exfalso; omega
        refine R_lload dX12_odds_130 rfl (?_ : RR _ _ _ _ 132 _ _ _ _)
        refine R_iload dX12_odds_132 rfl (?_ : RR _ _ _ _ 134 _ _ _ _)
        refine R_iload dX12_odds_134 rfl (?_ : RR _ _ _ _ 136 _ _ _ _)
        refine R_cSi2 dX12_odds_136 msX12_has mlX12_288 (by decide) (Nat.le_of_ble_eq_true rfl) (Nat.le_of_ble_eq_true rfl) (T_X12_has (by omega)) (?_ : RR _ _ _ _ 139 _ _ _ _)
        rw [if_pos ya]
        refine R_if_ne (t := 146) dX12_odds_139 rfl (fun c139 => ?_) (fun c139 => ?_)
        rotate_left
        · exfalso; omega
        refine R_iload dX12_odds_146 rfl (?_ : RR _ _ _ _ 148 _ _ _ _)
        refine R_iload dX12_odds_148 rfl (?_ : RR _ _ _ _ 150 _ _ _ _)
        refine R_cSi2 dX12_odds_150 msX12_has mlX12_288 (by decide) (Nat.le_of_ble_eq_true rfl) (Nat.le_of_ble_eq_true rfl) (T_X12_has (by omega)) (?_ : RR _ _ _ _ 153 _ _ _ _)
        rw [if_neg (by rw [yx]; simp)]
        refine R_if_eq (t := 164) dX12_odds_153 rfl (fun c153 => ?_) (fun c153 => ?_)
        rotate_left
        · exfalso; omega
        refine R_iload_n dX12_odds_164 rfl (?_ : RR _ _ _ _ 165 _ _ _ _)
        refine R_i2l dX12_odds_165 (by first | assumption | omega) (?_ : RR _ _ _ _ 166 _ _ _ _)
        refine R_lmul dX12_odds_166 (?_ : RR _ _ _ _ 167 _ _ _ _)
        refine R_lstore dX12_odds_167 (Nat.le_of_ble_eq_true rfl) (?_ : RR _ _ _ _ 169 [_, _, _, _, _, _, _, _, _, _, _, _, _] _ _ _)
        refine R_iinc dX12_odds_169 rfl (Nat.le_of_ble_eq_true rfl) (?_ : RR _ _ _ _ 172 [_, _, _, _, _, _, _, _, _, _, _, _, _] _ _ _)
        refine R_goto (t := 121) dX12_odds_172 rfl (?_ : RR _ _ _ _ 121 _ _ _ _)
        exact IH
      · rw [odI_1 yx ya, Int.natCast_mul, show ((10 - p : Nat) : Int) = 10 - (p : Int) by omega] at IH
        refine R_iload dX12_odds_121 rfl (?_ : RR _ _ _ _ 123 _ _ _ _)
        refine R_aload_n dX12_odds_123 rfl (?_ : RR _ _ _ _ 124 _ _ _ _)
        refine R_geti (z := 5) dX12_odds_124 flX12_127 cok_12 rfl (by decide) rfl (fun q124 => (?_ : RR _ _ _ _ 127 _ _ _ _))
        rw [g5] at q124 ⊢
        refine R_icmp_ge (t := 175) dX12_odds_127 rfl (fun c127 => ?_) (fun c127 => ?_)
        · exfalso; omega
        refine R_lload dX12_odds_130 rfl (?_ : RR _ _ _ _ 132 _ _ _ _)
        refine R_iload dX12_odds_132 rfl (?_ : RR _ _ _ _ 134 _ _ _ _)
        refine R_iload dX12_odds_134 rfl (?_ : RR _ _ _ _ 136 _ _ _ _)
        refine R_cSi2 dX12_odds_136 msX12_has mlX12_288 (by decide) (Nat.le_of_ble_eq_true rfl) (Nat.le_of_ble_eq_true rfl) (T_X12_has (by omega)) (?_ : RR _ _ _ _ 139 _ _ _ _)
        rw [if_pos ya]
        refine R_if_ne (t := 146) dX12_odds_139 rfl (fun c139 => ?_) (fun c139 => ?_)
        rotate_left
        · exfalso; omega
        refine R_iload dX12_odds_146 rfl (?_ : RR _ _ _ _ 148 _ _ _ _)
        refine R_iload dX12_odds_148 rfl (?_ : RR _ _ _ _ 150 _ _ _ _)
        refine R_cSi2 dX12_odds_150 msX12_has mlX12_288 (by decide) (Nat.le_of_ble_eq_true rfl) (Nat.le_of_ble_eq_true rfl) (T_X12_has (by omega)) (?_ : RR _ _ _ _ 153 _ _ _ _)
        rw [if_pos yx]
        refine R_if_eq (t := 164) dX12_odds_153 rfl (fun c153 => ?_) (fun c153 => ?_)
        · exfalso; omega
        refine R_bipush dX12_odds_156 rfl (?_ : RR _ _ _ _ 158 _ _ _ _)
        refine R_iload_n dX12_odds_158 rfl (?_ : RR _ _ _ _ 159 _ _ _ _)
        refine R_isub dX12_odds_159 (?_ : RR _ _ _ _ 160 _ _ _ _)
        refine R_i2l dX12_odds_160 (by first | assumption | omega) (?_ : RR _ _ _ _ 161 _ _ _ _)
        refine R_goto (t := 166) dX12_odds_161 rfl (?_ : RR _ _ _ _ 166 _ _ _ _)
        refine R_lmul dX12_odds_166 (?_ : RR _ _ _ _ 167 _ _ _ _)
        refine R_lstore dX12_odds_167 (Nat.le_of_ble_eq_true rfl) (?_ : RR _ _ _ _ 169 [_, _, _, _, _, _, _, _, _, _, _, _, _] _ _ _)
        refine R_iinc dX12_odds_169 rfl (Nat.le_of_ble_eq_true rfl) (?_ : RR _ _ _ _ 172 [_, _, _, _, _, _, _, _, _, _, _, _, _] _ _ _)
        refine R_goto (t := 121) dX12_odds_172 rfl (?_ : RR _ _ _ _ 121 _ _ _ _)
        exact IH
/-- the vote of the set is counted -/
theorem MOD_185 {c : Int} {p x a up t : Nat} {dn val : Int} {w12 : PV} {Q : Option PV → PH → Prop} (hn : ∀ j : Int, 0 ≤ j → j < 3 → 0 ≤ h1 162 j) (hv : val = chS (h1 162 0) (h1 162 1) (h1 162 2)) (hvr : 0 ≤ v ∧ v ≤ 2) (KK : RR mX12_odds 82 0 0 204 [pR 147, pI c, pI v, pI p, pI a, pL ((up + (if val = v then t else 0) : Nat) : Int), pU, pL dn, pU, pI x, pL t, pU, w12] [] (shp0, rf0, h1) Q) : RR mX12_odds 82 0 0 185 [pR 147, pI c, pI v, pI p, pI a, pL up, pU, pL dn, pU, pI x, pL t, pU, w12] [] (shp0, rf0, h1) Q := by
  have hT := T_X12_polled (h := h1) (hn 0 (by omega) (by omega)) (hn 1 (by omega) (by omega)) (hn 2 (by omega) (by omega))
  rw [← hv] at hT
  have hvb : 0 ≤ val ∧ val ≤ 2 := by rw [hv]; exact chS_b
  by_cases q : val = v
  · rw [if_pos q, Int.natCast_add] at KK
    refine R_lload dX12_odds_185 rfl (?_ : RR _ _ _ _ 187 _ _ _ _)
    refine R_aload_n dX12_odds_187 rfl (?_ : RR _ _ _ _ 188 _ _ _ _)
    refine R_cVi0 dX12_odds_188 mvX12_polled mlX12_300 (by decide) (by decide) (Nat.le_of_ble_eq_true rfl) (Nat.le_of_ble_eq_true rfl) (hT) (?_ : RR _ _ _ _ 191 _ _ _ _)
    refine R_iload_n dX12_odds_191 rfl (?_ : RR _ _ _ _ 192 _ _ _ _)
    refine R_icmp_ne (t := 200) dX12_odds_192 rfl (fun c192 => ?_) (fun c192 => ?_)
    · exfalso; omega
    refine R_lload dX12_odds_195 rfl (?_ : RR _ _ _ _ 197 _ _ _ _)
    refine R_goto (t := 201) dX12_odds_197 rfl (?_ : RR _ _ _ _ 201 _ _ _ _)
    refine R_ladd dX12_odds_201 (?_ : RR _ _ _ _ 202 _ _ _ _)
    refine R_lstore dX12_odds_202 (Nat.le_of_ble_eq_true rfl) (?_ : RR _ _ _ _ 204 [_, _, _, _, _, _, _, _, _, _, _, _, _] _ _ _)
    exact KK
  · rw [if_neg q, Nat.add_zero] at KK
    refine R_lload dX12_odds_185 rfl (?_ : RR _ _ _ _ 187 _ _ _ _)
    refine R_aload_n dX12_odds_187 rfl (?_ : RR _ _ _ _ 188 _ _ _ _)
    refine R_cVi0 dX12_odds_188 mvX12_polled mlX12_300 (by decide) (by decide) (Nat.le_of_ble_eq_true rfl) (Nat.le_of_ble_eq_true rfl) (hT) (?_ : RR _ _ _ _ 191 _ _ _ _)
    refine R_iload_n dX12_odds_191 rfl (?_ : RR _ _ _ _ 192 _ _ _ _)
    refine R_icmp_ne (t := 200) dX12_odds_192 rfl (fun c192 => ?_) (fun c192 => ?_)
    rotate_left
    · exfalso; omega
    refine R_lconst (z := 0) dX12_odds_200 rfl (?_ : RR _ _ _ _ 201 _ _ _ _)
    refine R_ladd dX12_odds_201 (?_ : RR _ _ _ _ 202 _ _ _ _)
    rw [Int.add_zero]
    refine R_lstore dX12_odds_202 (Nat.le_of_ble_eq_true rfl) (?_ : RR _ _ _ _ 204 [_, _, _, _, _, _, _, _, _, _, _, _, _] _ _ _)
    exact KK
theorem MOD_76 {c : Int} {p a : Nat} {n : Nat} {Q : Option PV → PH → Prop} (hn : n ≤ 12) (KK : RR mX12_odds 82 0 0 95 [pR 147, pI c, pI v, pI p, pI a, pL 0, pU, pL (10 ^ n : Nat), pU, pI 0, pU, pU, pU] [] (shp0, rf0, h1) Q) : ∀ (i j : Nat), i + j = n → RR mX12_odds 82 0 0 76 [pR 147, pI c, pI v, pI p, pI a, pL 0, pU, pL (10 ^ i : Nat), pU, pI j, pU, pU, pU] [] (shp0, rf0, h1) Q := by
  intro i j
  induction j generalizing i with
  | zero =>
    intro hi
    obtain rfl : i = n := by omega
    refine R_iload dX12_odds_76 rfl (?_ : RR _ _ _ _ 78 _ _ _ _)
    refine R_if_le (t := 95) dX12_odds_78 rfl (fun c78 => ?_) (fun c78 => ?_)
    rotate_left
    · exfalso; omega
    exact KK
  | succ j ih =>
    intro hi
    have IH := ih (i + 1) (by omega)
    rw [Nat.pow_succ, Int.natCast_mul] at IH
    refine R_iload dX12_odds_76 rfl (?_ : RR _ _ _ _ 78 _ _ _ _)
    refine R_if_le (t := 95) dX12_odds_78 rfl (fun c78 => ?_) (fun c78 => ?_)
    · exfalso; omega
    refine R_lload dX12_odds_81 rfl (?_ : RR _ _ _ _ 83 _ _ _ _)
    refine R_ldc2 (z := 10) dX12_odds_83 klX12_460 (?_ : RR _ _ _ _ 86 _ _ _ _)
    refine R_lmul dX12_odds_86 (?_ : RR _ _ _ _ 87 _ _ _ _)
    refine R_lstore dX12_odds_87 (Nat.le_of_ble_eq_true rfl) (?_ : RR _ _ _ _ 89 [_, _, _, _, _, _, _, _, _, _, _, _, _] _ _ _)
    refine R_iinc dX12_odds_89 rfl (Nat.le_of_ble_eq_true rfl) (?_ : RR _ _ _ _ 92 [_, _, _, _, _, _, _, _, _, _, _, _, _] _ _ _)
    rw [show ((j + 1 : Nat) : Int) + -1 = (j : Int) by omega]
    refine R_goto (t := 76) dX12_odds_92 rfl (?_ : RR _ _ _ _ 76 _ _ _ _)
    exact IH
theorem M_odds {c p a n : Nat} {N : Nat} (hs : SRx k h sem H np nc len) (hX : X = cxM sem h np nc) (hc : c < nc) (hv : 0 ≤ v ∧ v ≤ 2) (hp : p ≤ 10) (ha : a = bset (fun p => decide (mS (h 154) p = (c : Int))) np) (hn : n = pop 12 a) (hn8 : n ≤ 8) (hN : N = odN (xV X (h 154)) (xWi X (h 154)) np p n v a (2 ^ n)) (e : ∀ a, 147 ≤ a → h3 a = h a) : RR mX12_odds 82 0 0 0 (pm_ent [pR 147, pI c, pI v, pI p] 13) [] (shp0, rf0, h3) (mQ h3 0 (some (frL N (10 ^ n)).reverse)) := by
  have x6 := sR6 hs
  have x12 := sR12 hs
  have r154 := isRw_154
  have al := bset_4096 (P := fun p => decide (mS (h 154) p = (c : Int))) (n := np) x12
  rw [← ha] at al
  have hab : ∀ i, a.testBit i = true → i < np ∧ mS (h 154) i = c := fun i hi => by
    rw [ha, bset_bit] at hi
    simpa using hi
  have hfin := od_same (V := xV X (h 154)) (W := xWi X (h 154)) (np := np) (p := p) (n := n) (v := v) al
  rw [← hn, ← hN] at hfin
  have hNb := odG_b (V := xV X (h 154)) (W := xWi X (h 154)) (np := np) (v := v) al hp hn hn8
  have h10 : 1 ≤ 10 ^ n ∧ 10 ^ n ≤ 100000000 := ⟨Nat.pow_pos (by omega), Nat.le_trans (Nat.pow_le_pow_right (by omega) hn8) (by decide)⟩
  have hca : cnB a np = n := by rw [hn]; exact cnB_pop (fun i hi => (hab i hi).1) x12
  show RR _ _ _ _ _ [pR 147, pI c, pI v, pI p, pU, pU, pU, pU, pU, pU, pU, pU, pU] _ _ _
  obtain ⟨h4, h4e⟩ : ∃ h4, h4 = rup h3 147 (fup (h3 147) 0 0) := ⟨_, rfl⟩
  have K76 := fun KK => MOD_76 (h1 := h4) (c := c) (v := v) (p := p) (a := a) (n := n) (Q := mQ h3 0 (some (frL N (10 ^ n)).reverse)) (by omega) KK 0 n (by omega)
  obtain ⟨D, hD⟩ : ∃ D, D = 10 ^ n := ⟨_, rfl⟩
  rw [← hD] at h10 K76 ⊢
  have L : ∀ (j x : Nat) (h1 : Nat → Int → Int) (w10 w11 w12 : PV), x + j = a + 1 → vtF h4 h1 → RR mX12_odds 82 0 0 98 [pR 147, pI c, pI v, pI p, pI a, pL (it (odG (xV X (h 154)) (xWi X (h 154)) np p n v a) 0 x : Nat), pU, pL D, pU, pI x, w10, w11, w12] [] (shp0, rf0, h1) (mQ h3 0 (some (frL N D).reverse)) := by
    intro j
    induction j with
    | zero =>
      intro x h1 w10 w11 w12 hx hf1
      obtain rfl : x = a + 1 := by omega
      obtain ⟨y1, y2, y3, y4, y5, y6, -⟩ := hypM hs hX e h4e hf1
      have hb := hNb (a + 1)
      rw [hfin] at hb ⊢
      refine R_iload dX12_odds_98 rfl (?_ : RR _ _ _ _ 100 _ _ _ _)
      refine R_iload dX12_odds_100 rfl (?_ : RR _ _ _ _ 102 _ _ _ _)
      refine R_icmp_gt (t := 210) dX12_odds_102 rfl (fun c102 => ?_) (fun c102 => ?_)
      rotate_left
      · exfalso; omega
      refine R_aload_n dX12_odds_210 rfl (?_ : RR _ _ _ _ 211 _ _ _ _)
      refine R_lload dX12_odds_211 rfl (?_ : RR _ _ _ _ 213 _ _ _ _)
      refine R_lload dX12_odds_213 rfl (?_ : RR _ _ _ _ 215 _ _ _ _)
      refine R_cVv2 dX12_odds_215 mvX12_tellsFraction mlX12_424 (by decide) (by decide) (Nat.le_of_ble_eq_true rfl) (Nat.le_of_ble_eq_true rfl) (T_X12_tellsFraction (by omega) (by omega)) (?_ : RR _ _ _ _ 218 _ _ _ _)
      refine R_iconst dX12_odds_218 (?_ : RR _ _ _ _ 219 _ _ _ _)
      exact R_ireturn dX12_odds_219 trivial (mQ_tm y6 rfl)
    | succ j ih =>
      intro x h1 w10 w11 w12 hx hf1
      have IH := fun h1 w10 w11 w12 hf1 => ih (x + 1) h1 w10 w11 w12 (by omega) hf1
      rw [show it (odG (xV X (h 154)) (xWi X (h 154)) np p n v a) 0 (x + 1) = odG (xV X (h 154)) (xWi X (h 154)) np p n v a x (it (odG (xV X (h 154)) (xWi X (h 154)) np p n v a) 0 x) from rfl] at IH
      generalize it (odG (xV X (h 154)) (xWi X (h 154)) np p n v a) 0 x = s at IH ⊢
      unfold odG at IH
      have hxb := iAndN (a := x) (b := a) (n := 12) (show x < 2 ^ 12 by omega) (by omega) (by omega)
      by_cases q1 : bset (fun i => x.testBit i && !a.testBit i) 12 = 0
      · rw [q1] at hxb
        rw [if_pos ⟨by omega, q1⟩] at IH
        unfold odF at IH
        have hsx := (sub_0 (a := a) (show x < 4096 by omega)).mp q1
        have hcx : cnB x np = pop 12 x := cnB_pop (fun i hi => (hab i (hsx i hi)).1) x12
        have et : odI p x a np = odT p n x := by unfold odI odT; rw [hcx, hca]
        have hpo := M_polls (S := x) hs hX e h4e hf1 (fun p hp hb => by rw [(hab p (hsx p hb)).2]; omega) (by omega)
        obtain ⟨y1, y2, y3, y4, y5, y6, -⟩ := hypM hs hX e h4e hf1
        have K204 : ∀ (h2 : Nat → Int → Int) (w12 : PV), vtF h4 h2 → RR mX12_odds 82 0 0 204 [pR 147, pI c, pI v, pI p, pI a, pL ((s + (if odV (xV X (h 154)) (xWi X (h 154)) np x = v then odT p n x else 0) : Nat) : Int), pU, pL D, pU, pI x, pL (odT p n x : Nat), pU, w12] [] (shp0, rf0, h2) (mQ h3 0 (some (frL N D).reverse)) := by
          intro h2 w12 hf2
          have IH2 := fun w10 w11 w12 => IH h2 w10 w11 w12 hf2
          refine R_iinc dX12_odds_204 rfl (Nat.le_of_ble_eq_true rfl) (?_ : RR _ _ _ _ 207 [_, _, _, _, _, _, _, _, _, _, _, _, _] _ _ _)
          refine R_goto (t := 98) dX12_odds_207 rfl (?_ : RR _ _ _ _ 98 _ _ _ _)
          exact IH2 _ _ _
        have K185 : ∀ (h2 : Nat → Int → Int) (w12 : PV), vtF h4 h2 → (∀ j : Int, 0 ≤ j → j < 3 → h2 162 j = poS x.testBit (xV X (h 154)) (xWi X (h 154)) np j) → RR mX12_odds 82 0 0 185 [pR 147, pI c, pI v, pI p, pI a, pL s, pU, pL D, pU, pI x, pL (odT p n x : Nat), pU, w12] [] (shp0, rf0, h2) (mQ h3 0 (some (frL N D).reverse)) := by
          intro h2 w12 hf2 hp2
          refine MOD_185 (val := odV (xV X (h 154)) (xWi X (h 154)) np x) (fun j j0 j1 => ?_) ?_ hv (K204 h2 w12 hf2)
          · rw [hp2 j j0 j1]
            exact (poS_b (P := x.testBit) (V := xV X (h 154)) (W := xWi X (h 154)) (np := np) (j := j) (fun p => xV_b)).1
          · rw [hp2 0 (by omega) (by omega), hp2 1 (by omega) (by omega), hp2 2 (by omega) (by omega)]
            rfl
        have K175 : RR mX12_odds 82 0 0 175 [pR 147, pI c, pI v, pI p, pI a, pL s, pU, pL D, pU, pI x, pL (odI p x a np : Nat), pU, pI np] [] (shp0, rf0, h1) (mQ h3 0 (some (frL N D).reverse)) := by
          rw [et]
          have KK := fun h2 hf2 hp2 => K185 h2 (pI np) hf2 hp2
          refine R_aload_n dX12_odds_175 rfl (?_ : RR _ _ _ _ 176 _ _ _ _)
          refine R_aload_n dX12_odds_176 rfl (?_ : RR _ _ _ _ 177 _ _ _ _)
          refine R_getr dX12_odds_177 flX12_33 cok_12 rfl (by decide) (?_ : RR _ _ _ _ 180 _ _ _ _)
          refine R_iload dX12_odds_180 rfl (?_ : RR _ _ _ _ 182 _ _ _ _)
          refine R_qV2 dX12_odds_182 mvX12_polls mlX12_297 (by decide) (by decide) (Nat.le_of_ble_eq_true rfl) (Nat.le_of_ble_eq_true rfl) (hpo) (fun r9 g9 hq9 => (?_ : RR _ _ _ _ 185 _ _ _ _))
          obtain ⟨rfl, h5, rfl, hf5, hp5⟩ := hq9
          show RR _ _ _ _ _ _ [] _ _
          exact KK h5 (vtF_tr hf1 hf5) hp5
        have K121 := MOD_121 (c := c) (v := v) hsx al hp x12 y3 K175 np 0 (by omega)
        refine R_iload dX12_odds_98 rfl (?_ : RR _ _ _ _ 100 _ _ _ _)
        refine R_iload dX12_odds_100 rfl (?_ : RR _ _ _ _ 102 _ _ _ _)
        refine R_icmp_gt (t := 210) dX12_odds_102 rfl (fun c102 => ?_) (fun c102 => ?_)
        · exfalso; omega
        refine R_iload dX12_odds_105 rfl (?_ : RR _ _ _ _ 107 _ _ _ _)
        refine R_iload dX12_odds_107 rfl (?_ : RR _ _ _ _ 109 _ _ _ _)
        refine R_iconst dX12_odds_109 (?_ : RR _ _ _ _ 110 _ _ _ _)
        refine R_ixor dX12_odds_110 (?_ : RR _ _ _ _ 111 _ _ _ _)
        refine R_iand dX12_odds_111 (?_ : RR _ _ _ _ 112 _ _ _ _)
        rw [hxb]
        refine R_if_ne (t := 204) dX12_odds_112 rfl (fun c112 => ?_) (fun c112 => ?_)
        · exfalso; omega
        refine R_lconst (z := 1) dX12_odds_115 rfl (?_ : RR _ _ _ _ 116 _ _ _ _)
        refine R_lstore dX12_odds_116 (Nat.le_of_ble_eq_true rfl) (?_ : RR _ _ _ _ 118 [_, _, _, _, _, _, _, _, _, _, _, _, _] _ _ _)
        refine R_iconst dX12_odds_118 (?_ : RR _ _ _ _ 119 _ _ _ _)
        refine R_istore dX12_odds_119 (Nat.le_of_ble_eq_true rfl) (?_ : RR _ _ _ _ 121 [_, _, _, _, _, _, _, _, _, _, _, _, _] _ _ _)
        exact K121
      · rw [if_neg (fun z => q1 z.2)] at IH
        have hbl := bset_lt (fun i => x.testBit i && !a.testBit i) 12
        generalize bset (fun i => x.testBit i && !a.testBit i) 12 = B at q1 hxb hbl
        refine R_iload dX12_odds_98 rfl (?_ : RR _ _ _ _ 100 _ _ _ _)
        refine R_iload dX12_odds_100 rfl (?_ : RR _ _ _ _ 102 _ _ _ _)
        refine R_icmp_gt (t := 210) dX12_odds_102 rfl (fun c102 => ?_) (fun c102 => ?_)
        · exfalso; omega
        refine R_iload dX12_odds_105 rfl (?_ : RR _ _ _ _ 107 _ _ _ _)
        refine R_iload dX12_odds_107 rfl (?_ : RR _ _ _ _ 109 _ _ _ _)
        refine R_iconst dX12_odds_109 (?_ : RR _ _ _ _ 110 _ _ _ _)
        refine R_ixor dX12_odds_110 (?_ : RR _ _ _ _ 111 _ _ _ _)
        refine R_iand dX12_odds_111 (?_ : RR _ _ _ _ 112 _ _ _ _)
        rw [hxb]
        refine R_if_ne (t := 204) dX12_odds_112 rfl (fun c112 => ?_) (fun c112 => ?_)
        rotate_left
        · exfalso; omega
        refine R_iinc dX12_odds_204 rfl (Nat.le_of_ble_eq_true rfl) (?_ : RR _ _ _ _ 207 [_, _, _, _, _, _, _, _, _, _, _, _, _] _ _ _)
        refine R_goto (t := 98) dX12_odds_207 rfl (?_ : RR _ _ _ _ 98 _ _ _ _)
        exact IH h1 _ _ _ hf1
  obtain ⟨y1, y2, y3, y4, y5, y6, y7⟩ := hypM hs hX e h4e vtF_rf
  have hsi := T_X12_sitting (h := h4) (r := 154) (np := np) (c := (c : Int)) y3
  rw [y4, ← ha] at hsi
  have L0 := fun w10 w11 w12 => L (a + 1) 0 h4 w10 w11 w12 (by omega) vtF_rf
  have K95 : RR mX12_odds 82 0 0 95 [pR 147, pI c, pI v, pI p, pI a, pL 0, pU, pL D, pU, pI 0, pU, pU, pU] [] (shp0, rf0, h4) (mQ h3 0 (some (frL N D).reverse)) := by
    refine R_iconst dX12_odds_95 (?_ : RR _ _ _ _ 96 _ _ _ _)
    refine R_istore dX12_odds_96 (Nat.le_of_ble_eq_true rfl) (?_ : RR _ _ _ _ 98 [_, _, _, _, _, _, _, _, _, _, _, _, _] _ _ _)
    exact L0 _ _ _
  have K77 := K76 K95
  refine R_aload_n dX12_odds_0 rfl (?_ : RR _ _ _ _ 1 _ _ _ _)
  refine R_iconst dX12_odds_1 (?_ : RR _ _ _ _ 2 _ _ _ _)
  refine R_puti (zk := 0) dX12_odds_2 flX12_106 cok_12 (by decide) (fun q hq => by cases hq; rfl) rfl (?_ : RR _ _ _ _ 5 _ _ _ _)
  rw [← h4e]
  refine R_aload_n dX12_odds_5 rfl (?_ : RR _ _ _ _ 6 _ _ _ _)
  refine R_iload_n dX12_odds_6 rfl (?_ : RR _ _ _ _ 7 _ _ _ _)
  refine R_cVi1 dX12_odds_7 mvX12_isCoach mlX12_317 (by decide) (by decide) (Nat.le_of_ble_eq_true rfl) (Nat.le_of_ble_eq_true rfl) (T_X12_isCoach2 (z := 0) y7 x6 (by omega)) (?_ : RR _ _ _ _ 10 _ _ _ _)
  rw [if_pos (by omega)]
  refine R_if_eq (t := 37) dX12_odds_10 rfl (fun c10 => ?_) (fun c10 => ?_)
  · exfalso; omega
  refine R_iload_n dX12_odds_13 rfl (?_ : RR _ _ _ _ 14 _ _ _ _)
  refine R_i2l dX12_odds_14 (by first | assumption | omega) (?_ : RR _ _ _ _ 15 _ _ _ _)
  refine R_lconst (z := 0) dX12_odds_15 rfl (?_ : RR _ _ _ _ 16 _ _ _ _)
  refine R_ldc2 (z := 2) dX12_odds_16 klX12_428 (?_ : RR _ _ _ _ 19 _ _ _ _)
  refine R_cSi3 dX12_odds_19 msX12_in mlX12_120 (by decide) (Nat.le_of_ble_eq_true rfl) (Nat.le_of_ble_eq_true rfl) (T_X12_in) (?_ : RR _ _ _ _ 22 _ _ _ _)
  rw [if_pos (by omega)]
  refine R_if_eq (t := 37) dX12_odds_22 rfl (fun c22 => ?_) (fun c22 => ?_)
  · exfalso; omega
  refine R_iload_n dX12_odds_25 rfl (?_ : RR _ _ _ _ 26 _ _ _ _)
  refine R_i2l dX12_odds_26 (by first | assumption | omega) (?_ : RR _ _ _ _ 27 _ _ _ _)
  refine R_lconst (z := 0) dX12_odds_27 rfl (?_ : RR _ _ _ _ 28 _ _ _ _)
  refine R_ldc2 (z := 10) dX12_odds_28 klX12_460 (?_ : RR _ _ _ _ 31 _ _ _ _)
  refine R_cSi3 dX12_odds_31 msX12_in mlX12_120 (by decide) (Nat.le_of_ble_eq_true rfl) (Nat.le_of_ble_eq_true rfl) (T_X12_in) (?_ : RR _ _ _ _ 34 _ _ _ _)
  rw [if_pos (by omega)]
  refine R_if_ne (t := 39) dX12_odds_34 rfl (fun c34 => ?_) (fun c34 => ?_)
  rotate_left
  · exfalso; omega
  refine R_aload_n dX12_odds_39 rfl (?_ : RR _ _ _ _ 40 _ _ _ _)
  refine R_aload_n dX12_odds_40 rfl (?_ : RR _ _ _ _ 41 _ _ _ _)
  refine R_getr dX12_odds_41 flX12_33 cok_12 rfl (by decide) (?_ : RR _ _ _ _ 44 _ _ _ _)
  refine R_iload_n dX12_odds_44 rfl (?_ : RR _ _ _ _ 45 _ _ _ _)
  refine R_cVi2 dX12_odds_45 mvX12_sitting mlX12_270 (by decide) (by decide) (Nat.le_of_ble_eq_true rfl) (Nat.le_of_ble_eq_true rfl) (hsi) (?_ : RR _ _ _ _ 48 _ _ _ _)
  refine R_istore dX12_odds_48 (Nat.le_of_ble_eq_true rfl) (?_ : RR _ _ _ _ 50 [_, _, _, _, _, _, _, _, _, _, _, _, _] _ _ _)
  refine R_iload dX12_odds_50 rfl (?_ : RR _ _ _ _ 52 _ _ _ _)
  refine R_cSi1 dX12_odds_52 msJ6_bitCount_0f7a4 mlX12_273 (by decide) (Nat.le_of_ble_eq_true rfl) (Nat.le_of_ble_eq_true rfl) (T_J6_bitCount_0f7a4) (?_ : RR _ _ _ _ 55 _ _ _ _)
  rw [← hn]
  refine R_bipush dX12_odds_55 rfl (?_ : RR _ _ _ _ 57 _ _ _ _)
  refine R_icmp_le (t := 63) dX12_odds_57 rfl (fun c57 => ?_) (fun c57 => ?_)
  rotate_left
  · exfalso; omega
  refine R_lconst (z := 0) dX12_odds_63 rfl (?_ : RR _ _ _ _ 64 _ _ _ _)
  refine R_lstore dX12_odds_64 (Nat.le_of_ble_eq_true rfl) (?_ : RR _ _ _ _ 66 [_, _, _, _, _, _, _, _, _, _, _, _, _] _ _ _)
  refine R_lconst (z := 1) dX12_odds_66 rfl (?_ : RR _ _ _ _ 67 _ _ _ _)
  refine R_lstore dX12_odds_67 (Nat.le_of_ble_eq_true rfl) (?_ : RR _ _ _ _ 69 [_, _, _, _, _, _, _, _, _, _, _, _, _] _ _ _)
  refine R_iload dX12_odds_69 rfl (?_ : RR _ _ _ _ 71 _ _ _ _)
  refine R_cSi1 dX12_odds_71 msJ6_bitCount_0f7a4 mlX12_273 (by decide) (Nat.le_of_ble_eq_true rfl) (Nat.le_of_ble_eq_true rfl) (T_J6_bitCount_0f7a4) (?_ : RR _ _ _ _ 74 _ _ _ _)
  rw [← hn]
  refine R_istore dX12_odds_74 (Nat.le_of_ble_eq_true rfl) (?_ : RR _ _ _ _ 76 [_, _, _, _, _, _, _, _, _, _, _, _, _] _ _ _)
  exact K77
theorem A_odds (hs : SRx k h sem H np nc len) (hv : r32 v) (hu : r32 u) (hw : r32 w) : AG mX11_odds mX12_odds 5 82 [pI v, pI u, pI w] k h := by
  have x6 := sR6 hs
  have x12 := sR12 hs
  have hcp := hs.2.2.2.1.1
  have e2 : h 14 2 = nc := hcp.2.2.2.1
  have h11 : h 11 0 = np := hs.1.2.2.2.2.2.2.1.2.1.1
  have t14 := isTr_14
  have r154 := isRw_154
  by_cases q : (0 ≤ v ∧ v < nc) ∧ (0 ≤ u ∧ u ≤ 2) ∧ 0 ≤ w ∧ w ≤ 10
  · obtain ⟨c, rfl⟩ := Int.eq_ofNat_of_zero_le q.1.1
    obtain ⟨p, rfl⟩ := Int.eq_ofNat_of_zero_le q.2.2.1
    obtain ⟨a, ha⟩ : ∃ a, a = bset (fun p => decide (mS (h 154) p = (c : Int))) np := ⟨_, rfl⟩
    obtain ⟨n, hn⟩ : ∃ n, n = pop 12 a := ⟨_, rfl⟩
    by_cases n8 : n ≤ 8
    · exact A_q hs (C_odds hs rfl (by omega) q.2.1 (by omega) ha hn n8) (fun h3 e => M_odds hs rfl (by omega) q.2.1 (by omega) ha hn n8 rfl e) (fun L e => by injection e with e; subst e; exact frL_l)
    · have hin := T_X9_inside (t := 14) (n := np) (c := (c : Int)) (h := h)
      rw [show bset (fun j => decide (h (14 + 4) j = (c : Int))) np = a by rw [ha]; exact bset_congr (fun p hp => by rw [show h (14 + 4) p = mS (h 154) p from hcp.2.2.2.2.2.2.2 p hp])] at hin
      have hnl := pop_le 12 a
      have al := bset_4096 (P := fun p => decide (mS (h 154) p = (c : Int))) (n := np) x12
      rw [← ha] at al
      refine A_q hs (z := -2) (o := none) (cQ_no (M := mX11_odds) (d := 5) (As := [pR 0, pI c, pI u, pI p]) (MT.of (fun Q hQ => (?_ : RR mX11_odds _ _ _ _ [pR 0, pI c, pI u, pI p, pU, pU, pU, pU, pU, pU, pU, pU] _ _ _)))) (fun h3 e => mQ_thr (M := mX12_odds) (d := 82) (As := [pR 147, pI c, pI u, pI p]) (MT.of (fun Q hQ => (?_ : RR mX12_odds _ _ _ _ [pR 147, pI c, pI u, pI p, pU, pU, pU, pU, pU, pU, pU, pU, pU] _ _ _)))) (fun L e => by cases e)
      · refine R_aload_n dX11_odds_0 rfl (?_ : RR _ _ _ _ 1 _ _ _ _)
        refine R_getr dX11_odds_1 flX11_36 cok_11 rfl (by decide) (?_ : RR _ _ _ _ 4 _ _ _ _)
        refine R_iload_n dX11_odds_4 rfl (?_ : RR _ _ _ _ 5 _ _ _ _)
        refine R_cVi1 dX11_odds_5 mvX9_has mlX11_174 (by decide) (by decide) (Nat.le_of_ble_eq_true rfl) (Nat.le_of_ble_eq_true rfl) (T_X9_has) (?_ : RR _ _ _ _ 8 _ _ _ _)
        rw [e2, if_pos (by omega)]
        refine R_if_eq (t := 30) dX11_odds_8 rfl (fun c8 => ?_) (fun c8 => ?_)
        · exfalso; omega
        refine R_iload_n dX11_odds_11 rfl (?_ : RR _ _ _ _ 12 _ _ _ _)
        refine R_if_lt (t := 30) dX11_odds_12 rfl (fun c12 => ?_) (fun c12 => ?_)
        · exfalso; omega
        refine R_iload_n dX11_odds_15 rfl (?_ : RR _ _ _ _ 16 _ _ _ _)
        refine R_iconst dX11_odds_16 (?_ : RR _ _ _ _ 17 _ _ _ _)
        refine R_icmp_gt (t := 30) dX11_odds_17 rfl (fun c17 => ?_) (fun c17 => ?_)
        · exfalso; omega
        refine R_iload_n dX11_odds_20 rfl (?_ : RR _ _ _ _ 21 _ _ _ _)
        refine R_if_lt (t := 30) dX11_odds_21 rfl (fun c21 => ?_) (fun c21 => ?_)
        · exfalso; omega
        refine R_iload_n dX11_odds_24 rfl (?_ : RR _ _ _ _ 25 _ _ _ _)
        refine R_bipush dX11_odds_25 rfl (?_ : RR _ _ _ _ 27 _ _ _ _)
        refine R_icmp_le (t := 32) dX11_odds_27 rfl (fun c27 => ?_) (fun c27 => ?_)
        rotate_left
        · exfalso; omega
        refine R_aload_n dX11_odds_32 rfl (?_ : RR _ _ _ _ 33 _ _ _ _)
        refine R_getr dX11_odds_33 flX11_36 cok_11 rfl (by decide) (?_ : RR _ _ _ _ 36 _ _ _ _)
        refine R_iload_n dX11_odds_36 rfl (?_ : RR _ _ _ _ 37 _ _ _ _)
        refine R_aload_n dX11_odds_37 rfl (?_ : RR _ _ _ _ 38 _ _ _ _)
        refine R_getr dX11_odds_38 flX11_29 cok_11 rfl (by decide) (?_ : RR _ _ _ _ 41 _ _ _ _)
        refine R_geti (z := 0) dX11_odds_41 flX11_116 cok_2 rfl (by decide) rfl (fun q41 => (?_ : RR _ _ _ _ 44 _ _ _ _))
        rw [h11] at q41 ⊢
        refine R_cVi2 dX11_odds_44 mvX9_inside mlX11_186 (by decide) (by decide) (Nat.le_of_ble_eq_true rfl) (Nat.le_of_ble_eq_true rfl) (hin) (?_ : RR _ _ _ _ 47 _ _ _ _)
        refine R_istore dX11_odds_47 (Nat.le_of_ble_eq_true rfl) (?_ : RR _ _ _ _ 49 [_, _, _, _, _, _, _, _, _, _, _, _] _ _ _)
        refine R_iload dX11_odds_49 rfl (?_ : RR _ _ _ _ 51 _ _ _ _)
        refine R_cSi1 dX11_odds_51 msJ6_bitCount_0f7a4 mlX11_325 (by decide) (Nat.le_of_ble_eq_true rfl) (Nat.le_of_ble_eq_true rfl) (T_J6_bitCount_0f7a4) (?_ : RR _ _ _ _ 54 _ _ _ _)
        rw [← hn]
        refine R_istore dX11_odds_54 (Nat.le_of_ble_eq_true rfl) (?_ : RR _ _ _ _ 56 [_, _, _, _, _, _, _, _, _, _, _, _] _ _ _)
        refine R_iload dX11_odds_56 rfl (?_ : RR _ _ _ _ 58 _ _ _ _)
        refine R_bipush dX11_odds_58 rfl (?_ : RR _ _ _ _ 60 _ _ _ _)
        refine R_icmp_le (t := 66) dX11_odds_60 rfl (fun c60 => ?_) (fun c60 => ?_)
        · exfalso; omega
        refine R_bipush dX11_odds_63 rfl (?_ : RR _ _ _ _ 65 _ _ _ _)
        exact R_ireturn dX11_odds_65 trivial hQ
      · have g4 : rup h3 147 (fup (h3 147) 0 0) 147 4 = nc := by rw [rup_s, fup_n (by omega), e 147 (by omega)]; exact hs.1.2.1
        have g5 : rup h3 147 (fup (h3 147) 0 0) 147 5 = np := by rw [rup_s, fup_n (by omega), e 147 (by omega)]; exact hs.1.2.2.1
        have hsi := T_X12_sitting (h := rup h3 147 (fup (h3 147) 0 0)) (r := 154) (np := np) (c := (c : Int)) g5
        rw [rup_n (by omega), e 154 (by omega), ← ha] at hsi
        refine R_aload_n dX12_odds_0 rfl (?_ : RR _ _ _ _ 1 _ _ _ _)
        refine R_iconst dX12_odds_1 (?_ : RR _ _ _ _ 2 _ _ _ _)
        refine R_puti (zk := 0) dX12_odds_2 flX12_106 cok_12 (by decide) (fun q hq => by cases hq; rfl) rfl (?_ : RR _ _ _ _ 5 _ _ _ _)
        refine R_aload_n dX12_odds_5 rfl (?_ : RR _ _ _ _ 6 _ _ _ _)
        refine R_iload_n dX12_odds_6 rfl (?_ : RR _ _ _ _ 7 _ _ _ _)
        refine R_cVi1 dX12_odds_7 mvX12_isCoach mlX12_317 (by decide) (by decide) (Nat.le_of_ble_eq_true rfl) (Nat.le_of_ble_eq_true rfl) (T_X12_isCoach2 (z := 0) g4 x6 (by omega)) (?_ : RR _ _ _ _ 10 _ _ _ _)
        rw [if_pos (by omega)]
        refine R_if_eq (t := 37) dX12_odds_10 rfl (fun c10 => ?_) (fun c10 => ?_)
        · exfalso; omega
        refine R_iload_n dX12_odds_13 rfl (?_ : RR _ _ _ _ 14 _ _ _ _)
        refine R_i2l dX12_odds_14 (by first | assumption | omega) (?_ : RR _ _ _ _ 15 _ _ _ _)
        refine R_lconst (z := 0) dX12_odds_15 rfl (?_ : RR _ _ _ _ 16 _ _ _ _)
        refine R_ldc2 (z := 2) dX12_odds_16 klX12_428 (?_ : RR _ _ _ _ 19 _ _ _ _)
        refine R_cSi3 dX12_odds_19 msX12_in mlX12_120 (by decide) (Nat.le_of_ble_eq_true rfl) (Nat.le_of_ble_eq_true rfl) (T_X12_in) (?_ : RR _ _ _ _ 22 _ _ _ _)
        rw [if_pos (by omega)]
        refine R_if_eq (t := 37) dX12_odds_22 rfl (fun c22 => ?_) (fun c22 => ?_)
        · exfalso; omega
        refine R_iload_n dX12_odds_25 rfl (?_ : RR _ _ _ _ 26 _ _ _ _)
        refine R_i2l dX12_odds_26 (by first | assumption | omega) (?_ : RR _ _ _ _ 27 _ _ _ _)
        refine R_lconst (z := 0) dX12_odds_27 rfl (?_ : RR _ _ _ _ 28 _ _ _ _)
        refine R_ldc2 (z := 10) dX12_odds_28 klX12_460 (?_ : RR _ _ _ _ 31 _ _ _ _)
        refine R_cSi3 dX12_odds_31 msX12_in mlX12_120 (by decide) (Nat.le_of_ble_eq_true rfl) (Nat.le_of_ble_eq_true rfl) (T_X12_in) (?_ : RR _ _ _ _ 34 _ _ _ _)
        rw [if_pos (by omega)]
        refine R_if_ne (t := 39) dX12_odds_34 rfl (fun c34 => ?_) (fun c34 => ?_)
        rotate_left
        · exfalso; omega
        refine R_aload_n dX12_odds_39 rfl (?_ : RR _ _ _ _ 40 _ _ _ _)
        refine R_aload_n dX12_odds_40 rfl (?_ : RR _ _ _ _ 41 _ _ _ _)
        refine R_getr dX12_odds_41 flX12_33 cok_12 rfl (by decide) (?_ : RR _ _ _ _ 44 _ _ _ _)
        refine R_iload_n dX12_odds_44 rfl (?_ : RR _ _ _ _ 45 _ _ _ _)
        refine R_cVi2 dX12_odds_45 mvX12_sitting mlX12_270 (by decide) (by decide) (Nat.le_of_ble_eq_true rfl) (Nat.le_of_ble_eq_true rfl) (hsi) (?_ : RR _ _ _ _ 48 _ _ _ _)
        refine R_istore dX12_odds_48 (Nat.le_of_ble_eq_true rfl) (?_ : RR _ _ _ _ 50 [_, _, _, _, _, _, _, _, _, _, _, _, _] _ _ _)
        refine R_iload dX12_odds_50 rfl (?_ : RR _ _ _ _ 52 _ _ _ _)
        refine R_cSi1 dX12_odds_52 msJ6_bitCount_0f7a4 mlX12_273 (by decide) (Nat.le_of_ble_eq_true rfl) (Nat.le_of_ble_eq_true rfl) (T_J6_bitCount_0f7a4) (?_ : RR _ _ _ _ 55 _ _ _ _)
        rw [← hn]
        refine R_bipush dX12_odds_55 rfl (?_ : RR _ _ _ _ 57 _ _ _ _)
        refine R_icmp_le (t := 63) dX12_odds_57 rfl (fun c57 => ?_) (fun c57 => ?_)
        · exfalso; omega
        refine R_bipush dX12_odds_60 rfl (?_ : RR _ _ _ _ 62 _ _ _ _)
        exact R_ireturn dX12_odds_62 trivial hQ
  · refine A_q hs (z := -1) (o := none) (cQ_no (M := mX11_odds) (d := 5) (As := [pR 0, pI v, pI u, pI w]) (MT.of (fun Q hQ => (?_ : RR mX11_odds _ _ _ _ [pR 0, pI v, pI u, pI w, pU, pU, pU, pU, pU, pU, pU, pU] _ _ _)))) (fun h3 e => mQ_thr (M := mX12_odds) (d := 82) (As := [pR 147, pI v, pI u, pI w]) (MT.of (fun Q hQ => (?_ : RR mX12_odds _ _ _ _ [pR 147, pI v, pI u, pI w, pU, pU, pU, pU, pU, pU, pU, pU, pU] _ _ _)))) (fun L e => by cases e)
    · by_cases y : 0 ≤ v ∧ v < nc
      · by_cases z : u < 0
        · refine R_aload_n dX11_odds_0 rfl (?_ : RR _ _ _ _ 1 _ _ _ _)
          refine R_getr dX11_odds_1 flX11_36 cok_11 rfl (by decide) (?_ : RR _ _ _ _ 4 _ _ _ _)
          refine R_iload_n dX11_odds_4 rfl (?_ : RR _ _ _ _ 5 _ _ _ _)
          refine R_cVi1 dX11_odds_5 mvX9_has mlX11_174 (by decide) (by decide) (Nat.le_of_ble_eq_true rfl) (Nat.le_of_ble_eq_true rfl) (T_X9_has) (?_ : RR _ _ _ _ 8 _ _ _ _)
          rw [e2, if_pos y]
          refine R_if_eq (t := 30) dX11_odds_8 rfl (fun c8 => ?_) (fun c8 => ?_)
          · exfalso; omega
          refine R_iload_n dX11_odds_11 rfl (?_ : RR _ _ _ _ 12 _ _ _ _)
          refine R_if_lt (t := 30) dX11_odds_12 rfl (fun c12 => ?_) (fun c12 => ?_)
          rotate_left
          · exfalso; omega
          refine R_iconst dX11_odds_30 (?_ : RR _ _ _ _ 31 _ _ _ _)
          exact R_ireturn dX11_odds_31 trivial hQ
        · by_cases z2 : u > 2
          · refine R_aload_n dX11_odds_0 rfl (?_ : RR _ _ _ _ 1 _ _ _ _)
            refine R_getr dX11_odds_1 flX11_36 cok_11 rfl (by decide) (?_ : RR _ _ _ _ 4 _ _ _ _)
            refine R_iload_n dX11_odds_4 rfl (?_ : RR _ _ _ _ 5 _ _ _ _)
            refine R_cVi1 dX11_odds_5 mvX9_has mlX11_174 (by decide) (by decide) (Nat.le_of_ble_eq_true rfl) (Nat.le_of_ble_eq_true rfl) (T_X9_has) (?_ : RR _ _ _ _ 8 _ _ _ _)
            rw [e2, if_pos y]
            refine R_if_eq (t := 30) dX11_odds_8 rfl (fun c8 => ?_) (fun c8 => ?_)
            · exfalso; omega
            refine R_iload_n dX11_odds_11 rfl (?_ : RR _ _ _ _ 12 _ _ _ _)
            refine R_if_lt (t := 30) dX11_odds_12 rfl (fun c12 => ?_) (fun c12 => ?_)
            · exfalso; omega
            refine R_iload_n dX11_odds_15 rfl (?_ : RR _ _ _ _ 16 _ _ _ _)
            refine R_iconst dX11_odds_16 (?_ : RR _ _ _ _ 17 _ _ _ _)
            refine R_icmp_gt (t := 30) dX11_odds_17 rfl (fun c17 => ?_) (fun c17 => ?_)
            rotate_left
            · exfalso; omega
            refine R_iconst dX11_odds_30 (?_ : RR _ _ _ _ 31 _ _ _ _)
            exact R_ireturn dX11_odds_31 trivial hQ
          · by_cases z3 : w < 0
            · refine R_aload_n dX11_odds_0 rfl (?_ : RR _ _ _ _ 1 _ _ _ _)
              refine R_getr dX11_odds_1 flX11_36 cok_11 rfl (by decide) (?_ : RR _ _ _ _ 4 _ _ _ _)
              refine R_iload_n dX11_odds_4 rfl (?_ : RR _ _ _ _ 5 _ _ _ _)
              refine R_cVi1 dX11_odds_5 mvX9_has mlX11_174 (by decide) (by decide) (Nat.le_of_ble_eq_true rfl) (Nat.le_of_ble_eq_true rfl) (T_X9_has) (?_ : RR _ _ _ _ 8 _ _ _ _)
              rw [e2, if_pos y]
              refine R_if_eq (t := 30) dX11_odds_8 rfl (fun c8 => ?_) (fun c8 => ?_)
              · exfalso; omega
              refine R_iload_n dX11_odds_11 rfl (?_ : RR _ _ _ _ 12 _ _ _ _)
              refine R_if_lt (t := 30) dX11_odds_12 rfl (fun c12 => ?_) (fun c12 => ?_)
              · exfalso; omega
              refine R_iload_n dX11_odds_15 rfl (?_ : RR _ _ _ _ 16 _ _ _ _)
              refine R_iconst dX11_odds_16 (?_ : RR _ _ _ _ 17 _ _ _ _)
              refine R_icmp_gt (t := 30) dX11_odds_17 rfl (fun c17 => ?_) (fun c17 => ?_)
              · exfalso; omega
              refine R_iload_n dX11_odds_20 rfl (?_ : RR _ _ _ _ 21 _ _ _ _)
              refine R_if_lt (t := 30) dX11_odds_21 rfl (fun c21 => ?_) (fun c21 => ?_)
              rotate_left
              · exfalso; omega
              refine R_iconst dX11_odds_30 (?_ : RR _ _ _ _ 31 _ _ _ _)
              exact R_ireturn dX11_odds_31 trivial hQ
            · refine R_aload_n dX11_odds_0 rfl (?_ : RR _ _ _ _ 1 _ _ _ _)
              refine R_getr dX11_odds_1 flX11_36 cok_11 rfl (by decide) (?_ : RR _ _ _ _ 4 _ _ _ _)
              refine R_iload_n dX11_odds_4 rfl (?_ : RR _ _ _ _ 5 _ _ _ _)
              refine R_cVi1 dX11_odds_5 mvX9_has mlX11_174 (by decide) (by decide) (Nat.le_of_ble_eq_true rfl) (Nat.le_of_ble_eq_true rfl) (T_X9_has) (?_ : RR _ _ _ _ 8 _ _ _ _)
              rw [e2, if_pos y]
              refine R_if_eq (t := 30) dX11_odds_8 rfl (fun c8 => ?_) (fun c8 => ?_)
              · exfalso; omega
              refine R_iload_n dX11_odds_11 rfl (?_ : RR _ _ _ _ 12 _ _ _ _)
              refine R_if_lt (t := 30) dX11_odds_12 rfl (fun c12 => ?_) (fun c12 => ?_)
              · exfalso; omega
              refine R_iload_n dX11_odds_15 rfl (?_ : RR _ _ _ _ 16 _ _ _ _)
              refine R_iconst dX11_odds_16 (?_ : RR _ _ _ _ 17 _ _ _ _)
              refine R_icmp_gt (t := 30) dX11_odds_17 rfl (fun c17 => ?_) (fun c17 => ?_)
              · exfalso; omega
              refine R_iload_n dX11_odds_20 rfl (?_ : RR _ _ _ _ 21 _ _ _ _)
              refine R_if_lt (t := 30) dX11_odds_21 rfl (fun c21 => ?_) (fun c21 => ?_)
              · exfalso; omega
              refine R_iload_n dX11_odds_24 rfl (?_ : RR _ _ _ _ 25 _ _ _ _)
              refine R_bipush dX11_odds_25 rfl (?_ : RR _ _ _ _ 27 _ _ _ _)
              refine R_icmp_le (t := 32) dX11_odds_27 rfl (fun c27 => ?_) (fun c27 => ?_)
              · exfalso; omega
              refine R_iconst dX11_odds_30 (?_ : RR _ _ _ _ 31 _ _ _ _)
              exact R_ireturn dX11_odds_31 trivial hQ
      · refine R_aload_n dX11_odds_0 rfl (?_ : RR _ _ _ _ 1 _ _ _ _)
        refine R_getr dX11_odds_1 flX11_36 cok_11 rfl (by decide) (?_ : RR _ _ _ _ 4 _ _ _ _)
        refine R_iload_n dX11_odds_4 rfl (?_ : RR _ _ _ _ 5 _ _ _ _)
        refine R_cVi1 dX11_odds_5 mvX9_has mlX11_174 (by decide) (by decide) (Nat.le_of_ble_eq_true rfl) (Nat.le_of_ble_eq_true rfl) (T_X9_has) (?_ : RR _ _ _ _ 8 _ _ _ _)
        rw [e2, if_neg y]
        refine R_if_eq (t := 30) dX11_odds_8 rfl (fun c8 => ?_) (fun c8 => ?_)
        rotate_left
        · exfalso; omega
        refine R_iconst dX11_odds_30 (?_ : RR _ _ _ _ 31 _ _ _ _)
        exact R_ireturn dX11_odds_31 trivial hQ
    · have g4 : rup h3 147 (fup (h3 147) 0 0) 147 4 = nc := by rw [rup_s, fup_n (by omega), e 147 (by omega)]; exact hs.1.2.1
      by_cases y : 0 ≤ v ∧ v < nc
      · by_cases z : 0 ≤ u ∧ u ≤ 2
        · refine R_aload_n dX12_odds_0 rfl (?_ : RR _ _ _ _ 1 _ _ _ _)
          refine R_iconst dX12_odds_1 (?_ : RR _ _ _ _ 2 _ _ _ _)
          refine R_puti (zk := 0) dX12_odds_2 flX12_106 cok_12 (by decide) (fun q hq => by cases hq; rfl) rfl (?_ : RR _ _ _ _ 5 _ _ _ _)
          refine R_aload_n dX12_odds_5 rfl (?_ : RR _ _ _ _ 6 _ _ _ _)
          refine R_iload_n dX12_odds_6 rfl (?_ : RR _ _ _ _ 7 _ _ _ _)
          refine R_cVi1 dX12_odds_7 mvX12_isCoach mlX12_317 (by decide) (by decide) (Nat.le_of_ble_eq_true rfl) (Nat.le_of_ble_eq_true rfl) (T_X12_isCoach2 (z := 0) g4 x6 (by omega)) (?_ : RR _ _ _ _ 10 _ _ _ _)
          rw [if_pos y]
          refine R_if_eq (t := 37) dX12_odds_10 rfl (fun c10 => ?_) (fun c10 => ?_)
          · exfalso; omega
          refine R_iload_n dX12_odds_13 rfl (?_ : RR _ _ _ _ 14 _ _ _ _)
          refine R_i2l dX12_odds_14 (by first | assumption | omega) (?_ : RR _ _ _ _ 15 _ _ _ _)
          refine R_lconst (z := 0) dX12_odds_15 rfl (?_ : RR _ _ _ _ 16 _ _ _ _)
          refine R_ldc2 (z := 2) dX12_odds_16 klX12_428 (?_ : RR _ _ _ _ 19 _ _ _ _)
          refine R_cSi3 dX12_odds_19 msX12_in mlX12_120 (by decide) (Nat.le_of_ble_eq_true rfl) (Nat.le_of_ble_eq_true rfl) (T_X12_in) (?_ : RR _ _ _ _ 22 _ _ _ _)
          rw [if_pos (by omega)]
          refine R_if_eq (t := 37) dX12_odds_22 rfl (fun c22 => ?_) (fun c22 => ?_)
          · exfalso; omega
          refine R_iload_n dX12_odds_25 rfl (?_ : RR _ _ _ _ 26 _ _ _ _)
          refine R_i2l dX12_odds_26 (by first | assumption | omega) (?_ : RR _ _ _ _ 27 _ _ _ _)
          refine R_lconst (z := 0) dX12_odds_27 rfl (?_ : RR _ _ _ _ 28 _ _ _ _)
          refine R_ldc2 (z := 10) dX12_odds_28 klX12_460 (?_ : RR _ _ _ _ 31 _ _ _ _)
          refine R_cSi3 dX12_odds_31 msX12_in mlX12_120 (by decide) (Nat.le_of_ble_eq_true rfl) (Nat.le_of_ble_eq_true rfl) (T_X12_in) (?_ : RR _ _ _ _ 34 _ _ _ _)
          rw [if_neg (by omega)]
          refine R_if_ne (t := 39) dX12_odds_34 rfl (fun c34 => ?_) (fun c34 => ?_)
          · exfalso; omega
          refine R_iconst dX12_odds_37 (?_ : RR _ _ _ _ 38 _ _ _ _)
          exact R_ireturn dX12_odds_38 trivial hQ
        · refine R_aload_n dX12_odds_0 rfl (?_ : RR _ _ _ _ 1 _ _ _ _)
          refine R_iconst dX12_odds_1 (?_ : RR _ _ _ _ 2 _ _ _ _)
          refine R_puti (zk := 0) dX12_odds_2 flX12_106 cok_12 (by decide) (fun q hq => by cases hq; rfl) rfl (?_ : RR _ _ _ _ 5 _ _ _ _)
          refine R_aload_n dX12_odds_5 rfl (?_ : RR _ _ _ _ 6 _ _ _ _)
          refine R_iload_n dX12_odds_6 rfl (?_ : RR _ _ _ _ 7 _ _ _ _)
          refine R_cVi1 dX12_odds_7 mvX12_isCoach mlX12_317 (by decide) (by decide) (Nat.le_of_ble_eq_true rfl) (Nat.le_of_ble_eq_true rfl) (T_X12_isCoach2 (z := 0) g4 x6 (by omega)) (?_ : RR _ _ _ _ 10 _ _ _ _)
          rw [if_pos y]
          refine R_if_eq (t := 37) dX12_odds_10 rfl (fun c10 => ?_) (fun c10 => ?_)
          · exfalso; omega
          refine R_iload_n dX12_odds_13 rfl (?_ : RR _ _ _ _ 14 _ _ _ _)
          refine R_i2l dX12_odds_14 (by first | assumption | omega) (?_ : RR _ _ _ _ 15 _ _ _ _)
          refine R_lconst (z := 0) dX12_odds_15 rfl (?_ : RR _ _ _ _ 16 _ _ _ _)
          refine R_ldc2 (z := 2) dX12_odds_16 klX12_428 (?_ : RR _ _ _ _ 19 _ _ _ _)
          refine R_cSi3 dX12_odds_19 msX12_in mlX12_120 (by decide) (Nat.le_of_ble_eq_true rfl) (Nat.le_of_ble_eq_true rfl) (T_X12_in) (?_ : RR _ _ _ _ 22 _ _ _ _)
          rw [if_neg (by omega)]
          refine R_if_eq (t := 37) dX12_odds_22 rfl (fun c22 => ?_) (fun c22 => ?_)
          rotate_left
          · exfalso; omega
          refine R_iconst dX12_odds_37 (?_ : RR _ _ _ _ 38 _ _ _ _)
          exact R_ireturn dX12_odds_38 trivial hQ
      · refine R_aload_n dX12_odds_0 rfl (?_ : RR _ _ _ _ 1 _ _ _ _)
        refine R_iconst dX12_odds_1 (?_ : RR _ _ _ _ 2 _ _ _ _)
        refine R_puti (zk := 0) dX12_odds_2 flX12_106 cok_12 (by decide) (fun q hq => by cases hq; rfl) rfl (?_ : RR _ _ _ _ 5 _ _ _ _)
        refine R_aload_n dX12_odds_5 rfl (?_ : RR _ _ _ _ 6 _ _ _ _)
        refine R_iload_n dX12_odds_6 rfl (?_ : RR _ _ _ _ 7 _ _ _ _)
        refine R_cVi1 dX12_odds_7 mvX12_isCoach mlX12_317 (by decide) (by decide) (Nat.le_of_ble_eq_true rfl) (Nat.le_of_ble_eq_true rfl) (T_X12_isCoach2 (z := 0) g4 x6 (by omega)) (?_ : RR _ _ _ _ 10 _ _ _ _)
        rw [if_neg y]
        refine R_if_eq (t := 37) dX12_odds_10 rfl (fun c10 => ?_) (fun c10 => ?_)
        rotate_left
        · exfalso; omega
        refine R_iconst dX12_odds_37 (?_ : RR _ _ _ _ 38 _ _ _ _)
        exact R_ireturn dX12_odds_38 trivial hQ
end MOD
