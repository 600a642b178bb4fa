theorem lShl_1 : ∀ n : Nat, n < 12 → lShl 1 (n : Int) = ((2 ^ n : Nat) : Int) := by decide +kernel
section PW
variable {k : Nat} {h h1 h2 h3 h4 : Nat → Int → Int} {sem : Sem} {H np nc len : Nat} {v : Int}
theorem pw_4096 {m : Nat} : 2 ^ pop 12 m ≤ 4096 := show 2 ^ pop 12 m ≤ 2 ^ 12 from Nat.pow_le_pow_right (by omega) (pop_le 12 m)
theorem tb_12 {S i : Nat} (hS : S < 4096) (hi : S.testBit i = true) : i < 12 := by
  by_cases q : i < 12
  · exact q
  · rw [Nat.testBit_lt_two_pow (Nat.lt_of_lt_of_le hS (show 2 ^ 12 ≤ 2 ^ i from Nat.pow_le_pow_right (by omega) (by omega)))] at hi
    cases hi
/-- sums of votes in sets of passengers, on the class's rows -/
theorem pw_cls {V V' : Int → Int} {S : Nat} (hS : ∀ i, S.testBit i = true → i < np) (hV : ∀ p : Nat, p < np → V' p = V p) (h12 : np ≤ 12) : pwV V' 12 S = pwV V np S := by
  unfold pwV
  rw [sm_tail (i := np) h12 (fun j h1 h2 => if_neg (fun z => by have := hS j z; omega))]
  exact sm_congr (fun p hp => by rw [hV p hp])
/-- from one set to the next -/
theorem PW_171 {h5 : Nat → Int → Int} {Q : Option PV → PH → Prop} {pp o T own K f9 s0 s9 L i z11 z12 A B x y : Int} {w13 : PV} (hnx : iAnd (s0 - o) o = s9) (d1 : iAnd s9 (iXor s0 (-1)) = A) (d2 : iAnd s0 (iXor s9 (-1)) = B) (v1 : MT mX10_votesIn 0 [pR 36, pI A] h5 (some (pI x)) h5) (v2 : MT mX10_votesIn 0 [pR 36, pI B] h5 (some (pI y)) h5) (KK : RR mX11_power 5 0 0 104 [pR 0, pI pp, pR 36, pI o, pI T, pI own, pI K, pI f9, pI s9, pI (L + (x - y)), pI (i + 1), pI z11, pI z12, pI s9] [] (shp0, rf0, h5) Q) : RR mX11_power 5 0 0 171 [pR 0, pI pp, pR 36, pI o, pI T, pI own, pI K, pI f9, pI s0, pI L, pI i, pI z11, pI z12, w13] [] (shp0, rf0, h5) Q := by
  refine R_iload dX11_power_171 rfl (?_ : RR _ _ _ _ 173 _ _ _ _)
  refine R_iload_n dX11_power_173 rfl (?_ : RR _ _ _ _ 174 _ _ _ _)
  refine R_isub dX11_power_174 (?_ : RR _ _ _ _ 175 _ _ _ _)
  refine R_iload_n dX11_power_175 rfl (?_ : RR _ _ _ _ 176 _ _ _ _)
  refine R_iand dX11_power_176 (?_ : RR _ _ _ _ 177 _ _ _ _)
  rw [hnx]
  refine R_istore dX11_power_177 (Nat.le_of_ble_eq_true rfl) (?_ : RR _ _ _ _ 179 [_, _, _, _, _, _, _, _, _, _, _, _, _, _] _ _ _)
  refine R_iload dX11_power_179 rfl (?_ : RR _ _ _ _ 181 _ _ _ _)
  refine R_aload_n dX11_power_181 rfl (?_ : RR _ _ _ _ 182 _ _ _ _)
  refine R_iload dX11_power_182 rfl (?_ : RR _ _ _ _ 184 _ _ _ _)
  refine R_iload dX11_power_184 rfl (?_ : RR _ _ _ _ 186 _ _ _ _)
  refine R_iconst dX11_power_186 (?_ : RR _ _ _ _ 187 _ _ _ _)
  refine R_ixor dX11_power_187 (?_ : RR _ _ _ _ 188 _ _ _ _)
  refine R_iand dX11_power_188 (?_ : RR _ _ _ _ 189 _ _ _ _)
  rw [d1]
  refine R_cVi1 dX11_power_189 mvX10_votesIn mlX11_336 (by decide) (by decide) (Nat.le_of_ble_eq_true rfl) (Nat.le_of_ble_eq_true rfl) (v1) (?_ : RR _ _ _ _ 192 _ _ _ _)
  refine R_aload_n dX11_power_192 rfl (?_ : RR _ _ _ _ 193 _ _ _ _)
  refine R_iload dX11_power_193 rfl (?_ : RR _ _ _ _ 195 _ _ _ _)
  refine R_iload dX11_power_195 rfl (?_ : RR _ _ _ _ 197 _ _ _ _)
  refine R_iconst dX11_power_197 (?_ : RR _ _ _ _ 198 _ _ _ _)
  refine R_ixor dX11_power_198 (?_ : RR _ _ _ _ 199 _ _ _ _)
  refine R_iand dX11_power_199 (?_ : RR _ _ _ _ 200 _ _ _ _)
  rw [d2]
  refine R_cVi1 dX11_power_200 mvX10_votesIn mlX11_336 (by decide) (by decide) (Nat.le_of_ble_eq_true rfl) (Nat.le_of_ble_eq_true rfl) (v2) (?_ : RR _ _ _ _ 203 _ _ _ _)
  refine R_isub dX11_power_203 (?_ : RR _ _ _ _ 204 _ _ _ _)
  refine R_iadd dX11_power_204 (?_ : RR _ _ _ _ 205 _ _ _ _)
  refine R_istore dX11_power_205 (Nat.le_of_ble_eq_true rfl) (?_ : RR _ _ _ _ 207 [_, _, _, _, _, _, _, _, _, _, _, _, _, _] _ _ _)
  refine R_iload dX11_power_207 rfl (?_ : RR _ _ _ _ 209 _ _ _ _)
  refine R_istore dX11_power_209 (Nat.le_of_ble_eq_true rfl) (?_ : RR _ _ _ _ 211 [_, _, _, _, _, _, _, _, _, _, _, _, _, _] _ _ _)
  refine R_iinc dX11_power_211 rfl (Nat.le_of_ble_eq_true rfl) (?_ : RR _ _ _ _ 214 [_, _, _, _, _, _, _, _, _, _, _, _, _, _] _ _ _)
  refine R_goto (t := 104) dX11_power_214 rfl (?_ : RR _ _ _ _ 104 _ _ _ _)
  exact KK
theorem PW_104 {h5 : Nat → Int → Int} {Q : Option PV → PH → Prop} {pp o T own K f s0 L i : Int} {w11 w12 w13 : PV} (hi : i < K) (hir : r32 i) (hKr : r32 K) (hT : 0 ≤ T ∧ T ≤ 4000) (hown : 0 ≤ own ∧ own ≤ 99) (hL : 0 ≤ L ∧ L ≤ 4000) (KK : ∀ z11 z12 : Int, RR mX11_power 5 0 0 171 [pR 0, pI pp, pR 36, pI o, pI T, pI own, pI K, pI (f + pwT T own L), pI s0, pI L, pI i, pI z11, pI z12, w13] [] (shp0, rf0, h5) Q) : RR mX11_power 5 0 0 104 [pR 0, pI pp, pR 36, pI o, pI T, pI own, pI K, pI f, pI s0, pI L, pI i, w11, w12, w13] [] (shp0, rf0, h5) Q := by
  unfold pwT at KK
  by_cases y1 : T ≤ 2 * L
  · by_cases y2 : 2 * (L - own) < T
    · rw [if_pos ⟨y1, y2⟩] at KK
      refine R_iload dX11_power_104 rfl (?_ : RR _ _ _ _ 106 _ _ _ _)
      refine R_iload dX11_power_106 rfl (?_ : RR _ _ _ _ 108 _ _ _ _)
      refine R_icmp_ge (t := 217) dX11_power_108 rfl (fun c108 => ?_) (fun c108 => ?_)
      · exfalso; omega
      refine R_iload dX11_power_111 rfl (?_ : RR _ _ _ _ 113 _ _ _ _)
      refine R_iload dX11_power_113 rfl (?_ : RR _ _ _ _ 115 _ _ _ _)
      refine R_iload dX11_power_115 rfl (?_ : RR _ _ _ _ 117 _ _ _ _)
      refine R_isub dX11_power_117 (?_ : RR _ _ _ _ 118 _ _ _ _)
      refine R_icmp_lt (t := 125) dX11_power_118 rfl (fun c118 => ?_) (fun c118 => ?_)
      · exfalso; omega
      refine R_iconst dX11_power_121 (?_ : RR _ _ _ _ 122 _ _ _ _)
      refine R_goto (t := 126) dX11_power_122 rfl (?_ : RR _ _ _ _ 126 _ _ _ _)
      refine R_istore dX11_power_126 (Nat.le_of_ble_eq_true rfl) (?_ : RR _ _ _ _ 128 [_, _, _, _, _, _, _, _, _, _, _, _, _, _] _ _ _)
      refine R_iload dX11_power_128 rfl (?_ : RR _ _ _ _ 130 _ _ _ _)
      refine R_iload dX11_power_130 rfl (?_ : RR _ _ _ _ 132 _ _ _ _)
      refine R_isub dX11_power_132 (?_ : RR _ _ _ _ 133 _ _ _ _)
      refine R_iload dX11_power_133 rfl (?_ : RR _ _ _ _ 135 _ _ _ _)
      refine R_iload dX11_power_135 rfl (?_ : RR _ _ _ _ 137 _ _ _ _)
      refine R_isub dX11_power_137 (?_ : RR _ _ _ _ 138 _ _ _ _)
      refine R_iload dX11_power_138 rfl (?_ : RR _ _ _ _ 140 _ _ _ _)
      refine R_iadd dX11_power_140 (?_ : RR _ _ _ _ 141 _ _ _ _)
      refine R_icmp_ge (t := 148) dX11_power_141 rfl (fun c141 => ?_) (fun c141 => ?_)
      · exfalso; omega
      refine R_iconst dX11_power_144 (?_ : RR _ _ _ _ 145 _ _ _ _)
      refine R_goto (t := 149) dX11_power_145 rfl (?_ : RR _ _ _ _ 149 _ _ _ _)
      refine R_istore dX11_power_149 (Nat.le_of_ble_eq_true rfl) (?_ : RR _ _ _ _ 151 [_, _, _, _, _, _, _, _, _, _, _, _, _, _] _ _ _)
      refine R_iload dX11_power_151 rfl (?_ : RR _ _ _ _ 153 _ _ _ _)
      refine R_iload dX11_power_153 rfl (?_ : RR _ _ _ _ 155 _ _ _ _)
      refine R_if_eq (t := 167) dX11_power_155 rfl (fun c155 => ?_) (fun c155 => ?_)
      · exfalso; omega
      refine R_iload dX11_power_158 rfl (?_ : RR _ _ _ _ 160 _ _ _ _)
      refine R_if_eq (t := 167) dX11_power_160 rfl (fun c160 => ?_) (fun c160 => ?_)
      · exfalso; omega
      refine R_iconst dX11_power_163 (?_ : RR _ _ _ _ 164 _ _ _ _)
      refine R_goto (t := 168) dX11_power_164 rfl (?_ : RR _ _ _ _ 168 _ _ _ _)
      refine R_iadd dX11_power_168 (?_ : RR _ _ _ _ 169 _ _ _ _)
      refine R_istore dX11_power_169 (Nat.le_of_ble_eq_true rfl) (?_ : RR _ _ _ _ 171 [_, _, _, _, _, _, _, _, _, _, _, _, _, _] _ _ _)
      exact KK _ _
    · rw [if_neg (fun z => y2 z.2)] at KK
      refine R_iload dX11_power_104 rfl (?_ : RR _ _ _ _ 106 _ _ _ _)
      refine R_iload dX11_power_106 rfl (?_ : RR _ _ _ _ 108 _ _ _ _)
      refine R_icmp_ge (t := 217) dX11_power_108 rfl (fun c108 => ?_) (fun c108 => ?_)
      · exfalso; omega
      refine R_iload dX11_power_111 rfl (?_ : RR _ _ _ _ 113 _ _ _ _)
      refine R_iload dX11_power_113 rfl (?_ : RR _ _ _ _ 115 _ _ _ _)
      refine R_iload dX11_power_115 rfl (?_ : RR _ _ _ _ 117 _ _ _ _)
      refine R_isub dX11_power_117 (?_ : RR _ _ _ _ 118 _ _ _ _)
      refine R_icmp_lt (t := 125) dX11_power_118 rfl (fun c118 => ?_) (fun c118 => ?_)
      · exfalso; omega
      refine R_iconst dX11_power_121 (?_ : RR _ _ _ _ 122 _ _ _ _)
      refine R_goto (t := 126) dX11_power_122 rfl (?_ : RR _ _ _ _ 126 _ _ _ _)
      refine R_istore dX11_power_126 (Nat.le_of_ble_eq_true rfl) (?_ : RR _ _ _ _ 128 [_, _, _, _, _, _, _, _, _, _, _, _, _, _] _ _ _)
      refine R_iload dX11_power_128 rfl (?_ : RR _ _ _ _ 130 _ _ _ _)
      refine R_iload dX11_power_130 rfl (?_ : RR _ _ _ _ 132 _ _ _ _)
      refine R_isub dX11_power_132 (?_ : RR _ _ _ _ 133 _ _ _ _)
      refine R_iload dX11_power_133 rfl (?_ : RR _ _ _ _ 135 _ _ _ _)
      refine R_iload dX11_power_135 rfl (?_ : RR _ _ _ _ 137 _ _ _ _)
      refine R_isub dX11_power_137 (?_ : RR _ _ _ _ 138 _ _ _ _)
      refine R_iload dX11_power_138 rfl (?_ : RR _ _ _ _ 140 _ _ _ _)
      refine R_iadd dX11_power_140 (?_ : RR _ _ _ _ 141 _ _ _ _)
      refine R_icmp_ge (t := 148) dX11_power_141 rfl (fun c141 => ?_) (fun c141 => ?_)
      rotate_left
      · exfalso; omega
      refine R_iconst dX11_power_148 (?_ : RR _ _ _ _ 149 _ _ _ _)
      refine R_istore dX11_power_149 (Nat.le_of_ble_eq_true rfl) (?_ : RR _ _ _ _ 151 [_, _, _, _, _, _, _, _, _, _, _, _, _, _] _ _ _)
      refine R_iload dX11_power_151 rfl (?_ : RR _ _ _ _ 153 _ _ _ _)
      refine R_iload dX11_power_153 rfl (?_ : RR _ _ _ _ 155 _ _ _ _)
      refine R_if_eq (t := 167) dX11_power_155 rfl (fun c155 => ?_) (fun c155 => ?_)
      · exfalso; omega
      refine R_iload dX11_power_158 rfl (?_ : RR _ _ _ _ 160 _ _ _ _)
      refine R_if_eq (t := 167) dX11_power_160 rfl (fun c160 => ?_) (fun c160 => ?_)
      rotate_left
      · exfalso; omega
      refine R_iconst dX11_power_167 (?_ : RR _ _ _ _ 168 _ _ _ _)
      refine R_iadd dX11_power_168 (?_ : RR _ _ _ _ 169 _ _ _ _)
      refine R_istore dX11_power_169 (Nat.le_of_ble_eq_true rfl) (?_ : RR _ _ _ _ 171 [_, _, _, _, _, _, _, _, _, _, _, _, _, _] _ _ _)
      exact KK _ _
  · rw [if_neg (fun z => y1 z.1)] at KK
    by_cases y2 : 2 * (L - own) < T
    · refine R_iload dX11_power_104 rfl (?_ : RR _ _ _ _ 106 _ _ _ _)
      refine R_iload dX11_power_106 rfl (?_ : RR _ _ _ _ 108 _ _ _ _)
      refine R_icmp_ge (t := 217) dX11_power_108 rfl (fun c108 => ?_) (fun c108 => ?_)
      · exfalso; omega
      refine R_iload dX11_power_111 rfl (?_ : RR _ _ _ _ 113 _ _ _ _)
      refine R_iload dX11_power_113 rfl (?_ : RR _ _ _ _ 115 _ _ _ _)
      refine R_iload dX11_power_115 rfl (?_ : RR _ _ _ _ 117 _ _ _ _)
      refine R_isub dX11_power_117 (?_ : RR _ _ _ _ 118 _ _ _ _)
      refine R_icmp_lt (t := 125) dX11_power_118 rfl (fun c118 => ?_) (fun c118 => ?_)
      rotate_left
      · exfalso; omega
      refine R_iconst dX11_power_125 (?_ : RR _ _ _ _ 126 _ _ _ _)
      refine R_istore dX11_power_126 (Nat.le_of_ble_eq_true rfl) (?_ : RR _ _ _ _ 128 [_, _, _, _, _, _, _, _, _, _, _, _, _, _] _ _ _)
      refine R_iload dX11_power_128 rfl (?_ : RR _ _ _ _ 130 _ _ _ _)
      refine R_iload dX11_power_130 rfl (?_ : RR _ _ _ _ 132 _ _ _ _)
      refine R_isub dX11_power_132 (?_ : RR _ _ _ _ 133 _ _ _ _)
      refine R_iload dX11_power_133 rfl (?_ : RR _ _ _ _ 135 _ _ _ _)
      refine R_iload dX11_power_135 rfl (?_ : RR _ _ _ _ 137 _ _ _ _)
      refine R_isub dX11_power_137 (?_ : RR _ _ _ _ 138 _ _ _ _)
      refine R_iload dX11_power_138 rfl (?_ : RR _ _ _ _ 140 _ _ _ _)
      refine R_iadd dX11_power_140 (?_ : RR _ _ _ _ 141 _ _ _ _)
      refine R_icmp_ge (t := 148) dX11_power_141 rfl (fun c141 => ?_) (fun c141 => ?_)
      · exfalso; omega
      refine R_iconst dX11_power_144 (?_ : RR _ _ _ _ 145 _ _ _ _)
      refine R_goto (t := 149) dX11_power_145 rfl (?_ : RR _ _ _ _ 149 _ _ _ _)
      refine R_istore dX11_power_149 (Nat.le_of_ble_eq_true rfl) (?_ : RR _ _ _ _ 151 [_, _, _, _, _, _, _, _, _, _, _, _, _, _] _ _ _)
      refine R_iload dX11_power_151 rfl (?_ : RR _ _ _ _ 153 _ _ _ _)
      refine R_iload dX11_power_153 rfl (?_ : RR _ _ _ _ 155 _ _ _ _)
      refine R_if_eq (t := 167) dX11_power_155 rfl (fun c155 => ?_) (fun c155 => ?_)
      rotate_left
      · exfalso; omega
      refine R_iconst dX11_power_167 (?_ : RR _ _ _ _ 168 _ _ _ _)
      refine R_iadd dX11_power_168 (?_ : RR _ _ _ _ 169 _ _ _ _)
      refine R_istore dX11_power_169 (Nat.le_of_ble_eq_true rfl) (?_ : RR _ _ _ _ 171 [_, _, _, _, _, _, _, _, _, _, _, _, _, _] _ _ _)
      exact KK _ _
    · refine R_iload dX11_power_104 rfl (?_ : RR _ _ _ _ 106 _ _ _ _)
      refine R_iload dX11_power_106 rfl (?_ : RR _ _ _ _ 108 _ _ _ _)
      refine R_icmp_ge (t := 217) dX11_power_108 rfl (fun c108 => ?_) (fun c108 => ?_)
      · exfalso; omega
      refine R_iload dX11_power_111 rfl (?_ : RR _ _ _ _ 113 _ _ _ _)
      refine R_iload dX11_power_113 rfl (?_ : RR _ _ _ _ 115 _ _ _ _)
      refine R_iload dX11_power_115 rfl (?_ : RR _ _ _ _ 117 _ _ _ _)
      refine R_isub dX11_power_117 (?_ : RR _ _ _ _ 118 _ _ _ _)
      refine R_icmp_lt (t := 125) dX11_power_118 rfl (fun c118 => ?_) (fun c118 => ?_)
      rotate_left
      · exfalso; omega
      refine R_iconst dX11_power_125 (?_ : RR _ _ _ _ 126 _ _ _ _)
      refine R_istore dX11_power_126 (Nat.le_of_ble_eq_true rfl) (?_ : RR _ _ _ _ 128 [_, _, _, _, _, _, _, _, _, _, _, _, _, _] _ _ _)
      refine R_iload dX11_power_128 rfl (?_ : RR _ _ _ _ 130 _ _ _ _)
      refine R_iload dX11_power_130 rfl (?_ : RR _ _ _ _ 132 _ _ _ _)
      refine R_isub dX11_power_132 (?_ : RR _ _ _ _ 133 _ _ _ _)
      refine R_iload dX11_power_133 rfl (?_ : RR _ _ _ _ 135 _ _ _ _)
      refine R_iload dX11_power_135 rfl (?_ : RR _ _ _ _ 137 _ _ _ _)
      refine R_isub dX11_power_137 (?_ : RR _ _ _ _ 138 _ _ _ _)
      refine R_iload dX11_power_138 rfl (?_ : RR _ _ _ _ 140 _ _ _ _)
      refine R_iadd dX11_power_140 (?_ : RR _ _ _ _ 141 _ _ _ _)
      refine R_icmp_ge (t := 148) dX11_power_141 rfl (fun c141 => ?_) (fun c141 => ?_)
      rotate_left
      · exfalso; omega
      refine R_iconst dX11_power_148 (?_ : RR _ _ _ _ 149 _ _ _ _)
      refine R_istore dX11_power_149 (Nat.le_of_ble_eq_true rfl) (?_ : RR _ _ _ _ 151 [_, _, _, _, _, _, _, _, _, _, _, _, _, _] _ _ _)
      refine R_iload dX11_power_151 rfl (?_ : RR _ _ _ _ 153 _ _ _ _)
      refine R_iload dX11_power_153 rfl (?_ : RR _ _ _ _ 155 _ _ _ _)
      refine R_if_eq (t := 167) dX11_power_155 rfl (fun c155 => ?_) (fun c155 => ?_)
      rotate_left
      · exfalso; omega
      refine R_iconst dX11_power_167 (?_ : RR _ _ _ _ 168 _ _ _ _)
      refine R_iadd dX11_power_168 (?_ : RR _ _ _ _ 169 _ _ _ _)
      refine R_istore dX11_power_169 (Nat.le_of_ble_eq_true rfl) (?_ : RR _ _ _ _ 171 [_, _, _, _, _, _, _, _, _, _, _, _, _, _] _ _ _)
      exact KK _ _
set_option maxHeartbeats 4000000 in
theorem C_power {p a K N : Nat} {X : Cx} {T own : Int} (hs : SRx k h sem H np nc len) (hX : X = cxM sem h np nc) (hp : p < np) (ha : a = bset (ridP (h 154)) np) (hr : ridP (h 154) p = true) (hT : T = poS (ridP (h 154)) (xV X (h 154)) (xWi X (h 154)) np 0 + poS (ridP (h 154)) (xV X (h 154)) (xWi X (h 154)) np 1 + poS (ridP (h 154)) (xV X (h 154)) (xWi X (h 154)) np 2) (hown : own = xV X (h 154) p) (hK : K = 2 ^ pop 12 (oth a p)) (hN : (N : Int) = pwN (xV X (h 154)) np a p T own K) : RR mX11_power 5 0 0 0 (pm_ent [pR 0, pI p] 14) [] (shp0, rf0, h) (cQ h N (some (frL N K).reverse)) := by
  have x6 := sR6 hs
  have x12 := sR12 hs
  have h11 : h 11 0 = np := hs.1.2.2.2.2.2.2.1.2.1.1
  have hcp := hs.2.2.2.1.1
  obtain ⟨hf, e0, e1, e2, e3, ep, ea, es⟩ := id hcp
  have t14 := isTr_14
  have hTT := C_held hs
  rw [← hX] at hTT
  have hXP : xP X = np := by rw [hX]; rfl
  have al := bset_4096 (P := ridP (h 154)) (n := np) x12
  rw [← ha] at al
  have hol := oth_lt (a := a) (p := p)
  have hab : ∀ i, a.testBit i = true → i < np := fun i hi => by
    rw [ha, bset_bit] at hi
    simp at hi
    exact hi.1
  have hob : ∀ i, (oth a p).testBit i = true → i < np := fun i hi => by
    rw [oth_bit al] at hi
    simp at hi
    exact hab i hi.1
  have hepl : ∀ c : Int, 0 ≤ c → c < nc → h (14 + 2) c = mP (h 154) c := fun c c0 c1 => by
    have := ep c.toNat (show c.toNat < nc by omega)
    rw [show ((c.toNat : Nat) : Int) = c by omega] at this
    exact this
  have hseat : ∀ j : Nat, j < np → mS (h 154) j = -1 ∨ (0 ≤ mS (h 154) j ∧ mS (h 154) j < nc ∧ (mP (h 154) (mS (h 154) j) = -1 ∨ 0 ≤ mP (h 154) (mS (h 154) j))) := fun j hj => by
    have h1 : mS (h 154) j = -1 ∨ (0 ≤ mS (h 154) j ∧ mS (h 154) j < nc ∧ _) := hf.2.2.2.2.2 j hj
    rcases h1 with z | z
    · exact Or.inl z
    · have := fOK_pl hf z.1 z.2.1
      omega
  have hcar : ∀ j : Nat, j < np → decide (h (14 + 4) j ≠ -1 ∧ h (14 + 2) (h (14 + 4) j) ≠ -1) = ridP (h 154) j := fun j hj => by
    have h1 := hseat j hj
    have h2 : h (14 + 4) j = mS (h 154) j := es j hj
    unfold ridP
    apply decide_eq_decide.mpr
    rw [h2]
    by_cases y : mS (h 154) j = -1
    · exact ⟨fun z => absurd y z.1, fun z => by omega⟩
    · rw [hepl _ (by omega) (by omega)]
      omega
  have hTb : 0 ≤ T ∧ T ≤ 4000 := by
    have b0 := poS_b (P := ridP (h 154)) (V := xV X (h 154)) (W := xWi X (h 154)) (np := np) (j := 0) (fun p => xV_b)
    have b1 := poS_b (P := ridP (h 154)) (V := xV X (h 154)) (W := xWi X (h 154)) (np := np) (j := 1) (fun p => xV_b)
    have b2 := poS_b (P := ridP (h 154)) (V := xV X (h 154)) (W := xWi X (h 154)) (np := np) (j := 2) (fun p => xV_b)
    omega
  have hownb : 0 ≤ own ∧ own ≤ 99 := by rw [hown]; exact xV_b
  have hKb : K ≤ 4096 := by rw [hK]; exact pw_4096
  have hK1 : 1 ≤ K := by rw [hK]; exact Nat.pow_pos (by omega)
  have hNb := pwN_b (V := xV X (h 154)) (np := np) (a := a) (p := p) (T := T) (own := own) K
  rw [← hN] at hNb
  have hVb : ∀ S : Nat, 0 ≤ pwV (xV X (h 154)) np S ∧ pwV (xV X (h 154)) np S ≤ 99 * np := fun S => sm_b (by omega) (fun q => by have := xV_b (X := X) (f := h 154) (p := q); split <;> omega) np
  have hpl := pop_le 12 (oth a p)
  show RR _ _ _ _ _ [pR 0, pI p, pU, pU, pU, pU, pU, pU, pU, pU, pU, pU, pU, pU] _ _ _
  have KK : ∀ h5 : Nat → Int → Int, heldP X (h 154) h h5 → RR mX11_power 5 0 0 31 [pR 0, pI p, pU, pU, pU, pU, pU, pU, pU, pU, pU, pU, pU, pU] [pR 36] (shp0, rf0, h5) (cQ h N (some (frL N K).reverse)) := by
    intro h5 hh
    have g11 : h5 11 0 = np := by rw [hh.1 11 (by omega)]; exact h11
    have g18 : h5 (14 + 4) = h (14 + 4) := hh.1 18 (by omega)
    have g16 : h5 (14 + 2) = h (14 + 2) := hh.1 16 (by omega)
    have hcb := T_X9_carriedBits (t := 14) (n := np) (h := h5) (fun j hj => by
      rw [g18, es j hj]
      have := hseat j hj
      omega)
    rw [g18, g16, bset_congr hcar, ← ha] at hcb
    have hsh := iShl_one p (by omega)
    have hpw : 2 ^ p < 2 ^ 12 := Nat.pow_lt_pow_right (by omega) (by omega)
    have hoi := iAndN (a := a) (b := 2 ^ p) (n := 12) al (by omega) (by omega)
    have hoi : iAnd (a : Int) (iXor ((2 ^ p : Nat) : Int) (-1)) = ((oth a p : Nat) : Int) := hoi
    have h37 : ∀ q : Nat, q < np → h5 37 q = xV X (h 154) q := fun q hq => (hh.2.1 q (by rw [hXP]; exact hq)).1
    have e400 := hh.2.2.2 0 (by omega)
    have e401 := hh.2.2.2 1 (by omega)
    have e402 := hh.2.2.2 2 (by omega)
    rw [hXP] at e400 e401 e402
    have hTe : h5 40 0 + h5 40 1 + h5 40 2 = T := by rw [e400, e401, e402, hT]
    have hOe : h5 37 p = own := by rw [h37 p hp, hown]
    have hsets := iShl_one (pop 12 (oth a p)) (by omega)
    rw [← hK] at hsets
    have hsb : ∀ i j : Nat, (sv (oth a p) i).testBit j = true → j < np := fun i j hj => by
      unfold sv at hj
      split at hj
      · exact hob j (dep_sub 12 (oth a p) i j hj)
      · rw [Nat.zero_testBit] at hj; cases hj
    have L : ∀ (j i : Nat) (w11 w12 w13 : PV), i + j = K → RR mX11_power 5 0 0 104 [pR 0, pI p, pR 36, pI (oth a p), pI T, pI own, pI K, pI (pwN (xV X (h 154)) np a p T own i), pI (sv (oth a p) i), pI (own + pwV (xV X (h 154)) np (sv (oth a p) i)), pI i, w11, w12, w13] [] (shp0, rf0, h5) (cQ h N (some (frL N K).reverse)) := by
      intro j
      induction j with
      | zero =>
        intro i w11 w12 w13 hi
        obtain rfl : i = K := by omega
        rw [← hN]
        refine R_iload dX11_power_104 rfl (?_ : RR _ _ _ _ 106 _ _ _ _)
        refine R_iload dX11_power_106 rfl (?_ : RR _ _ _ _ 108 _ _ _ _)
        refine R_icmp_ge (t := 217) dX11_power_108 rfl (fun c108 => ?_) (fun c108 => ?_)
        rotate_left
        · exfalso; omega
        refine R_aload_n dX11_power_217 rfl (?_ : RR _ _ _ _ 218 _ _ _ _)
        refine R_iload dX11_power_218 rfl (?_ : RR _ _ _ _ 220 _ _ _ _)
        refine R_i2l dX11_power_220 (by first | assumption | omega) (?_ : RR _ _ _ _ 221 _ _ _ _)
        refine R_iload dX11_power_221 rfl (?_ : RR _ _ _ _ 223 _ _ _ _)
        refine R_i2l dX11_power_223 (by first | assumption | omega) (?_ : RR _ _ _ _ 224 _ _ _ _)
        refine R_cVv2 dX11_power_224 mvX11_tellFraction mlX11_339 (by decide) (by decide) (Nat.le_of_ble_eq_true rfl) (Nat.le_of_ble_eq_true rfl) (T_X11_tellFraction (by omega) (by omega)) (?_ : RR _ _ _ _ 227 _ _ _ _)
        refine R_iload dX11_power_227 rfl (?_ : RR _ _ _ _ 229 _ _ _ _)
        exact R_ireturn dX11_power_229 trivial (cQ_tl (fun b q => hh.1 b (by omega)) rfl)
      | succ j ih =>
        intro i w11 w12 w13 hi
        have hnx := sv_nx (m := oth a p) (i := i) hol (by rw [← hK]; omega)
        have hs1 := sv_lt (m := oth a p) (i := i) hol
        have hs2 := sv_lt (m := oth a p) (i := i + 1) hol
        have hn := pwN_b (V := xV X (h 154)) (np := np) (a := a) (p := p) (T := T) (own := own) i
        have e9 : pwN (xV X (h 154)) np a p T own (i + 1) = pwN (xV X (h 154)) np a p T own i + pwT T own (own + pwV (xV X (h 154)) np (dep 12 (oth a p) i)) := rfl
        have esv : sv (oth a p) i = dep 12 (oth a p) i := by unfold sv; rw [if_pos (by rw [← hK]; omega)]
        rw [← esv] at e9
        have hv1 := hVb (sv (oth a p) i)
        have hup : pwV (xV X (h 154)) np (sv (oth a p) i) + (pwV (xV X (h 154)) np (bset (fun b => (sv (oth a p) (i + 1)).testBit b && !(sv (oth a p) i).testBit b) 12) - pwV (xV X (h 154)) np (bset (fun b => (sv (oth a p) i).testBit b && !(sv (oth a p) (i + 1)).testBit b) 12)) = pwV (xV X (h 154)) np (sv (oth a p) (i + 1)) := by
          refine pw_up (fun b => ?_) (fun b => ?_) np
          · rw [bset_bit]
            cases hq : (sv (oth a p) (i + 1)).testBit b
            · simp
            · rw [decide_eq_true (tb_12 hs2 hq), Bool.true_and]
          · rw [bset_bit]
            cases hq : (sv (oth a p) i).testBit b
            · simp
            · rw [decide_eq_true (tb_12 hs1 hq), Bool.true_and]
        have IH := fun w11 w12 w13 => ih (i + 1) w11 w12 w13 (by omega)
        rw [e9, ← hup] at IH
        generalize hs0 : sv (oth a p) i = s0 at IH hnx hs1 hv1 e9 hup
        generalize hs9 : sv (oth a p) (i + 1) = s9 at IH hnx hs2 hup
        have d1 := iAndN (a := s9) (b := s0) (n := 12) hs2 (by omega) (by omega)
        have d2 := iAndN (a := s0) (b := s9) (n := 12) hs1 (by omega) (by omega)
        have v1 := T_X10_votesIn (h := h5) (S := bset (fun b => s9.testBit b && !s0.testBit b) 12) (bset_lt _ 12)
        have v2 := T_X10_votesIn (h := h5) (S := bset (fun b => s0.testBit b && !s9.testBit b) 12) (bset_lt _ 12)
        have v1 : MT mX10_votesIn 0 [pR 36, pI (bset (fun b => s9.testBit b && !s0.testBit b) 12 : Nat)] h5 (some (pI (pwV (xV X (h 154)) np (bset (fun b => s9.testBit b && !s0.testBit b) 12)))) h5 := by
          rw [← pw_cls (V' := h5 37) (np := np) (S := bset (fun b => s9.testBit b && !s0.testBit b) 12) (fun b hb => by
            rw [bset_bit] at hb
            simp at hb
            exact hsb (i + 1) b (by rw [hs9]; exact hb.2.1)) h37 x12]
          exact v1
        have v2 : MT mX10_votesIn 0 [pR 36, pI (bset (fun b => s0.testBit b && !s9.testBit b) 12 : Nat)] h5 (some (pI (pwV (xV X (h 154)) np (bset (fun b => s0.testBit b && !s9.testBit b) 12)))) h5 := by
          rw [← pw_cls (V' := h5 37) (np := np) (S := bset (fun b => s0.testBit b && !s9.testBit b) 12) (fun b hb => by
            rw [bset_bit] at hb
            simp at hb
            exact hsb i b (by rw [hs0]; exact hb.2.1)) h37 x12]
          exact v2
        refine PW_104 (by omega) (by omega) (by omega) hTb hownb (by omega) (fun z11 z12 => ?_)
        refine PW_171 hnx d1 d2 v1 v2 ?_
        have IH2 := IH (pI z11) (pI z12) (pI s9)
        rw [← Int.add_assoc] at IH2
        exact IH2
    have L0 := fun w11 w12 w13 => L K 0 w11 w12 w13 (by omega)
    rw [sv_0, show pwN (xV X (h 154)) np a p T own 0 = 0 from rfl, show pwV (xV X (h 154)) np 0 = 0 by unfold pwV; rw [sm_congr (g' := fun _ => 0) (fun o _ => by rw [Nat.zero_testBit]; rfl), sm_zero], Int.add_zero] at L0
    refine R_astore_n dX11_power_31 (Nat.le_of_ble_eq_true rfl) (?_ : RR _ _ _ _ 32 [_, _, _, _, _, _, _, _, _, _, _, _, _, _] _ _ _)
    refine R_aload_n dX11_power_32 rfl (?_ : RR _ _ _ _ 33 _ _ _ _)
    refine R_getr dX11_power_33 flX11_36 cok_11 rfl (by decide) (?_ : RR _ _ _ _ 36 _ _ _ _)
    refine R_aload_n dX11_power_36 rfl (?_ : RR _ _ _ _ 37 _ _ _ _)
    refine R_getr dX11_power_37 flX11_29 cok_11 rfl (by decide) (?_ : RR _ _ _ _ 40 _ _ _ _)
    refine R_geti (z := 0) dX11_power_40 flX11_116 cok_2 rfl (by decide) rfl (fun q40 => (?_ : RR _ _ _ _ 43 _ _ _ _))
    rw [g11] at q40 ⊢
    refine R_cVi1 dX11_power_43 mvX9_carriedBits mlX11_333 (by decide) (by decide) (Nat.le_of_ble_eq_true rfl) (Nat.le_of_ble_eq_true rfl) (hcb) (?_ : RR _ _ _ _ 46 _ _ _ _)
    refine R_iconst dX11_power_46 (?_ : RR _ _ _ _ 47 _ _ _ _)
    refine R_iload_n dX11_power_47 rfl (?_ : RR _ _ _ _ 48 _ _ _ _)
    refine R_ishl dX11_power_48 (?_ : RR _ _ _ _ 49 _ _ _ _)
    rw [hsh]
    refine R_iconst dX11_power_49 (?_ : RR _ _ _ _ 50 _ _ _ _)
    refine R_ixor dX11_power_50 (?_ : RR _ _ _ _ 51 _ _ _ _)
    refine R_iand dX11_power_51 (?_ : RR _ _ _ _ 52 _ _ _ _)
    rw [hoi]
    refine R_istore_n dX11_power_52 (Nat.le_of_ble_eq_true rfl) (?_ : RR _ _ _ _ 53 [_, _, _, _, _, _, _, _, _, _, _, _, _, _] _ _ _)
    refine R_aload_n dX11_power_53 rfl (?_ : RR _ _ _ _ 54 _ _ _ _)
    refine R_getr dX11_power_54 flX11_305 cok_10 rfl (by decide) (?_ : RR _ _ _ _ 57 _ _ _ _)
    refine R_iconst dX11_power_57 (?_ : RR _ _ _ _ 58 _ _ _ _)
    refine R_iald dX11_power_58 (fun q58 => (?_ : RR _ _ _ _ 59 _ _ _ _))
    refine R_aload_n dX11_power_59 rfl (?_ : RR _ _ _ _ 60 _ _ _ _)
    refine R_getr dX11_power_60 flX11_305 cok_10 rfl (by decide) (?_ : RR _ _ _ _ 63 _ _ _ _)
    refine R_iconst dX11_power_63 (?_ : RR _ _ _ _ 64 _ _ _ _)
    refine R_iald dX11_power_64 (fun q64 => (?_ : RR _ _ _ _ 65 _ _ _ _))
    refine R_iadd dX11_power_65 (?_ : RR _ _ _ _ 66 _ _ _ _)
    refine R_aload_n dX11_power_66 rfl (?_ : RR _ _ _ _ 67 _ _ _ _)
    refine R_getr dX11_power_67 flX11_305 cok_10 rfl (by decide) (?_ : RR _ _ _ _ 70 _ _ _ _)
    refine R_iconst dX11_power_70 (?_ : RR _ _ _ _ 71 _ _ _ _)
    refine R_iald dX11_power_71 (fun q71 => (?_ : RR _ _ _ _ 72 _ _ _ _))
    refine R_iadd dX11_power_72 (?_ : RR _ _ _ _ 73 _ _ _ _)
    rw [hTe]
    refine R_istore dX11_power_73 (Nat.le_of_ble_eq_true rfl) (?_ : RR _ _ _ _ 75 [_, _, _, _, _, _, _, _, _, _, _, _, _, _] _ _ _)
    refine R_aload_n dX11_power_75 rfl (?_ : RR _ _ _ _ 76 _ _ _ _)
    refine R_getr dX11_power_76 flX11_214 cok_10 rfl (by decide) (?_ : RR _ _ _ _ 79 _ _ _ _)
    refine R_iload_n dX11_power_79 rfl (?_ : RR _ _ _ _ 80 _ _ _ _)
    refine R_iald dX11_power_80 (fun q80 => (?_ : RR _ _ _ _ 81 _ _ _ _))
    rw [hOe] at q80 ⊢
    refine R_istore dX11_power_81 (Nat.le_of_ble_eq_true rfl) (?_ : RR _ _ _ _ 83 [_, _, _, _, _, _, _, _, _, _, _, _, _, _] _ _ _)
    refine R_iconst dX11_power_83 (?_ : RR _ _ _ _ 84 _ _ _ _)
    refine R_iload_n dX11_power_84 rfl (?_ : RR _ _ _ _ 85 _ _ _ _)
    refine R_cSi1 dX11_power_85 msJ6_bitCount_0f7a4 mlX11_325 (by decide) (Nat.le_of_ble_eq_true rfl) (Nat.le_of_ble_eq_true rfl) (T_J6_bitCount_0f7a4) (?_ : RR _ _ _ _ 88 _ _ _ _)
    refine R_ishl dX11_power_88 (?_ : RR _ _ _ _ 89 _ _ _ _)
    rw [hsets]
    refine R_istore dX11_power_89 (Nat.le_of_ble_eq_true rfl) (?_ : RR _ _ _ _ 91 [_, _, _, _, _, _, _, _, _, _, _, _, _, _] _ _ _)
    refine R_iconst dX11_power_91 (?_ : RR _ _ _ _ 92 _ _ _ _)
    refine R_istore dX11_power_92 (Nat.le_of_ble_eq_true rfl) (?_ : RR _ _ _ _ 94 [_, _, _, _, _, _, _, _, _, _, _, _, _, _] _ _ _)
    refine R_iconst dX11_power_94 (?_ : RR _ _ _ _ 95 _ _ _ _)
    refine R_istore dX11_power_95 (Nat.le_of_ble_eq_true rfl) (?_ : RR _ _ _ _ 97 [_, _, _, _, _, _, _, _, _, _, _, _, _, _] _ _ _)
    refine R_iload dX11_power_97 rfl (?_ : RR _ _ _ _ 99 _ _ _ _)
    refine R_istore dX11_power_99 (Nat.le_of_ble_eq_true rfl) (?_ : RR _ _ _ _ 101 [_, _, _, _, _, _, _, _, _, _, _, _, _, _] _ _ _)
    refine R_iconst dX11_power_101 (?_ : RR _ _ _ _ 102 _ _ _ _)
    refine R_istore dX11_power_102 (Nat.le_of_ble_eq_true rfl) (?_ : RR _ _ _ _ 104 [_, _, _, _, _, _, _, _, _, _, _, _, _, _] _ _ _)
    exact L0 _ _ _
  have hcar2 := hcar p hp
  rw [hr] at hcar2
  have hcar2 := of_decide_eq_true hcar2
  have hsp := hseat p hp
  have esp : h (14 + 4) p = mS (h 154) p := es p hp
  refine R_aload_n dX11_power_0 rfl (?_ : RR _ _ _ _ 1 _ _ _ _)
  refine R_getr dX11_power_1 flX11_29 cok_11 rfl (by decide) (?_ : RR _ _ _ _ 4 _ _ _ _)
  refine R_iload_n dX11_power_4 rfl (?_ : RR _ _ _ _ 5 _ _ _ _)
  refine R_cVi1 dX11_power_5 mvX2_has mlX11_202 (by decide) (by decide) (Nat.le_of_ble_eq_true rfl) (Nat.le_of_ble_eq_true rfl) (T_X2_has) (?_ : RR _ _ _ _ 8 _ _ _ _)
  rw [h11, if_pos (by omega)]
  refine R_if_ne (t := 13) dX11_power_8 rfl (fun c8 => ?_) (fun c8 => ?_)
  rotate_left
  · exfalso; omega
  refine R_aload_n dX11_power_13 rfl (?_ : RR _ _ _ _ 14 _ _ _ _)
  refine R_getr dX11_power_14 flX11_36 cok_11 rfl (by decide) (?_ : RR _ _ _ _ 17 _ _ _ _)
  refine R_iload_n dX11_power_17 rfl (?_ : RR _ _ _ _ 18 _ _ _ _)
  refine R_cVi1 dX11_power_18 mvX9_carries mlX11_330 (by decide) (by decide) (Nat.le_of_ble_eq_true rfl) (Nat.le_of_ble_eq_true rfl) (T_X9_carries (hs := by rw [esp]; omega)) (?_ : RR _ _ _ _ 21 _ _ _ _)
  rw [if_pos hcar2]
  refine R_if_ne (t := 27) dX11_power_21 rfl (fun c21 => ?_) (fun c21 => ?_)
  rotate_left
  · exfalso; omega
  refine R_aload_n dX11_power_27 rfl (?_ : RR _ _ _ _ 28 _ _ _ _)
  refine R_qV0 dX11_power_28 mvX11_heldVote mlX11_190 (by decide) (by decide) (Nat.le_of_ble_eq_true rfl) (Nat.le_of_ble_eq_true rfl) (hTT) (fun r9 g9 hq9 => (?_ : RR _ _ _ _ 31 _ _ _ _))
  obtain ⟨rfl, h5, rfl, hh⟩ := hq9
  show RR _ _ _ _ _ _ [pR 36] _ _
  exact KK h5 hh
end PW
