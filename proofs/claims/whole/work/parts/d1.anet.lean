section NEA
variable {k : Nat} {h h1 h2 h3 h4 : Nat → Int → Int} {sem : Sem} {H0 H np nc len n b : Nat} {σ : Int → Int}
def neQ (σ : Int → Int) (H e : Nat) : Int × Int := neT σ H (neS σ e (neR σ H e).1).1
/-- the reference's net when it has come -/
def mnN (σ : Int → Int) (H : Nat) (h h2 : Nat → Int → Int) : Prop := (∀ a, ¬ (a = 147 ∨ (149 ≤ a ∧ a ≤ 151) ∨ a = 154 ∨ a = 157) → h2 a = h a) ∧ (∀ j : Int, j ≠ 0 → j ≠ 15 → j ≠ 16 → j ≠ 17 → j ≠ 18 → j ≠ 20 → j ≠ 3 → j ≠ 4 → j ≠ 5 → j ≠ 28 → j ≠ 40 → j ≠ 6 → h2 147 j = h 147 j) ∧ h2 147 15 = 0 ∧ h2 147 3 = H ∧ h2 147 4 = 0 ∧ h2 147 5 = 0 ∧ h2 147 28 = 0 ∧ h2 147 40 = 0 ∧ h2 147 6 = h 147 6 + 1 ∧ (∀ e : Nat, e < 18 → h2 149 e = (if e < 2 * H then (neQ σ H e).1 else -1) ∧ h2 150 e = (if e < 2 * H then (neQ σ H e).2 else 0)) ∧ h2 151 = lAll H (h2 149) (h2 150) (h 151) ∧ h2 154 = fup (fup (h 154) 0 0) 1 0
theorem neQ_b {e : Nat} (hH : H ≤ 9) : (-1 ≤ (neQ σ H e).1 ∧ (neQ σ H e).1 ≤ 8 ∧ (neQ σ H e).1 < H) ∧ 0 ≤ (neQ σ H e).2 ∧ (neQ σ H e).2 ≤ 9 := neT_b hH
theorem neQ_k {e : Nat} : (neQ σ H e).1 = -1 ∨ (0 ≤ (neQ σ H e).1 ∧ (neQ σ H e).1 < H ∧ 1 ≤ (neQ σ H e).2 ∧ (neQ σ H e).2 ≤ 9) := by
  unfold neQ neT
  split
  · dsimp only; omega
  · dsimp only; omega
def mnP (σ : Int → Int) (H i : Nat) (h h1 : Nat → Int → Int) : Prop := (∀ a, a ≠ 149 → a ≠ 150 → h1 a = h a) ∧ ∀ e : Nat, e < i → h1 149 e = (if e < 2 * H then (neQ σ H e).1 else -1) ∧ h1 150 e = (if e < 2 * H then (neQ σ H e).2 else 0)
theorem MNE_132 {Q : Option PV → PH → Prop} (hH9 : 1 ≤ H ∧ H ≤ 9) (hv : mnV σ H (2 * H) h) (h3H : h 147 3 = H) (K209 : ∀ h2, mnP σ H 18 h h2 → RR mX12_net 3 0 0 209 [pR 147, pI n, pI H, pI 1, pI 0, pI 18] [] (shp0, rf0, h2) Q) : ∀ (j i : Nat) (h1 : Nat → Int → Int), i + j = 18 → mnP σ H i h h1 → RR mX12_net 3 0 0 132 [pR 147, pI n, pI H, pI 1, pI 0, pI i] [] (shp0, rf0, h1) Q := by
  intro j
  induction j with
  | zero =>
    intro i h1 hi hp
    obtain rfl : i = 18 := by omega
    have K := K209 h1 hp
    clear K209
    refine R_iload dX12_net_132 rfl (?_ : RR _ _ _ _ 134 _ _ _ _)
    refine R_bipush dX12_net_134 rfl (?_ : RR _ _ _ _ 136 _ _ _ _)
    refine R_icmp_ge (t := 209) dX12_net_136 rfl (fun c136 => ?_) (fun c136 => ?_)
    rotate_left
    · exfalso; omega
    exact K
  | succ j ih =>
    intro i h1 hi hp
    have IH := ih (i + 1)
    have g3 : h1 147 3 = H := by rw [hp.1 147 (by omega) (by omega)]; exact h3H
    clear ih K209
    by_cases q : i < 2 * H
    · have v := hv i q
      have e157 : h1 157 = h 157 := hp.1 157 (by omega) (by omega)
      rw [← e157] at v
      have v1 : h1 157 (2 * i) = (neQ σ H i).1 := v.1
      have v2 : h1 157 (2 * i + 1) = (neQ σ H i).2 := v.2
      have nb := neQ_b (σ := σ) (e := i) hH9.2
      have K : RR mX12_net 3 0 0 132 [pR 147, pI n, pI H, pI 1, pI 0, pI ((i : Int) + 1)] [] (shp0, rf0, rup (rup h1 149 (fup (h1 149) i (neQ σ H i).1)) 150 (fup (h1 150) i (neQ σ H i).2)) Q := IH _ (by omega) ⟨fun a a1 a2 => by rw [rup_n a2, rup_n a1]; exact hp.1 a a1 a2, fun e he => by
        rw [rup_s, rup_n (by omega), rup_s]
        by_cases z : e = i
        · rw [z, fup_s, fup_s, if_pos q, if_pos q]; exact ⟨rfl, rfl⟩
        · rw [fup_n (by omega), fup_n (by omega)]; exact hp.2 e (by omega)⟩
      clear IH hv v
      generalize neQ σ H i = x at *
      refine R_iload dX12_net_132 rfl (?_ : RR _ _ _ _ 134 _ _ _ _)
      refine R_bipush dX12_net_134 rfl (?_ : RR _ _ _ _ 136 _ _ _ _)
      refine R_icmp_ge (t := 209) dX12_net_136 rfl (fun c136 => ?_) (fun c136 => ?_)
      · exfalso; omega
      refine R_aload_n dX12_net_139 rfl (?_ : RR _ _ _ _ 140 _ _ _ _)
      refine R_getr dX12_net_140 flX12_17 cok_12 rfl (by decide) (?_ : RR _ _ _ _ 143 _ _ _ _)
      refine R_iload dX12_net_143 rfl (?_ : RR _ _ _ _ 145 _ _ _ _)
      refine R_iload dX12_net_145 rfl (?_ : RR _ _ _ _ 147 _ _ _ _)
      refine R_iconst dX12_net_147 (?_ : RR _ _ _ _ 148 _ _ _ _)
      refine R_aload_n dX12_net_148 rfl (?_ : RR _ _ _ _ 149 _ _ _ _)
      refine R_geti (z := 3) dX12_net_149 flX12_13 cok_12 rfl (by decide) rfl (fun q149 => (?_ : RR _ _ _ _ 152 _ _ _ _))
      rw [g3] at q149 ⊢
      refine R_imul dX12_net_152 (?_ : RR _ _ _ _ 153 _ _ _ _)
      refine R_icmp_ge (t := 168) dX12_net_153 rfl (fun c153 => ?_) (fun c153 => ?_)
      · exfalso; omega
      refine R_aload_n dX12_net_156 rfl (?_ : RR _ _ _ _ 157 _ _ _ _)
      refine R_getr dX12_net_157 flX12_42 cok_12 rfl (by decide) (?_ : RR _ _ _ _ 160 _ _ _ _)
      refine R_iconst dX12_net_160 (?_ : RR _ _ _ _ 161 _ _ _ _)
      refine R_iload dX12_net_161 rfl (?_ : RR _ _ _ _ 163 _ _ _ _)
      refine R_imul dX12_net_163 (?_ : RR _ _ _ _ 164 _ _ _ _)
      refine R_iald dX12_net_164 (fun q164 => (?_ : RR _ _ _ _ 165 _ _ _ _))
      rw [v1] at q164 ⊢
      refine R_goto (t := 169) dX12_net_165 rfl (?_ : RR _ _ _ _ 169 _ _ _ _)
      refine R_iast dX12_net_169 (?_ : RR _ _ _ _ 170 _ _ _ _)
      refine R_aload_n dX12_net_170 rfl (?_ : RR _ _ _ _ 171 _ _ _ _)
      refine R_getr dX12_net_171 flX12_21 cok_12 rfl (by decide) (?_ : RR _ _ _ _ 174 _ _ _ _)
      refine R_iload dX12_net_174 rfl (?_ : RR _ _ _ _ 176 _ _ _ _)
      refine R_iload dX12_net_176 rfl (?_ : RR _ _ _ _ 178 _ _ _ _)
      refine R_iconst dX12_net_178 (?_ : RR _ _ _ _ 179 _ _ _ _)
      refine R_aload_n dX12_net_179 rfl (?_ : RR _ _ _ _ 180 _ _ _ _)
      refine R_geti (z := 3) dX12_net_180 flX12_13 cok_12 rfl (by decide) rfl (fun q180 => (?_ : RR _ _ _ _ 183 _ _ _ _))
      rw [rup_n (by omega), g3] at q180 ⊢
      refine R_imul dX12_net_183 (?_ : RR _ _ _ _ 184 _ _ _ _)
      refine R_icmp_ge (t := 201) dX12_net_184 rfl (fun c184 => ?_) (fun c184 => ?_)
      · exfalso; omega
      refine R_aload_n dX12_net_187 rfl (?_ : RR _ _ _ _ 188 _ _ _ _)
      refine R_getr dX12_net_188 flX12_42 cok_12 rfl (by decide) (?_ : RR _ _ _ _ 191 _ _ _ _)
      refine R_iconst dX12_net_191 (?_ : RR _ _ _ _ 192 _ _ _ _)
      refine R_iload dX12_net_192 rfl (?_ : RR _ _ _ _ 194 _ _ _ _)
      refine R_imul dX12_net_194 (?_ : RR _ _ _ _ 195 _ _ _ _)
      refine R_iconst dX12_net_195 (?_ : RR _ _ _ _ 196 _ _ _ _)
      refine R_iadd dX12_net_196 (?_ : RR _ _ _ _ 197 _ _ _ _)
      refine R_iald dX12_net_197 (fun q197 => (?_ : RR _ _ _ _ 198 _ _ _ _))
      rw [rup_n (by omega), v2] at q197 ⊢
      refine R_goto (t := 202) dX12_net_198 rfl (?_ : RR _ _ _ _ 202 _ _ _ _)
      refine R_iast dX12_net_202 (?_ : RR _ _ _ _ 203 _ _ _ _)
      rw [rup_n (by omega)]
      refine R_iinc dX12_net_203 rfl (Nat.le_of_ble_eq_true rfl) (?_ : RR _ _ _ _ 206 [_, _, _, _, _, _] _ _ _)
      refine R_goto (t := 132) dX12_net_206 rfl (?_ : RR _ _ _ _ 132 _ _ _ _)
      exact K
    · have K : RR mX12_net 3 0 0 132 [pR 147, pI n, pI H, pI 1, pI 0, pI ((i : Int) + 1)] [] (shp0, rf0, rup (rup h1 149 (fup (h1 149) i (-1))) 150 (fup (h1 150) i 0)) Q := IH _ (by omega) ⟨fun a a1 a2 => by rw [rup_n a2, rup_n a1]; exact hp.1 a a1 a2, fun e he => by
        rw [rup_s, rup_n (by omega), rup_s]
        by_cases z : e = i
        · rw [z, fup_s, fup_s, if_neg q, if_neg q]; exact ⟨rfl, rfl⟩
        · rw [fup_n (by omega), fup_n (by omega)]; exact hp.2 e (by omega)⟩
      clear IH hv
      refine R_iload dX12_net_132 rfl (?_ : RR _ _ _ _ 134 _ _ _ _)
      refine R_bipush dX12_net_134 rfl (?_ : RR _ _ _ _ 136 _ _ _ _)
      refine R_icmp_ge (t := 209) dX12_net_136 rfl (fun c136 => ?_) (fun c136 => ?_)
      · exfalso; omega
      refine R_aload_n dX12_net_139 rfl (?_ : RR _ _ _ _ 140 _ _ _ _)
      refine R_getr dX12_net_140 flX12_17 cok_12 rfl (by decide) (?_ : RR _ _ _ _ 143 _ _ _ _)
      refine R_iload dX12_net_143 rfl (?_ : RR _ _ _ _ 145 _ _ _ _)
      refine R_iload dX12_net_145 rfl (?_ : RR _ _ _ _ 147 _ _ _ _)
      refine R_iconst dX12_net_147 (?_ : RR _ _ _ _ 148 _ _ _ _)
      refine R_aload_n dX12_net_148 rfl (?_ : RR _ _ _ _ 149 _ _ _ _)
      refine R_geti (z := 3) dX12_net_149 flX12_13 cok_12 rfl (by decide) rfl (fun q149 => (?_ : RR _ _ _ _ 152 _ _ _ _))
      rw [g3] at q149 ⊢
      refine R_imul dX12_net_152 (?_ : RR _ _ _ _ 153 _ _ _ _)
      refine R_icmp_ge (t := 168) dX12_net_153 rfl (fun c153 => ?_) (fun c153 => ?_)
      rotate_left
      · exfalso; omega
      refine R_iconst dX12_net_168 (?_ : RR _ _ _ _ 169 _ _ _ _)
      refine R_iast dX12_net_169 (?_ : RR _ _ _ _ 170 _ _ _ _)
      refine R_aload_n dX12_net_170 rfl (?_ : RR _ _ _ _ 171 _ _ _ _)
      refine R_getr dX12_net_171 flX12_21 cok_12 rfl (by decide) (?_ : RR _ _ _ _ 174 _ _ _ _)
      refine R_iload dX12_net_174 rfl (?_ : RR _ _ _ _ 176 _ _ _ _)
      refine R_iload dX12_net_176 rfl (?_ : RR _ _ _ _ 178 _ _ _ _)
      refine R_iconst dX12_net_178 (?_ : RR _ _ _ _ 179 _ _ _ _)
      refine R_aload_n dX12_net_179 rfl (?_ : RR _ _ _ _ 180 _ _ _ _)
      refine R_geti (z := 3) dX12_net_180 flX12_13 cok_12 rfl (by decide) rfl (fun q180 => (?_ : RR _ _ _ _ 183 _ _ _ _))
      rw [rup_n (by omega), g3] at q180 ⊢
      refine R_imul dX12_net_183 (?_ : RR _ _ _ _ 184 _ _ _ _)
      refine R_icmp_ge (t := 201) dX12_net_184 rfl (fun c184 => ?_) (fun c184 => ?_)
      rotate_left
      · exfalso; omega
      refine R_iconst dX12_net_201 (?_ : RR _ _ _ _ 202 _ _ _ _)
      refine R_iast dX12_net_202 (?_ : RR _ _ _ _ 203 _ _ _ _)
      rw [rup_n (by omega)]
      refine R_iinc dX12_net_203 rfl (Nat.le_of_ble_eq_true rfl) (?_ : RR _ _ _ _ 206 [_, _, _, _, _, _] _ _ _)
      refine R_goto (t := 132) dX12_net_206 rfl (?_ : RR _ _ _ _ 132 _ _ _ _)
      exact K
theorem MNE_124 {Q : Option PV → PH → Prop} (hH9 : 1 ≤ H ∧ H ≤ 9) (f1 : mrF h h1) (hv : mnV σ H (2 * H) h1) (h6 : 0 ≤ h 147 6 ∧ h 147 6 ≤ 100000) (hF : farB (h 151)) (hQ : ∀ h2, mnN σ H h h2 → Q (some (pI H)) (shp0, rf0, h2)) : RR mX12_net 3 0 0 124 [pR 147, pI n, pI H, pI 1, pI 0, pU] [] (shp0, rf0, h1) Q := by
  have r154 := isRw_154
  obtain ⟨h5, h5e⟩ : ∃ h5, h5 = rup h1 147 (fup (h1 147) 3 H) := ⟨_, rfl⟩
  have K209 : ∀ h2, mnP σ H 18 h5 h2 → RR mX12_net 3 0 0 209 [pR 147, pI n, pI H, pI 1, pI 0, pI 18] [] (shp0, rf0, h2) Q := by
    intro h6' p6
    have g151 : h6' 151 = h 151 := by rw [p6.1 151 (by omega) (by omega), h5e, rup_n (by omega)]; exact f1.1 151 (by omega) (by omega)
    have g3 : h6' 147 3 = H := by rw [p6.1 147 (by omega) (by omega), h5e, rup_s, fup_s]
    have hv9 : ∀ e : Int, 0 ≤ e → e < 18 → (-1 ≤ h6' 149 e ∧ h6' 149 e ≤ 8) ∧ 0 ≤ h6' 150 e ∧ h6' 150 e ≤ 9 := fun e e0 e1 => by
      have := p6.2 e.toNat (by omega)
      rw [show ((e.toNat : Nat) : Int) = e by omega] at this
      rw [this.1, this.2]
      have nb := neQ_b (σ := σ) (e := e.toNat) hH9.2
      split <;> omega
    have hT := T_X12_laysWays (h := h6') g3 (fun e e0 e1 => (hv9 e e0 e1).1) (fun e e0 e1 => (hv9 e e0 e1).2) (by rw [g151]; exact fun z z0 z1 => by have := hF z z0 z1; omega) hH9.2
    obtain ⟨h7, h7e⟩ : ∃ h7, h7 = rup h6' 151 (lAll H (h6' 149) (h6' 150) (h6' 151)) := ⟨_, rfl⟩
    rw [← h7e] at hT
    have g6 : h7 147 6 = h 147 6 := by rw [h7e, rup_n (by omega), p6.1 147 (by omega) (by omega), h5e, rup_s, fup_n (by omega)]; exact f1.2.1 6 (by omega) (by omega) (by omega) (by omega) (by omega) (by omega)
    have fj : ∀ j : Int, j ≠ 0 → j ≠ 15 → j ≠ 16 → j ≠ 17 → j ≠ 18 → j ≠ 20 → j ≠ 3 → h7 147 j = h 147 j := fun j j1 j2 j3 j4 j5 j6 j7 => by rw [h7e, rup_n (by omega), p6.1 147 (by omega) (by omega), h5e, rup_s, fup_n j7]; exact f1.2.1 j j1 j2 j3 j4 j5 j6
    have g15 : h7 147 15 = 0 := by rw [h7e, rup_n (by omega), p6.1 147 (by omega) (by omega), h5e, rup_s, fup_n (by omega)]; exact f1.2.2
    have g3' : h7 147 3 = H := by rw [h7e, rup_n (by omega)]; exact g3
    have f154 : h7 154 = h 154 := by rw [h7e, rup_n (by omega), p6.1 154 (by omega) (by omega), h5e, rup_n (by omega)]; exact f1.1 154 (by omega) (by omega)
    obtain ⟨h8, h8e⟩ : ∃ h8, h8 = rup (rup h7 147 (fup (fup (fup (fup (fup (h7 147) 4 0) 5 0) 40 0) 28 0) 6 (h 147 6 + 1))) 154 (fup (fup (h7 154) 0 0) 1 0) := ⟨_, rfl⟩
    have hq := hQ h8 ⟨fun a q => by rw [h8e, rup_n (by omega), rup_n (by omega), h7e, rup_n (by omega), p6.1 a (by omega) (by omega), h5e, rup_n (by omega)]; exact f1.1 a (by omega) (by omega), fun j j1 j2 j3 j4 j5 j6 j7 j8 j9 j10 j11 j12 => by rw [h8e, rup_n (by omega), rup_s, fup_n j12, fup_n j10, fup_n j11, fup_n j9, fup_n j8]; exact fj j j1 j2 j3 j4 j5 j6 j7, by rw [h8e, rup_n (by omega), rup_s]; simp (disch := omega) only [fup_n]; exact g15, by rw [h8e, rup_n (by omega), rup_s]; simp (disch := omega) only [fup_n]; exact g3', by rw [h8e, rup_n (by omega), rup_s]; simp (disch := omega) only [fup_n, fup_s], by rw [h8e, rup_n (by omega), rup_s]; simp (disch := omega) only [fup_n, fup_s], by rw [h8e, rup_n (by omega), rup_s]; simp (disch := omega) only [fup_n, fup_s], by rw [h8e, rup_n (by omega), rup_s]; simp (disch := omega) only [fup_n, fup_s], by rw [h8e, rup_n (by omega), rup_s, fup_s], fun e he => by rw [h8e, rup_n (by omega), rup_n (by omega), rup_n (by omega), rup_n (by omega), h7e, rup_n (by omega), rup_n (by omega)]; exact p6.2 e he, by rw [h8e, rup_n (by omega), rup_n (by omega), rup_n (by omega), rup_n (by omega), rup_n (by omega), rup_n (by omega), h7e, rup_s, rup_n (by omega), rup_n (by omega), g151], by rw [h8e, rup_s, f154]⟩
    have g83 : h8 147 3 = H := by rw [h8e, rup_n (by omega), rup_s]; simp (disch := omega) only [fup_n]; exact g3'
    have K257 : RR mX12_net 3 0 0 257 [pR 147, pI n, pI H, pI 1, pI 0, pI 18] [] (shp0, rf0, h8) Q := by
      clear h8e hT fj hv9
      refine R_aload_n dX12_net_257 rfl (?_ : RR _ _ _ _ 258 _ _ _ _)
      refine R_geti (z := 3) dX12_net_258 flX12_13 cok_12 rfl (by decide) rfl (fun q258 => (?_ : RR _ _ _ _ 261 _ _ _ _))
      rw [g83] at q258 ⊢
      exact R_ireturn dX12_net_261 trivial hq
    clear hQ hq fj hv9 hv p6 f1
    rw [h8e] at K257
    refine R_aload_n dX12_net_209 rfl (?_ : RR _ _ _ _ 210 _ _ _ _)
    refine R_cVv0 dX12_net_210 mvX12_laysWays mlX12_202 (by decide) (by decide) (Nat.le_of_ble_eq_true rfl) (Nat.le_of_ble_eq_true rfl) (hT) (?_ : RR _ _ _ _ 213 _ _ _ _)
    try simp (disch := omega) only [rup_rup, rup_sort, rupS_def, rup_s, rup_n, fup_fup, fup_s, fup_n, g6]
    refine R_aload_n dX12_net_213 rfl (?_ : RR _ _ _ _ 214 _ _ _ _)
    refine R_iconst dX12_net_214 (?_ : RR _ _ _ _ 215 _ _ _ _)
    refine R_puti (zk := 4) dX12_net_215 flX12_124 cok_12 (by decide) (fun q hq => by cases hq; rfl) rfl (?_ : RR _ _ _ _ 218 _ _ _ _)
    try simp (disch := omega) only [rup_rup, rup_sort, rupS_def, rup_s, rup_n, fup_fup, fup_s, fup_n, g6]
    refine R_aload_n dX12_net_218 rfl (?_ : RR _ _ _ _ 219 _ _ _ _)
    refine R_iconst dX12_net_219 (?_ : RR _ _ _ _ 220 _ _ _ _)
    refine R_puti (zk := 5) dX12_net_220 flX12_127 cok_12 (by decide) (fun q hq => by cases hq; rfl) rfl (?_ : RR _ _ _ _ 223 _ _ _ _)
    try simp (disch := omega) only [rup_rup, rup_sort, rupS_def, rup_s, rup_n, fup_fup, fup_s, fup_n, g6]
    refine R_aload_n dX12_net_223 rfl (?_ : RR _ _ _ _ 224 _ _ _ _)
    refine R_getr dX12_net_224 flX12_33 cok_12 rfl (by decide) (?_ : RR _ _ _ _ 227 _ _ _ _)
    refine R_iconst dX12_net_227 (?_ : RR _ _ _ _ 228 _ _ _ _)
    refine R_iconst dX12_net_228 (?_ : RR _ _ _ _ 229 _ _ _ _)
    refine R_iast dX12_net_229 (?_ : RR _ _ _ _ 230 _ _ _ _)
    try simp (disch := omega) only [rup_rup, rup_sort, rupS_def, rup_s, rup_n, fup_fup, fup_s, fup_n, g6]
    refine R_aload_n dX12_net_230 rfl (?_ : RR _ _ _ _ 231 _ _ _ _)
    refine R_getr dX12_net_231 flX12_33 cok_12 rfl (by decide) (?_ : RR _ _ _ _ 234 _ _ _ _)
    refine R_iconst dX12_net_234 (?_ : RR _ _ _ _ 235 _ _ _ _)
    refine R_iconst dX12_net_235 (?_ : RR _ _ _ _ 236 _ _ _ _)
    refine R_iast dX12_net_236 (?_ : RR _ _ _ _ 237 _ _ _ _)
    try simp (disch := omega) only [rup_rup, rup_sort, rupS_def, rup_s, rup_n, fup_fup, fup_s, fup_n, g6]
    refine R_aload_n dX12_net_237 rfl (?_ : RR _ _ _ _ 238 _ _ _ _)
    refine R_iconst dX12_net_238 (?_ : RR _ _ _ _ 239 _ _ _ _)
    refine R_puti (zk := 40) dX12_net_239 flX12_205 cok_12 (by decide) (fun q hq => by cases hq; rfl) rfl (?_ : RR _ _ _ _ 242 _ _ _ _)
    try simp (disch := omega) only [rup_rup, rup_sort, rupS_def, rup_s, rup_n, fup_fup, fup_s, fup_n, g6]
    refine R_aload_n dX12_net_242 rfl (?_ : RR _ _ _ _ 243 _ _ _ _)
    refine R_iconst dX12_net_243 (?_ : RR _ _ _ _ 244 _ _ _ _)
    refine R_puti (zk := 28) dX12_net_244 flX12_208 cok_12 (by decide) (fun q hq => by cases hq; rfl) rfl (?_ : RR _ _ _ _ 247 _ _ _ _)
    try simp (disch := omega) only [rup_rup, rup_sort, rupS_def, rup_s, rup_n, fup_fup, fup_s, fup_n, g6]
    refine R_aload_n dX12_net_247 rfl (?_ : RR _ _ _ _ 248 _ _ _ _)
    refine R_dup dX12_net_248 (fun _ => rfl) (?_ : RR _ _ _ _ 249 _ _ _ _)
    refine R_geti (z := 6) dX12_net_249 flX12_211 cok_12 rfl (by decide) rfl (fun q249 => (?_ : RR _ _ _ _ 252 _ _ _ _))
    try simp (disch := omega) only [rup_rup, rup_sort, rupS_def, rup_s, rup_n, fup_fup, fup_s, fup_n, g6] at q249 ⊢
    refine R_iconst dX12_net_252 (?_ : RR _ _ _ _ 253 _ _ _ _)
    refine R_iadd dX12_net_253 (?_ : RR _ _ _ _ 254 _ _ _ _)
    refine R_puti (zk := 6) dX12_net_254 flX12_211 cok_12 (by decide) (fun q hq => by cases hq; rfl) rfl (?_ : RR _ _ _ _ 257 _ _ _ _)
    try simp (disch := omega) only [rup_rup, rup_sort, rupS_def, rup_s, rup_n, fup_fup, fup_s, fup_n, g6]
    exact K257
  have L := MNE_132 (σ := σ) (h := h5) (n := n) hH9 (fun e he => by rw [h5e, rup_n (by omega)]; exact hv e he) (by rw [h5e, rup_s, fup_s]) K209 18 0 h5 (by omega) ⟨fun _ _ _ => rfl, fun e he => by omega⟩
  have L : RR mX12_net 3 0 0 132 [pR 147, pI n, pI H, pI 1, pI 0, pI 0] [] (shp0, rf0, h5) Q := L
  clear K209 hQ
  refine R_aload_n dX12_net_124 rfl (?_ : RR _ _ _ _ 125 _ _ _ _)
  refine R_iload_n dX12_net_125 rfl (?_ : RR _ _ _ _ 126 _ _ _ _)
  refine R_puti (zk := 3) dX12_net_126 flX12_13 cok_12 (by decide) (fun q hq => by cases hq; rfl) rfl (?_ : RR _ _ _ _ 129 _ _ _ _)
  rw [← h5e]
  refine R_iconst dX12_net_129 (?_ : RR _ _ _ _ 130 _ _ _ _)
  refine R_istore dX12_net_130 (Nat.le_of_ble_eq_true rfl) (?_ : RR _ _ _ _ 132 [_, _, _, _, _, _] _ _ _)
  exact L
end NEA
