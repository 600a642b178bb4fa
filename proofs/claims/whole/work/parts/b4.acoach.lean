section AC2
variable {k : Nat} {h h1 h2 h3 h4 hb : Nat → Int → Int} {sem : Sem} {H np nc len n : Nat} {f s : Int → Int}
def mcP (hb : Nat → Int → Int) (s f : Int → Int) (nc len i : Nat) (h1 : Nat → Int → Int) : Prop := (∀ a, a ≠ 147 → a ≠ 154 → h1 a = hb a) ∧ (∀ j : Int, j ≠ 4 → h1 147 j = hb 147 j) ∧ h1 154 = (coF s f nc len i).1 ∧ h1 147 4 = ((nc + i : Nat) : Int)
theorem coF_e {s f : Int → Int} : ∀ i : Nat, (coF s f nc len i).1 0 = f 0
  | 0 => rfl
  | i + 1 => by
    show coA (coF s f nc len i).1 (nc + i) (coF s f nc len i).2 (coZ s i) 0 = _
    rw [coA_n (by omega) (by omega)]
    exact coF_e i
theorem MCO_141 {Q : Option PV → PH → Prop} (hn6 : nc + n ≤ 6) (hm : coM s n n hb) (hs2 : ∀ i : Nat, i < n → s i = 43 ∨ (97 ≤ s i ∧ s i < 106)) (hf0 : 0 ≤ f 0 ∧ f 0 < 9) (hl : sm (fun c => if 0 ≤ mP f c then 1 else 0) nc = len) (hlen : len ≤ nc) (hk : 0 ≤ hb 147 6 ∧ hb 147 6 ≤ 100000) (hQ : ∀ h2, mcP hb s f nc len n h2 → Q (some (pI n)) (shp0, rf0, if 0 < n then rup h2 147 (fup (fup (h2 147) 28 0) 6 (h2 147 6 + 1)) else h2)) : ∀ (j i : Nat) (h1 : Nat → Int → Int) (w3 w4 : PV), i + j = n → mcP hb s f nc len i h1 → RR mX12_coaches 2 0 0 141 [pR 147, pI 1, pI i, w3, w4] [] (shp0, rf0, h1) Q := by
  have r154 := isRw_154
  intro j
  induction j with
  | zero =>
    intro i h1 w3 w4 hi hp
    obtain rfl : i = n := by omega
    have g20 : h1 147 20 = i := by rw [hp.2.1 20 (by omega)]; exact hm.2.2.1
    have hq := hQ h1 hp
    have hT := T_X12_came (k := 0) g20 (by omega) (by rw [hp.2.1 6 (by omega)]; exact hk)
    generalize (if 0 < i then rup h1 147 (fup (fup (h1 147) 28 0) 6 (h1 147 6 + 1)) else h1) = h9 at hq hT
    refine R_iload_n dX12_coaches_141 rfl (?_ : RR _ _ _ _ 142 _ _ _ _)
    refine R_aload_n dX12_coaches_142 rfl (?_ : RR _ _ _ _ 143 _ _ _ _)
    refine R_geti (z := 20) dX12_coaches_143 flX12_214 cok_12 rfl (by decide) rfl (fun q143 => (?_ : RR _ _ _ _ 146 _ _ _ _))
    rw [g20] at q143 ⊢
    refine R_icmp_ge (t := 251) dX12_coaches_146 rfl (fun c146 => ?_) (fun c146 => ?_)
    rotate_left
    · exfalso; omega
    refine R_aload_n dX12_coaches_251 rfl (?_ : RR _ _ _ _ 252 _ _ _ _)
    refine R_cVi0 dX12_coaches_252 mvX12_came mlX12_221 (by decide) (by decide) (Nat.le_of_ble_eq_true rfl) (Nat.le_of_ble_eq_true rfl) (hT) (?_ : RR _ _ _ _ 255 _ _ _ _)
    exact R_ireturn dX12_coaches_255 trivial hq
  | succ j ih =>
    intro i h1 w3 w4 hi hp
    have g20 : h1 147 20 = n := by rw [hp.2.1 20 (by omega)]; exact hm.2.2.1
    have g157 : h1 157 i = coR s i := by rw [hp.1 157 (by omega) (by omega)]; exact hm.2.2.2 i (by omega)
    obtain ⟨p1, p2, p3, p4⟩ := id hp
    have hc0 : h1 154 0 = f 0 := by
      rw [p3]
      exact coF_e i
    have hsm := coF_sm (s := s) (f := f) (nc := nc) (len := len) hl i
    have hlb : (coF s f nc len i).2 ≤ len + i := coF_len i
    have hTL := T_X12_trainLong (h := h1) (r := 154) (nc := nc + i) p4
    rw [p3, hsm] at hTL
    have hsi := hs2 i (by omega)
    have IH := fun h5 w3 w4 => ih (i + 1) h5 w3 w4 (by omega)
    unfold mcP at IH
    rw [show (coF s f nc len (i + 1)).1 = coA (coF s f nc len i).1 (nc + i) (coF s f nc len i).2 (coZ s i) from rfl] at IH
    generalize coF s f nc len i = cf at p3 hTL hlb IH hsm
    by_cases y : s i = 43
    · have e9 : coR s i = 9 := if_pos y
      have ez : coZ s i = -1 := if_pos y
      rw [e9] at g157
      refine R_iload_n dX12_coaches_141 rfl (?_ : RR _ _ _ _ 142 _ _ _ _)
      refine R_aload_n dX12_coaches_142 rfl (?_ : RR _ _ _ _ 143 _ _ _ _)
      refine R_geti (z := 20) dX12_coaches_143 flX12_214 cok_12 rfl (by decide) rfl (fun q143 => (?_ : RR _ _ _ _ 146 _ _ _ _))
      rw [g20] at q143 ⊢
      refine R_icmp_ge (t := 251) dX12_coaches_146 rfl (fun c146 => ?_) (fun c146 => ?_)
      · exfalso; omega
      refine R_aload_n dX12_coaches_149 rfl (?_ : RR _ _ _ _ 150 _ _ _ _)
      refine R_getr dX12_coaches_150 flX12_42 cok_12 rfl (by decide) (?_ : RR _ _ _ _ 153 _ _ _ _)
      refine R_iload_n dX12_coaches_153 rfl (?_ : RR _ _ _ _ 154 _ _ _ _)
      refine R_iald dX12_coaches_154 (fun q154 => (?_ : RR _ _ _ _ 155 _ _ _ _))
      rw [g157] at q154 ⊢
      refine R_bipush dX12_coaches_155 rfl (?_ : RR _ _ _ _ 157 _ _ _ _)
      refine R_icmp_ne (t := 164) dX12_coaches_157 rfl (fun c157 => ?_) (fun c157 => ?_)
      · exfalso; omega
      refine R_iconst dX12_coaches_160 (?_ : RR _ _ _ _ 161 _ _ _ _)
      refine R_goto (t := 165) dX12_coaches_161 rfl (?_ : RR _ _ _ _ 165 _ _ _ _)
      refine R_istore_n dX12_coaches_165 (Nat.le_of_ble_eq_true rfl) (?_ : RR _ _ _ _ 166 [_, _, _, _, _] _ _ _)
      refine R_aload_n dX12_coaches_166 rfl (?_ : RR _ _ _ _ 167 _ _ _ _)
      refine R_aload_n dX12_coaches_167 rfl (?_ : RR _ _ _ _ 168 _ _ _ _)
      refine R_getr dX12_coaches_168 flX12_33 cok_12 rfl (by decide) (?_ : RR _ _ _ _ 171 _ _ _ _)
      refine R_cVi1 dX12_coaches_171 mvX12_trainLong mlX12_217 (by decide) (by decide) (Nat.le_of_ble_eq_true rfl) (Nat.le_of_ble_eq_true rfl) (hTL) (?_ : RR _ _ _ _ 174 _ _ _ _)
      refine R_istore dX12_coaches_174 (Nat.le_of_ble_eq_true rfl) (?_ : RR _ _ _ _ 176 [_, _, _, _, _] _ _ _)
      refine R_aload_n dX12_coaches_176 rfl (?_ : RR _ _ _ _ 177 _ _ _ _)
      refine R_getr dX12_coaches_177 flX12_33 cok_12 rfl (by decide) (?_ : RR _ _ _ _ 180 _ _ _ _)
      refine R_iconst dX12_coaches_180 (?_ : RR _ _ _ _ 181 _ _ _ _)
      refine R_iconst dX12_coaches_181 (?_ : RR _ _ _ _ 182 _ _ _ _)
      refine R_aload_n dX12_coaches_182 rfl (?_ : RR _ _ _ _ 183 _ _ _ _)
      refine R_geti (z := 4) dX12_coaches_183 flX12_124 cok_12 rfl (by decide) rfl (fun q183 => (?_ : RR _ _ _ _ 186 _ _ _ _))
      rw [p4] at q183 ⊢
      refine R_imul dX12_coaches_186 (?_ : RR _ _ _ _ 187 _ _ _ _)
      refine R_iadd dX12_coaches_187 (?_ : RR _ _ _ _ 188 _ _ _ _)
      refine R_iconst dX12_coaches_188 (?_ : RR _ _ _ _ 189 _ _ _ _)
      refine R_iadd dX12_coaches_189 (?_ : RR _ _ _ _ 190 _ _ _ _)
      refine R_iload_n dX12_coaches_190 rfl (?_ : RR _ _ _ _ 191 _ _ _ _)
      refine R_if_eq (t := 203) dX12_coaches_191 rfl (fun c191 => ?_) (fun c191 => ?_)
      · exfalso; omega
      refine R_aload_n dX12_coaches_194 rfl (?_ : RR _ _ _ _ 195 _ _ _ _)
      refine R_getr dX12_coaches_195 flX12_33 cok_12 rfl (by decide) (?_ : RR _ _ _ _ 198 _ _ _ _)
      refine R_iconst dX12_coaches_198 (?_ : RR _ _ _ _ 199 _ _ _ _)
      refine R_iald dX12_coaches_199 (fun q199 => (?_ : RR _ _ _ _ 200 _ _ _ _))
      rw [hc0] at q199 ⊢
      refine R_goto (t := 209) dX12_coaches_200 rfl (?_ : RR _ _ _ _ 209 _ _ _ _)
      refine R_iast dX12_coaches_209 (?_ : RR _ _ _ _ 210 _ _ _ _)
      refine R_aload_n dX12_coaches_210 rfl (?_ : RR _ _ _ _ 211 _ _ _ _)
      refine R_getr dX12_coaches_211 flX12_33 cok_12 rfl (by decide) (?_ : RR _ _ _ _ 214 _ _ _ _)
      refine R_iconst dX12_coaches_214 (?_ : RR _ _ _ _ 215 _ _ _ _)
      refine R_iconst dX12_coaches_215 (?_ : RR _ _ _ _ 216 _ _ _ _)
      refine R_aload_n dX12_coaches_216 rfl (?_ : RR _ _ _ _ 217 _ _ _ _)
      refine R_geti (z := 4) dX12_coaches_217 flX12_124 cok_12 rfl (by decide) rfl (fun q217 => (?_ : RR _ _ _ _ 220 _ _ _ _))
      simp (disch := omega) only [rup_n, p4] at q217 ⊢
      refine R_imul dX12_coaches_220 (?_ : RR _ _ _ _ 221 _ _ _ _)
      refine R_iadd dX12_coaches_221 (?_ : RR _ _ _ _ 222 _ _ _ _)
      refine R_iconst dX12_coaches_222 (?_ : RR _ _ _ _ 223 _ _ _ _)
      refine R_iadd dX12_coaches_223 (?_ : RR _ _ _ _ 224 _ _ _ _)
      refine R_iload_n dX12_coaches_224 rfl (?_ : RR _ _ _ _ 225 _ _ _ _)
      refine R_if_eq (t := 233) dX12_coaches_225 rfl (fun c225 => ?_) (fun c225 => ?_)
      · exfalso; omega
      refine R_iload dX12_coaches_228 rfl (?_ : RR _ _ _ _ 230 _ _ _ _)
      refine R_goto (t := 234) dX12_coaches_230 rfl (?_ : RR _ _ _ _ 234 _ _ _ _)
      refine R_iast dX12_coaches_234 (?_ : RR _ _ _ _ 235 _ _ _ _)
      refine R_aload_n dX12_coaches_235 rfl (?_ : RR _ _ _ _ 236 _ _ _ _)
      refine R_dup dX12_coaches_236 (fun _ => rfl) (?_ : RR _ _ _ _ 237 _ _ _ _)
      refine R_geti (z := 4) dX12_coaches_237 flX12_124 cok_12 rfl (by decide) rfl (fun q237 => (?_ : RR _ _ _ _ 240 _ _ _ _))
      simp (disch := omega) only [rup_n, p4] at q237 ⊢
      refine R_iconst dX12_coaches_240 (?_ : RR _ _ _ _ 241 _ _ _ _)
      refine R_iadd dX12_coaches_241 (?_ : RR _ _ _ _ 242 _ _ _ _)
      refine R_puti (zk := 4) dX12_coaches_242 flX12_124 cok_12 (by decide) (fun q hq => by cases hq; rfl) rfl (?_ : RR _ _ _ _ 245 _ _ _ _)
      refine R_iinc dX12_coaches_245 rfl (Nat.le_of_ble_eq_true rfl) (?_ : RR _ _ _ _ 248 [_, _, _, _, _] _ _ _)
      refine R_goto (t := 141) dX12_coaches_248 rfl (?_ : RR _ _ _ _ 141 _ _ _ _)
      skip
      refine IH _ _ _ ⟨fun a a1 a2 => ?_, fun j j1 => ?_, ?_, ?_⟩
      · simp (disch := omega) only [rup_n]; exact p1 a a1 a2
      · simp (disch := omega) only [rup_n, rup_s, fup_n]; exact p2 j j1
      · simp (disch := omega) only [rup_n, rup_s]
        rw [p3, ez]
        unfold coA
        rw [if_pos rfl, if_pos rfl, ← hc0, p3, Int.add_zero]
      · simp (disch := omega) only [rup_s, fup_s]
        omega
    · have e9 : coR s i = s i - 97 := if_neg y
      have ez : coZ s i = s i - 97 := if_neg y
      rw [e9] at g157
      refine R_iload_n dX12_coaches_141 rfl (?_ : RR _ _ _ _ 142 _ _ _ _)
      refine R_aload_n dX12_coaches_142 rfl (?_ : RR _ _ _ _ 143 _ _ _ _)
      refine R_geti (z := 20) dX12_coaches_143 flX12_214 cok_12 rfl (by decide) rfl (fun q143 => (?_ : RR _ _ _ _ 146 _ _ _ _))
      rw [g20] at q143 ⊢
      refine R_icmp_ge (t := 251) dX12_coaches_146 rfl (fun c146 => ?_) (fun c146 => ?_)
      · exfalso; omega
      refine R_aload_n dX12_coaches_149 rfl (?_ : RR _ _ _ _ 150 _ _ _ _)
      refine R_getr dX12_coaches_150 flX12_42 cok_12 rfl (by decide) (?_ : RR _ _ _ _ 153 _ _ _ _)
      refine R_iload_n dX12_coaches_153 rfl (?_ : RR _ _ _ _ 154 _ _ _ _)
      refine R_iald dX12_coaches_154 (fun q154 => (?_ : RR _ _ _ _ 155 _ _ _ _))
      rw [g157] at q154 ⊢
      refine R_bipush dX12_coaches_155 rfl (?_ : RR _ _ _ _ 157 _ _ _ _)
      refine R_icmp_ne (t := 164) dX12_coaches_157 rfl (fun c157 => ?_) (fun c157 => ?_)
      rotate_left
      · exfalso; omega
      refine R_iconst dX12_coaches_164 (?_ : RR _ _ _ _ 165 _ _ _ _)
      refine R_istore_n dX12_coaches_165 (Nat.le_of_ble_eq_true rfl) (?_ : RR _ _ _ _ 166 [_, _, _, _, _] _ _ _)
      refine R_aload_n dX12_coaches_166 rfl (?_ : RR _ _ _ _ 167 _ _ _ _)
      refine R_aload_n dX12_coaches_167 rfl (?_ : RR _ _ _ _ 168 _ _ _ _)
      refine R_getr dX12_coaches_168 flX12_33 cok_12 rfl (by decide) (?_ : RR _ _ _ _ 171 _ _ _ _)
      refine R_cVi1 dX12_coaches_171 mvX12_trainLong mlX12_217 (by decide) (by decide) (Nat.le_of_ble_eq_true rfl) (Nat.le_of_ble_eq_true rfl) (hTL) (?_ : RR _ _ _ _ 174 _ _ _ _)
      refine R_istore dX12_coaches_174 (Nat.le_of_ble_eq_true rfl) (?_ : RR _ _ _ _ 176 [_, _, _, _, _] _ _ _)
      refine R_aload_n dX12_coaches_176 rfl (?_ : RR _ _ _ _ 177 _ _ _ _)
      refine R_getr dX12_coaches_177 flX12_33 cok_12 rfl (by decide) (?_ : RR _ _ _ _ 180 _ _ _ _)
      refine R_iconst dX12_coaches_180 (?_ : RR _ _ _ _ 181 _ _ _ _)
      refine R_iconst dX12_coaches_181 (?_ : RR _ _ _ _ 182 _ _ _ _)
      refine R_aload_n dX12_coaches_182 rfl (?_ : RR _ _ _ _ 183 _ _ _ _)
      refine R_geti (z := 4) dX12_coaches_183 flX12_124 cok_12 rfl (by decide) rfl (fun q183 => (?_ : RR _ _ _ _ 186 _ _ _ _))
      rw [p4] at q183 ⊢
      refine R_imul dX12_coaches_186 (?_ : RR _ _ _ _ 187 _ _ _ _)
      refine R_iadd dX12_coaches_187 (?_ : RR _ _ _ _ 188 _ _ _ _)
      refine R_iconst dX12_coaches_188 (?_ : RR _ _ _ _ 189 _ _ _ _)
      refine R_iadd dX12_coaches_189 (?_ : RR _ _ _ _ 190 _ _ _ _)
      refine R_iload_n dX12_coaches_190 rfl (?_ : RR _ _ _ _ 191 _ _ _ _)
      refine R_if_eq (t := 203) dX12_coaches_191 rfl (fun c191 => ?_) (fun c191 => ?_)
      rotate_left
      · exfalso; omega
      refine R_aload_n dX12_coaches_203 rfl (?_ : RR _ _ _ _ 204 _ _ _ _)
      refine R_getr dX12_coaches_204 flX12_42 cok_12 rfl (by decide) (?_ : RR _ _ _ _ 207 _ _ _ _)
      refine R_iload_n dX12_coaches_207 rfl (?_ : RR _ _ _ _ 208 _ _ _ _)
      refine R_iald dX12_coaches_208 (fun q208 => (?_ : RR _ _ _ _ 209 _ _ _ _))
      rw [g157] at q208 ⊢
      refine R_iast dX12_coaches_209 (?_ : RR _ _ _ _ 210 _ _ _ _)
      refine R_aload_n dX12_coaches_210 rfl (?_ : RR _ _ _ _ 211 _ _ _ _)
      refine R_getr dX12_coaches_211 flX12_33 cok_12 rfl (by decide) (?_ : RR _ _ _ _ 214 _ _ _ _)
      refine R_iconst dX12_coaches_214 (?_ : RR _ _ _ _ 215 _ _ _ _)
      refine R_iconst dX12_coaches_215 (?_ : RR _ _ _ _ 216 _ _ _ _)
      refine R_aload_n dX12_coaches_216 rfl (?_ : RR _ _ _ _ 217 _ _ _ _)
      refine R_geti (z := 4) dX12_coaches_217 flX12_124 cok_12 rfl (by decide) rfl (fun q217 => (?_ : RR _ _ _ _ 220 _ _ _ _))
      simp (disch := omega) only [rup_n, p4] at q217 ⊢
      refine R_imul dX12_coaches_220 (?_ : RR _ _ _ _ 221 _ _ _ _)
      refine R_iadd dX12_coaches_221 (?_ : RR _ _ _ _ 222 _ _ _ _)
      refine R_iconst dX12_coaches_222 (?_ : RR _ _ _ _ 223 _ _ _ _)
      refine R_iadd dX12_coaches_223 (?_ : RR _ _ _ _ 224 _ _ _ _)
      refine R_iload_n dX12_coaches_224 rfl (?_ : RR _ _ _ _ 225 _ _ _ _)
      refine R_if_eq (t := 233) dX12_coaches_225 rfl (fun c225 => ?_) (fun c225 => ?_)
      rotate_left
      · exfalso; omega
      refine R_iconst dX12_coaches_233 (?_ : RR _ _ _ _ 234 _ _ _ _)
      refine R_iast dX12_coaches_234 (?_ : RR _ _ _ _ 235 _ _ _ _)
      refine R_aload_n dX12_coaches_235 rfl (?_ : RR _ _ _ _ 236 _ _ _ _)
      refine R_dup dX12_coaches_236 (fun _ => rfl) (?_ : RR _ _ _ _ 237 _ _ _ _)
      refine R_geti (z := 4) dX12_coaches_237 flX12_124 cok_12 rfl (by decide) rfl (fun q237 => (?_ : RR _ _ _ _ 240 _ _ _ _))
      simp (disch := omega) only [rup_n, p4] at q237 ⊢
      refine R_iconst dX12_coaches_240 (?_ : RR _ _ _ _ 241 _ _ _ _)
      refine R_iadd dX12_coaches_241 (?_ : RR _ _ _ _ 242 _ _ _ _)
      refine R_puti (zk := 4) dX12_coaches_242 flX12_124 cok_12 (by decide) (fun q hq => by cases hq; rfl) rfl (?_ : RR _ _ _ _ 245 _ _ _ _)
      refine R_iinc dX12_coaches_245 rfl (Nat.le_of_ble_eq_true rfl) (?_ : RR _ _ _ _ 248 [_, _, _, _, _] _ _ _)
      refine R_goto (t := 141) dX12_coaches_248 rfl (?_ : RR _ _ _ _ 141 _ _ _ _)
      skip
      refine IH _ _ _ ⟨fun a a1 a2 => ?_, fun j j1 => ?_, ?_, ?_⟩
      · simp (disch := omega) only [rup_n]; exact p1 a a1 a2
      · simp (disch := omega) only [rup_n, rup_s, fup_n]; exact p2 j j1
      · simp (disch := omega) only [rup_n, rup_s]
        rw [p3, ez]
        unfold coA
        rw [if_neg (by omega), if_neg (by omega), Int.add_zero]
      · simp (disch := omega) only [rup_s, fup_s]
        omega
theorem M_coaches {Q : Option PV → PH → Prop} (hH : h3 147 3 = H) (hH9 : 1 ≤ H ∧ H ≤ 9) (hnc : h3 147 4 = nc) (h6 : nc ≤ 6) (hn : h3 147 15 = n) (hn80 : n ≤ 80) (hs2 : ∀ i : Nat, i < n → h3 156 i = s i ∧ 0 ≤ s i ∧ s i ≤ 255) (hf : h3 154 = f) (hf0 : 0 ≤ f 0 ∧ f 0 < 9) (hl : sm (fun c => if 0 ≤ mP f c then 1 else 0) nc = len) (hlen : len ≤ nc) (hk : 0 ≤ h3 147 6 ∧ h3 147 6 ≤ 100000)
    (hno : ∀ (i : Nat) (h1 : Nat → Int → Int), i < n → ¬ coG s H nc i → (∀ j, j < i → coG s H nc j) → mrF h3 h1 → Q (some (pI (-1 - (i : Int)))) (shp0, rf0, h1))
    (hye : ∀ hb h2 : Nat → Int → Int, (∀ j, j < n → coG s H nc j) → mrF h3 hb → mcP hb s f nc len n h2 → Q (some (pI n)) (shp0, rf0, if 0 < n then rup h2 147 (fup (fup (h2 147) 28 0) 6 (h2 147 6 + 1)) else h2)) : RR mX12_coaches 2 0 0 0 (pm_ent [pR 147] 5) [] (shp0, rf0, h3) Q := by
  show RR _ _ _ _ _ [pR 147, pU, pU, pU, pU] _ _ _
  have K139 : ∀ (h1 : Nat → Int → Int), (∀ j, j < n → coG s H nc j) → mrF h3 h1 → coM s n n h1 → RR mX12_coaches 2 0 0 139 [pR 147, pI 1, pU, pU, pU] [] (shp0, rf0, h1) Q := by
    intro h1 hg hfr hm
    have hn6 : nc + n ≤ 6 := by
      by_cases z : n = 0
      · omega
      · have := (hg (n - 1) (by omega)).2; omega
    have K := MCO_141 (hb := h1) (f := f) (Q := Q) hn6 hm (fun i hi => by have := (hg i hi).1; omega) hf0 hl hlen (by rw [hfr.2.1 6 (by omega) (by omega) (by omega) (by omega) (by omega) (by omega)]; exact hk) (fun h2 hp => hye h1 h2 hg hfr hp) n 0 h1 pU pU (by omega) ⟨fun _ _ _ => rfl, fun _ _ => rfl, by rw [hfr.1 154 (by omega) (by omega)]; exact hf, by rw [hfr.2.1 4 (by omega) (by omega) (by omega) (by omega) (by omega) (by omega)]; exact hnc⟩
    refine R_iconst dX12_coaches_139 (?_ : RR _ _ _ _ 140 _ _ _ _)
    refine R_istore_n dX12_coaches_140 (Nat.le_of_ble_eq_true rfl) (?_ : RR _ _ _ _ 141 [_, _, _, _, _] _ _ _)
    exact K
  obtain ⟨h4, h4e⟩ : ∃ h4, h4 = rup h3 147 (fup (fup (fup (fup (fup (fup (h3 147) 0 0) 15 0) 16 0) 18 0) 17 n) 20 0) := ⟨_, rfl⟩
  have L := MCO_19 (h := h3) (s := s) (Q := Q) hH hH9 hnc h6 hn80 hs2 hno K139 n 0 h4 (by omega) (fun j hj => by omega) ⟨fun a a1 a2 => by rw [h4e, rup_n a1], fun j j1 j2 j3 j4 j5 j6 => by rw [h4e, rup_s]; simp (disch := omega) only [fup_n], by rw [h4e, rup_s]; simp (disch := omega) only [fup_n, fup_s]⟩ ⟨by rw [h4e, rup_s]; simp (disch := omega) only [fup_n, fup_s]; rfl, by rw [h4e, rup_s]; simp (disch := omega) only [fup_n, fup_s], by rw [h4e, rup_s]; simp (disch := omega) only [fup_n, fup_s]; rfl, fun i' hi' => by omega⟩
  have hbg := T_X12_begins (h := rup h3 147 (fup (h3 147) 0 0)) (m := 80) (n := n) (by rw [rup_s, fup_n (by omega)]; exact hn) hn80 (by omega)
  rw [show min (n : Int) 80 = n by omega] at hbg
  refine R_aload_n dX12_coaches_0 rfl (?_ : RR _ _ _ _ 1 _ _ _ _)
  refine R_iconst dX12_coaches_1 (?_ : RR _ _ _ _ 2 _ _ _ _)
  refine R_puti (zk := 0) dX12_coaches_2 flX12_106 cok_12 (by decide) (fun q hq => by cases hq; rfl) rfl (?_ : RR _ _ _ _ 5 _ _ _ _)
  refine R_aload_n dX12_coaches_5 rfl (?_ : RR _ _ _ _ 6 _ _ _ _)
  refine R_bipush dX12_coaches_6 rfl (?_ : RR _ _ _ _ 8 _ _ _ _)
  refine R_cVi1 dX12_coaches_8 mvX12_begins mlX12_190 (by decide) (by decide) (Nat.le_of_ble_eq_true rfl) (Nat.le_of_ble_eq_true rfl) (hbg) (?_ : RR _ _ _ _ 11 _ _ _ _)
  refine R_pop dX12_coaches_11 (fun _ => rfl) (?_ : RR _ _ _ _ 12 _ _ _ _)
  refine R_aload_n dX12_coaches_12 rfl (?_ : RR _ _ _ _ 13 _ _ _ _)
  refine R_iconst dX12_coaches_13 (?_ : RR _ _ _ _ 14 _ _ _ _)
  refine R_puti (zk := 20) dX12_coaches_14 flX12_214 cok_12 (by decide) (fun q hq => by cases hq; rfl) rfl (?_ : RR _ _ _ _ 17 _ _ _ _)
  simp (disch := omega) only [rup_rup, rup_s]
  rw [← h4e]
  refine R_iconst dX12_coaches_17 (?_ : RR _ _ _ _ 18 _ _ _ _)
  refine R_istore_n dX12_coaches_18 (Nat.le_of_ble_eq_true rfl) (?_ : RR _ _ _ _ 19 [_, _, _, _, _] _ _ _)
  exact L
/-- the text alone has changed -/
theorem SR_text {g : Nat → Int → Int} (hs : SRx k h sem H np nc len) (e1 : g 1 1 = 0) (f1 : ∀ a, a ≠ 1 → a ≠ 147 → a ≠ 157 → g a = h a) (f2 : ∀ j : Int, j ≠ 0 → j ≠ 15 → j ≠ 16 → j ≠ 17 → j ≠ 18 → j ≠ 20 → g 147 j = h 147 j) (f3 : g 147 15 = 0) : SR (k + 1) g :=
  SR_t hs ⟨fun a q1 q2 => f1 a (fun z => q2 (by omega)) (fun z => q1 (by omega)) (fun z => q1 (by omega)), fun j q1 q2 => f2 j (by omega) (by omega) (by omega) (by omega) (by omega) (by omega), fun q => by rw [f2 30 (by omega) (by omega) (by omega) (by omega) (by omega) (by omega)]; exact q, fun j q => by rw [f1 155 (by omega) (by omega) (by omega)]⟩ ⟨0, e1, f3, by omega, fun i hi => by omega⟩ (SD_same hs.2.2.1 (by rw [f1 145 (by omega) (by omega) (by omega)]) (f2 1 (by omega) (by omega) (by omega) (by omega) (by omega) (by omega)) (f1 146 (by omega) (by omega) (by omega)) (f1 148 (by omega) (by omega) (by omega)))
theorem SR_coach {g : Nat → Int → Int} (hs : SRx k h sem H np nc len) (hn1 : 1 ≤ n) (hn6 : ∀ i : Nat, i < n → nc + i < 6) (c1 : ∀ a, ¬ (a = 1 ∨ (14 ≤ a ∧ a ≤ 18) ∨ a = 44 ∨ a = 47) → h3 a = h a) (c2 : h3 1 1 = 0) (c3 : Cpl (cxM sem h np (nc + n)) H h3 14 (coF s (h 154) nc len n).1 (coF s (h 154) nc len n).2) (c4 : h3 44 3 = 0) (c5 : h3 44 4 = h 44 4) (c6 : ∀ i : Nat, i < 3 → h3 47 i = 0) (f1 : mrF h3 hb) (f2 : mcP hb s (h 154) nc len n h2) (hg : g = rup h2 147 (fup (fup (h2 147) 28 0) 6 (h2 147 6 + 1))) : SR (k + 1) g := by
  have hnn : nc + n ≤ 6 := by have := hn6 (n - 1) (by omega); omega
  have fr : ∀ a, a ≠ 147 → a ≠ 154 → a ≠ 157 → g a = h3 a := fun a a1 a2 a3 => by rw [hg, rup_n a1, f2.1 a a1 a2, f1.1 a a1 a3]
  have fr2 : ∀ a, a ≠ 147 → a ≠ 154 → a ≠ 157 → ¬ (a = 1 ∨ (14 ≤ a ∧ a ≤ 18) ∨ a = 44 ∨ a = 47) → g a = h a := fun a a1 a2 a3 a4 => by rw [fr a a1 a2 a3]; exact c1 a a4
  have fj : ∀ j : Int, j ≠ 0 → j ≠ 15 → j ≠ 16 → j ≠ 17 → j ≠ 18 → j ≠ 20 → j ≠ 4 → j ≠ 28 → j ≠ 6 → g 147 j = h 147 j := fun j j1 j2 j3 j4 j5 j6 j7 j8 j9 => by rw [hg, rup_s, fup_n j9, fup_n j8, f2.2.1 j j7, f1.2.1 j j1 j2 j3 j4 j5 j6, c1 147 (by omega)]
  have g4 : g 147 4 = ((nc + n : Nat) : Int) := by rw [hg, rup_s, fup_n (by omega), fup_n (by omega)]; exact f2.2.2.2
  have g154 : g 154 = (coF s (h 154) nc len n).1 := by rw [hg, rup_n (by omega)]; exact f2.2.2.1
  have g28 : g 147 28 = 0 := by rw [hg, rup_s, fup_n (by omega), fup_s]
  have g6 : g 147 6 = h 147 6 + 1 := by rw [hg, rup_s, fup_s, f2.2.1 6 (by omega), f1.2.1 6 (by omega) (by omega) (by omega) (by omega) (by omega) (by omega), c1 147 (by omega)]
  have g15 : g 147 15 = 0 := by rw [hg, rup_s, fup_n (by omega), fup_n (by omega), f2.2.1 15 (by omega)]; exact f1.2.2
  have eX : cxM sem g np (nc + n) = cxM sem h np (nc + n) := cxM_fr (fun a a1 a2 => fr2 a (by omega) (by omega) (by omega) (by omega))
  obtain ⟨⟨b1, b2, b3, b4, b5, b6, b7, b8, b9, b10, b11⟩, ha, hd, hu, hss, hsp⟩ := id hs
  refine ⟨sem, H, np, nc + n, (coF s (h 154) nc len n).2, ⟨?_, g4, ?_, ?_, ?_, ?_, ?_, ?_, ?_, ?_, fun _ => by omega⟩, ⟨0, ?_, g15, by omega, fun i hi => by omega⟩, ?_, SU_mk ?_ ?_ ?_ ?_ ?_, ?_, ?_⟩
  · rw [fj 3 (by omega) (by omega) (by omega) (by omega) (by omega) (by omega) (by omega) (by omega) (by omega)]; exact b1
  · rw [fj 5 (by omega) (by omega) (by omega) (by omega) (by omega) (by omega) (by omega) (by omega) (by omega)]; exact b3
  · rw [fr2 3 (by omega) (by omega) (by omega) (by omega)]; exact b4
  · rw [eX]
    obtain ⟨o1, o2, o3, o4, o5, o6, o7, o8, o9⟩ := b5
    exact ⟨o1, o2, o3, hnn, o5, o6, o7, o8, o9⟩
  · rw [fr2 149 (by omega) (by omega) (by omega) (by omega), fr2 150 (by omega) (by omega) (by omega) (by omega), fr2 151 (by omega) (by omega) (by omega) (by omega)]; exact b6
  · rw [eX]
    have b7' : CO (cxM sem h np (nc + n)) H h 3 14 29 := b7
    exact CO_f b7' (fun a q => fr2 a (by omega) (by omega) (by omega) (by omega))
  · exact mrOK_fr b8 (fj 23 (by omega) (by omega) (by omega) (by omega) (by omega) (by omega) (by omega) (by omega) (by omega)) (fr2 158 (by omega) (by omega) (by omega) (by omega))
  · rw [fr2 29 (by omega) (by omega) (by omega) (by omega)]; exact b9
  · rw [fr2 29 (by omega) (by omega) (by omega) (by omega)]; exact b10
  · rw [fr 1 (by omega) (by omega) (by omega)]; exact c2
  · exact SD_same hd (by rw [fr2 145 (by omega) (by omega) (by omega) (by omega)]) (fj 1 (by omega) (by omega) (by omega) (by omega) (by omega) (by omega) (by omega) (by omega) (by omega)) (fr2 146 (by omega) (by omega) (by omega) (by omega)) (fr2 148 (by omega) (by omega) (by omega) (by omega))
  · rw [eX, g154]
    exact Cpl_fr c3 (fun a a1 a2 => fr a (by omega) (by omega) (by omega))
  · rw [g154, coF_1]
    have := hu.2.1
    omega
  · rw [g154, fr2 155 (by omega) (by omega) (by omega) (by omega)]
    exact fun j q => by rw [coF_oor n hnn j q]; exact hu.2.2.1 j q
  · exact SUn_0 (SU_un hu) (by rw [fr 44 (by omega) (by omega) (by omega)]; exact c4) g28 (by rw [fr 44 (by omega) (by omega) (by omega)]; exact c5)
  · exact SKp_0 (SU_kp hu) (fun i hi => by rw [fr 47 (by omega) (by omega) (by omega)]; exact c6 i hi) (fr2 175 (by omega) (by omega) (by omega) (by omega)) (fr2 176 (by omega) (by omega) (by omega) (by omega)) g6
  · exact SS_fr hss (fr2 138 (by omega) (by omega) (by omega) (by omega)) (fj 40 (by omega) (by omega) (by omega) (by omega) (by omega) (by omega) (by omega) (by omega) (by omega)) (fr2 139 (by omega) (by omega) (by omega) (by omega)) (fr2 170 (by omega) (by omega) (by omega) (by omega)) (fr2 171 (by omega) (by omega) (by omega) (by omega)) (fr2 172 (by omega) (by omega) (by omega) (by omega))
  · exact SP_fr hsp (fr2 10 (by omega) (by omega) (by omega) (by omega)) (fr2 8 (by omega) (by omega) (by omega) (by omega)) (fr2 9 (by omega) (by omega) (by omega) (by omega)) (fr2 32 (by omega) (by omega) (by omega) (by omega)) (by rw [fj 30 (by omega) (by omega) (by omega) (by omega) (by omega) (by omega) (by omega) (by omega) (by omega)]; exact hsp.2.2)
theorem A_coaches (hs : SRx k h sem H np nc len) (hk : k ≤ 1000) : AG mX11_coaches mX12_coaches 3 2 [] k h := by
  have x6 := sR6 hs
  have x12 := sR12 hs
  have hH := sRH hs
  have h3H : h 3 0 = H := hs.1.2.2.2.1
  have h147 : h 147 3 = H := hs.1.1
  have h4c : h 147 4 = nc := hs.1.2.1
  obtain ⟨n, n1, n2, n3, n4⟩ := hs.2.1
  have hcp := hs.2.2.2.1.1
  have e2 : h 14 2 = nc := hcp.2.2.2.1
  have hfo := hcp.1
  have hln : len ≤ nc := hfo.2.2.1
  have hsm : sm (fun c => if 0 ≤ mP (h 154) c then 1 else 0) nc = len := fOK_len hfo
  have hen : 0 ≤ h 154 0 ∧ h 154 0 < H := hfo.1
  have hch := hs.2.2.2.1.2.2.2.2.1
  obtain ⟨s, hse⟩ : ∃ s, s = h 156 := ⟨_, rfl⟩
  have hs2 : ∀ i : Nat, i < n → h 2 i = s i ∧ 0 ≤ s i ∧ s i ≤ 255 := fun i hi => by rw [hse]; exact n4 i hi
  haveI : DecidablePred (coG s H nc) := fun i => by unfold coG; infer_instance
  have hmod : ∀ (h3 : Nat → Int → Int) (Q : Option PV → PH → Prop), (∀ a, 147 ≤ a → h3 a = h a) → (∀ (i : Nat) (h1 : Nat → Int → Int), i < n → ¬ coG s H nc i → (∀ j, j < i → coG s H nc j) → mrF h3 h1 → Q (some (pI (-1 - (i : Int)))) (shp0, rf0, h1)) → (∀ hb h2 : Nat → Int → Int, (∀ j, j < n → coG s H nc j) → mrF h3 hb → mcP hb s (h 154) nc len n h2 → Q (some (pI n)) (shp0, rf0, if 0 < n then rup h2 147 (fup (fup (h2 147) 28 0) 6 (h2 147 6 + 1)) else h2)) → RR mX12_coaches 2 0 0 0 (pm_ent [pR 147] 5) [] (shp0, rf0, h3) Q := fun h3 Q e hno hye => M_coaches (s := s) (by rw [e 147 (by omega)]; exact h147) hH (by rw [e 147 (by omega)]; exact h4c) x6 (by rw [e 147 (by omega)]; exact n2) n3 (fun i hi => by rw [e 156 (by omega), hse]; exact ⟨rfl, (n4 i hi).2⟩) (e 154 (by omega)) (by omega) hsm hln (by rw [e 147 (by omega)]; omega) hno hye
  rcases fst_bad (coG s H nc) n with hg | ⟨i, i1, i2, i3⟩
  · by_cases z : n = 0
    · refine RR.post (C_coaches_no (r := 0) n1 n3 (by omega) (by omega) (T_X11_checkCoaches (s := s) n1 n3 hs2 h3H hH.2 e2 x6 (Or.inl ⟨by omega, hg⟩))) (fun r' g' q => ?_)
      obtain ⟨rfl, rfl⟩ := q
      refine ⟨_, rfl, hmod _ _ (fun a ha => rup_n (by omega)) (fun i h1 i1 => by omega) (fun hb h2 _ f1 f2 => ?_)⟩
      rw [if_neg (by omega)]
      refine ⟨by rw [z]; rfl, h2, rfl, SR_text hs ?_ (fun a q1 q2 q3 => ?_) (fun j q1 q2 q3 q4 q5 q6 => ?_) ?_⟩
      · rw [f2.1 1 (by omega) (by omega), f1.1 1 (by omega) (by omega), rup_s, fup_s]
      · by_cases y : a = 154
        · rw [y, f2.2.2.1, z]; rfl
        · rw [f2.1 a q2 y, f1.1 a q2 q3, rup_n q1]
      · by_cases y : j = 4
        · rw [y, f2.2.2.2, z, h4c]; rfl
        · rw [f2.2.1 j y, f1.2.1 j q1 q2 q3 q4 q5 q6, rup_n (by omega)]
      · rw [f2.2.1 15 (by omega)]; exact f1.2.2
    · refine RR.post (C_coaches hs n1 (by omega) n3 hs2 hg) (fun r' g' q => ?_)
      obtain ⟨rfl, h3, rfl, c1, c2, c3, c4, c5, c6⟩ := q
      refine ⟨_, rfl, hmod _ _ (fun a ha => c1 a (by omega)) (fun i h1 i1 i2 => absurd (hg i i1) i2) (fun hb h2 _ f1 f2 => ?_)⟩
      rw [if_pos (by omega)]
      exact ⟨rfl, _, rfl, SR_coach hs (by omega) (fun i hi => (hg i hi).2) c1 c2 c3 c4 c5 c6 f1 f2 rfl⟩
  · refine RR.post (C_coaches_no (r := -1 - i) n1 n3 (by omega) (by omega) (T_X11_checkCoaches (s := s) n1 n3 hs2 h3H hH.2 e2 x6 (Or.inr ⟨i, i1, i2, i3, rfl⟩))) (fun r' g' q => ?_)
    obtain ⟨rfl, rfl⟩ := q
    refine ⟨_, rfl, hmod _ _ (fun a ha => rup_n (by omega)) (fun i' h1 j1 j2 j3 f1 => ?_) (fun hb h2 hg _ _ => absurd (hg i i1) i2)⟩
    have : i' = i := by
      by_cases y : i' < i
      · exact absurd (i3 i' y) j2
      · by_cases y2 : i < i'
        · exact absurd (j3 i y2) i2
        · omega
    subst this
    refine ⟨rfl, h1, rfl, SR_text hs ?_ (fun a q1 q2 q3 => ?_) (fun j q1 q2 q3 q4 q5 q6 => ?_) f1.2.2⟩
    · rw [f1.1 1 (by omega) (by omega), rup_s, fup_s]
    · rw [f1.1 a q2 q3, rup_n q1]
    · rw [f1.2.1 j q1 q2 q3 q4 q5 q6, rup_n (by omega)]
end AC2
