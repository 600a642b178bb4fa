section GO
variable {k : Nat} {h h3 : Nat → Int → Int} {sem : Sem} {H np nc len : Nat}
theorem T_X12_enters {v : Int} {n : Nat} (hn : h 147 1 = n) (h24 : n < 24) (hv : r64 v) : MT mX12_enters 0 [pR 147, pL v] h none (rup (rup h 147 (fup (h 147) 1 (n + 1))) 148 (fup (h 148) n v)) := by
  refine MT.of (fun Q hQ => (?_ : RR mX12_enters _ _ _ _ [pR 147, pL v, pU] _ _ _))
  refine R_aload_n dX12_enters_0 rfl (?_ : RR _ _ _ _ 1 _ _ _ _)
  refine R_getr dX12_enters_1 flX12_9 cok_12 rfl (by decide) (?_ : RR _ _ _ _ 4 _ _ _ _)
  refine R_aload_n dX12_enters_4 rfl (?_ : RR _ _ _ _ 5 _ _ _ _)
  refine R_geti (z := 1) dX12_enters_5 flX12_113 cok_12 rfl (by decide) rfl (fun q5 => (?_ : RR _ _ _ _ 8 _ _ _ _))
  try simp (disch := omega) only [rup_rup, rup_sort, rupS_def, rup_s, rup_n, fup_fup, fup_s, fup_n, hn] at q5 ⊢
  refine R_lload_n dX12_enters_8 rfl (?_ : RR _ _ _ _ 9 _ _ _ _)
  refine R_last dX12_enters_9 (?_ : RR _ _ _ _ 10 _ _ _ _)
  try simp (disch := omega) only [rup_rup, rup_sort, rupS_def, rup_s, rup_n, fup_fup, fup_s, fup_n, hn]
  refine R_aload_n dX12_enters_10 rfl (?_ : RR _ _ _ _ 11 _ _ _ _)
  refine R_dup dX12_enters_11 (fun _ => rfl) (?_ : RR _ _ _ _ 12 _ _ _ _)
  refine R_geti (z := 1) dX12_enters_12 flX12_113 cok_12 rfl (by decide) rfl (fun q12 => (?_ : RR _ _ _ _ 15 _ _ _ _))
  try simp (disch := omega) only [rup_rup, rup_sort, rupS_def, rup_s, rup_n, fup_fup, fup_s, fup_n, hn] at q12 ⊢
  refine R_iconst dX12_enters_15 (?_ : RR _ _ _ _ 16 _ _ _ _)
  refine R_iadd dX12_enters_16 (?_ : RR _ _ _ _ 17 _ _ _ _)
  refine R_puti (zk := 1) dX12_enters_17 flX12_113 cok_12 (by decide) (fun q hq => by cases hq; rfl) rfl (?_ : RR _ _ _ _ 20 _ _ _ _)
  try simp (disch := omega) only [rup_rup, rup_sort, rupS_def, rup_s, rup_n, fup_fup, fup_s, fup_n, hn]
  exact R_return dX12_enters_20 trivial hQ
theorem m1b : ∀ i : Nat, i < 32 → (Int32.ofInt (-1)).toBitVec.getLsbD i = true := by decide +kernel
/-- those of a that are not of b -/
theorem iAndN {a b n : Nat} (ha : a < 2 ^ n) (hn : n ≤ 31) (hb : b < 2147483648) : iAnd (a : Int) (iXor (b : Int) (-1)) = ((bset (fun i => a.testBit i && !b.testBit i) n : Nat) : Int) := by
  have ha31 : a < 2147483648 := Nat.lt_of_lt_of_le ha (show 2 ^ n ≤ 2 ^ 31 from Nat.pow_le_pow_right (by omega) hn)
  have hc := bset_lt (fun i => a.testBit i && !b.testBit i) n
  have hc31 : bset (fun i => a.testBit i && !b.testBit i) n < 2147483648 := Nat.lt_of_lt_of_le hc (show 2 ^ n ≤ 2 ^ 31 from Nat.pow_le_pow_right (by omega) hn)
  unfold iAnd iXor
  rw [Int32.ofInt_toInt, i32_nat ha31, i32_nat hb]
  have e : nI a &&& (nI b ^^^ Int32.ofInt (-1)) = nI (bset (fun i => a.testBit i && !b.testBit i) n) := by
    apply Int32.toBitVec_inj.mp
    rw [Int32.toBitVec_and, Int32.toBitVec_xor]
    show BitVec.ofNat 32 a &&& (BitVec.ofNat 32 b ^^^ (Int32.ofInt (-1)).toBitVec) = BitVec.ofNat 32 _
    apply BitVec.eq_of_getLsbD_eq
    intro i hi
    rw [BitVec.getLsbD_and, BitVec.getLsbD_xor, m1b i hi, BitVec.getLsbD_ofNat, BitVec.getLsbD_ofNat, BitVec.getLsbD_ofNat, bset_bit]
    by_cases q : i < n
    · simp [hi, q]
    · have : a.testBit i = false := Nat.testBit_lt_two_pow (Nat.lt_of_lt_of_le ha (Nat.pow_le_pow_right (by omega) (by omega)))
      simp [this, q]
  rw [e, nI_toInt hc31]
theorem outs_new {P Q : Nat → Bool} (hnp : np ≤ 12) : iAnd (bset P np : Int) (iXor (bset Q np : Int) (-1)) = ((bset (fun i => P i && !Q i) np : Nat) : Int) := by
  have h1 := bset_lt P np
  have h2 := bset_31 (P := Q) (n := np) (by omega)
  rw [iAndN h1 (by omega) h2]
  congr 1
  refine bset_congr (fun i hi => ?_)
  rw [bset_bit, bset_bit]
  simp [hi]
/-- the class's part with a row told -/
theorem cAct_noted2 {X : Cx} {h2 : Nat → Int → Int} {x U len2 : Nat} {w : Int × (Int → Int)} {TC : (Nat → Int → Int) → Prop} (h6 : xC X ≤ 6) (h12 : xP X ≤ 12) (hx15 : x < 15) (f2 : ∀ a, ¬ ((14 ≤ a ∧ a ≤ 18) ∨ (19 ≤ a ∧ a ≤ 23) ∨ a = 31 ∨ a = 35 ∨ (37 ≤ a ∧ a ≤ 43) ∨ a = 145 ∨ a = 146) → h2 a = h a) (hb : Cpl X H h2 19 (h 154) len) (hc2 : Cpl X H h2 14 w.2 len2) (hTC : ∀ h3 : Nat → Int → Int, h3 145 = h2 145 → h3 146 = h2 146 → TC h3) : cAct X H h x U len w TC (some (pI w.1)) (shp0, rf0, if w.1 < 0 then h2 else rup (trC h2 (48 + 5 * x) 19) 44 (fup (fup (h2 44) 4 (((x + 1) % 15 : Nat) : Int)) 3 (min 15 (U + 1)))) := by
  by_cases q : w.1 < 0
  · rw [if_pos q]
    exact ⟨h2, len2, rfl, rfl, hc2, hTC h2 rfl rfl, fun a q1 _ => f2 a (by omega), fun z => by omega⟩
  · rw [if_neg q]
    refine ⟨_, len2, rfl, rfl, ?_, hTC _ ?_ ?_, fun a q1 q2 => ?_, fun _ => ⟨?_, ?_, ?_⟩⟩
    · refine Cpl_fr hc2 (fun a a1 a2 => ?_)
      rw [rup_n (by omega), trC_n (by omega)]
    · rw [rup_n (by omega), trC_n (by omega)]
    · rw [rup_n (by omega), trC_n (by omega)]
    · rw [rup_n (by omega), trC_n (by omega)]; exact f2 a (by omega)
    · exact Cpl_fr (Cpl_cp (t := 48 + 5 * x) h6 h12 hb) (fun a a1 a2 => by rw [rup_n (by omega)])
    · rw [rup_s, fup_s]; omega
    · rw [rup_s, fup_n (by omega), fup_s]
/-- who got out -/
def newOut (np : Nat) (f' f : Int → Int) : Nat := bset (fun p => decide (mS f' p < 0) && !decide (mS f p < 0)) np
def toC (w : Int × (Int → Int)) (h : Nat → Int → Int) (V : Int) (h3 : Nat → Int → Int) : Prop := (w.1 < 0 → h3 145 = h 145 ∧ h3 146 = h 146) ∧ (0 ≤ w.1 → h3 145 1 = 1 ∧ h3 146 0 = V)
def toM (w : Int × (Int → Int)) (h : Nat → Int → Int) (V : Int) (h4 : Nat → Int → Int) : Prop := (w.1 < 0 → h4 147 1 = h 147 1 ∧ h4 148 = h 148) ∧ (0 ≤ w.1 → h4 147 1 = 1 ∧ h4 148 0 = V)
theorem cpl_outs {X : Cx} {t : Nat} {f : Int → Int} (hc : Cpl X H h t f len) {n : Nat} (hn : n = xP X) : bset (fun j => decide (h (t + 4) j = -1)) n = bset (fun p => decide (mS f p < 0)) n := bset_congr (fun p hp => by
  rw [hc.2.2.2.2.2.2.2 p (by omega)]
  have := hc.1.2.2.2.2.2 p (by omega)
  apply decide_eq_decide.mpr
  omega)
theorem C_go {a n : Int} (hs : SRx k h sem H np nc len) (hk : k ≤ 1000) (ha : r32 a) (hn : r32 n) {U x : Nat} (hU : h 44 3 = U) (hx : h 44 4 = x) (hx15 : x < 15) (hU15 : U ≤ 15) : RR mX11_go 4 0 0 0 (pm_ent [pR 0, pI a, pI n] 4) [] (shp0, rf0, h) (cAct (cxM sem h np nc) H h x U len (aGo (cxM sem h np nc) (h 154) a n) (toC (aGo (cxM sem h np nc) (h 154) a n) h (newOut np (aGo (cxM sem h np nc) (h 154) a n).2 (h 154)))) := by
  have t14 := isTr_14
  have t19 := isTr_19
  have hc := hs.2.2.2.1.1
  have hX := hs.1.2.2.2.2.1
  have hCO := hs.1.2.2.2.2.2.2.1
  have hnw := hs.2.2.2.1.2.1
  have x6 := sR6 hs
  have x12 := sR12 hs
  have hc1 : Cpl (cxM sem h np nc) H (trC h 19 14) 14 (h 154) len := Cpl_fr hc (fun a a1 a2 => trC_n (by omega))
  have hb1 : Cpl (cxM sem h np nc) H (trC h 19 14) 19 (h 154) len := Cpl_cp x6 x12 hc
  have hCO1 : CO (cxM sem h np nc) H (trC h 19 14) 3 14 29 := CO_f hCO (fun a q => trC_n (by omega))
  have h11 : h 11 0 = np := hCO.2.1.1
  show RR _ _ _ _ _ [pR 0, pI a, pI n, pU] _ _ _
  have hpo := C_drive hX hCO1 hc1 (by omega) ha hn
  have hM := hX.2.2.2.2.2.1
  have hf0 := hc.1.1
  have hH := (sRH hs).2
  have hwr : r32 (aGo (cxM sem h np nc) (h 154) a n).1 := by
    unfold aGo
    split
    · show r32 (-1); omega
    · rename_i q
      have q := Decidable.not_not.mp q
      split
      · show r32 (-2); omega
      · have := hM (2 * h 154 0 + a) (by omega) (by omega)
        show r32 (xM (cxM sem h np nc) (2 * h 154 0 + a))
        omega
  generalize aGo (cxM sem h np nc) (h 154) a n = w at hpo hwr ⊢
  have K : ∀ (h2 : Nat → Int → Int) (len2 : Nat), aFr (trC h 19 14) h2 → Cpl (cxM sem h np nc) H h2 14 w.2 len2 → RR mX11_go 4 0 0 17 [pR 0, pI a, pI n, pU] [pI w.1] (shp0, rf0, h2) (cAct (cxM sem h np nc) H h x U len w (toC w h (newOut np w.2 (h 154)))) := by
    intro h2 len2 hf2 hc2
    have f2 : ∀ a, ¬ ((14 ≤ a ∧ a ≤ 18) ∨ (19 ≤ a ∧ a ≤ 23) ∨ a = 31 ∨ a = 35 ∨ (37 ≤ a ∧ a ≤ 43)) → h2 a = h a := fun a q => (hf2 a (by omega)).trans (trC_n (by omega))
    have hb2 : Cpl (cxM sem h np nc) H h2 19 (h 154) len := Cpl_fr hb1 (fun a a1 a2 => hf2 a (by omega))
    have e11 : h2 11 0 = np := by rw [f2 11 (by omega)]; exact h11
    have e44 : h2 44 = h 44 := f2 44 (by omega)
    by_cases q : w.1 < 0
    · have hq := cAct_noted2 (x := x) (U := U) (w := w) (TC := toC w h (newOut np w.2 (h 154))) x6 x12 hx15 (fun a q => f2 a (by omega)) hb2 hc2 (fun h3 e1 e2 => ⟨fun _ => ⟨by rw [e1, f2 145 (by omega)], by rw [e2, f2 146 (by omega)]⟩, fun z => by omega⟩)
      refine R_istore_n dX11_go_17 (Nat.le_of_ble_eq_true rfl) (?_ : RR _ _ _ _ 18 [_, _, _, _] _ _ _)
      refine R_iload_n dX11_go_18 rfl (?_ : RR _ _ _ _ 19 _ _ _ _)
      refine R_if_lt (t := 68) dX11_go_19 rfl (fun c19 => ?_) (fun c19 => ?_)
      rotate_left
      · exfalso; omega
      refine R_aload_n dX11_go_68 rfl (?_ : RR _ _ _ _ 69 _ _ _ _)
      refine R_iload_n dX11_go_69 rfl (?_ : RR _ _ _ _ 70 _ _ _ _)
      refine R_cVi1 dX11_go_70 mvX11_noted mlX11_257 (by decide) (by decide) (Nat.le_of_ble_eq_true rfl) (Nat.le_of_ble_eq_true rfl) (T_X11_noted (x := x) (U := U) (by rw [e44]; exact hx) (by rw [e44]; exact hU) hx15 hU15 hwr) (?_ : RR _ _ _ _ 73 _ _ _ _)
      exact R_ireturn dX11_go_73 trivial hq
    · obtain ⟨V, hV⟩ : ∃ V : Int, V = iAnd (bset (fun j => decide (h2 (14 + 4) j = -1)) np : Int) (iXor (bset (fun j => decide (h2 (19 + 4) j = -1)) np : Int) (-1)) := ⟨_, rfl⟩
      have hVr : r32 V := by rw [hV]; exact iAnd_r
      have hV2 : V = (newOut np w.2 (h 154) : Nat) := by
        rw [hV, cpl_outs (n := np) hc2 rfl, cpl_outs (n := np) hb2 rfl, outs_new x12]
        rfl
      obtain ⟨h5, h5e⟩ : ∃ h5, h5 = rup (rup h2 145 (fup (fup (h2 145) 1 0) 1 ((0 : Nat) + 1))) 146 (fup (h2 146) (0 : Nat) V) := ⟨_, rfl⟩
      have f5 : ∀ a, a ≠ 145 → a ≠ 146 → h5 a = h2 a := fun a a1 a2 => by rw [h5e, rup_n a2, rup_n a1]
      have hq := cAct_noted2 (h2 := h5) (x := x) (U := U) (w := w) (TC := toC w h (newOut np w.2 (h 154))) x6 x12 hx15 (fun a q => by rw [f5 a (by omega) (by omega)]; exact f2 a (by omega)) (Cpl_fr hb2 (fun a a1 a2 => f5 a (by omega) (by omega))) (Cpl_fr hc2 (fun a a1 a2 => f5 a (by omega) (by omega))) (fun h3 e1 e2 => ⟨fun z => by omega, fun _ => ⟨by rw [e1, h5e, rup_n (by omega), rup_s, fup_s]; rfl, by rw [e2, h5e, rup_s, ← hV2]; exact fup_s⟩⟩)
      refine R_istore_n dX11_go_17 (Nat.le_of_ble_eq_true rfl) (?_ : RR _ _ _ _ 18 [_, _, _, _] _ _ _)
      refine R_iload_n dX11_go_18 rfl (?_ : RR _ _ _ _ 19 _ _ _ _)
      refine R_if_lt (t := 68) dX11_go_19 rfl (fun c19 => ?_) (fun c19 => ?_)
      · exfalso; omega
      refine R_aload_n dX11_go_22 rfl (?_ : RR _ _ _ _ 23 _ _ _ _)
      refine R_getr dX11_go_23 flX11_87 cok_11 rfl (by decide) (?_ : RR _ _ _ _ 26 _ _ _ _)
      refine R_cVv0 dX11_go_26 mvX3_clear mlX11_239 (by decide) (by decide) (Nat.le_of_ble_eq_true rfl) (Nat.le_of_ble_eq_true rfl) (T_X3_clear) (?_ : RR _ _ _ _ 29 _ _ _ _)
      refine R_aload_n dX11_go_29 rfl (?_ : RR _ _ _ _ 30 _ _ _ _)
      refine R_getr dX11_go_30 flX11_87 cok_11 rfl (by decide) (?_ : RR _ _ _ _ 33 _ _ _ _)
      refine R_aload_n dX11_go_33 rfl (?_ : RR _ _ _ _ 34 _ _ _ _)
      refine R_getr dX11_go_34 flX11_36 cok_11 rfl (by decide) (?_ : RR _ _ _ _ 37 _ _ _ _)
      refine R_aload_n dX11_go_37 rfl (?_ : RR _ _ _ _ 38 _ _ _ _)
      refine R_getr dX11_go_38 flX11_29 cok_11 rfl (by decide) (?_ : RR _ _ _ _ 41 _ _ _ _)
      refine R_geti (z := 0) dX11_go_41 flX11_116 cok_2 rfl (by decide) rfl (fun q41 => (?_ : RR _ _ _ _ 44 _ _ _ _))
      simp (disch := omega) only [rup_n] at q41 ⊢
      rw [e11] at q41 ⊢
      refine R_cVi1 dX11_go_44 mvX9_outBits mlX11_254 (by decide) (by decide) (Nat.le_of_ble_eq_true rfl) (Nat.le_of_ble_eq_true rfl) (T_X9_outBits (t := 14) (n := np)) (?_ : RR _ _ _ _ 47 _ _ _ _)
      simp (disch := omega) only [rup_n]
      refine R_aload_n dX11_go_47 rfl (?_ : RR _ _ _ _ 48 _ _ _ _)
      refine R_getr dX11_go_48 flX11_40 cok_11 rfl (by decide) (?_ : RR _ _ _ _ 51 _ _ _ _)
      refine R_aload_n dX11_go_51 rfl (?_ : RR _ _ _ _ 52 _ _ _ _)
      refine R_getr dX11_go_52 flX11_29 cok_11 rfl (by decide) (?_ : RR _ _ _ _ 55 _ _ _ _)
      refine R_geti (z := 0) dX11_go_55 flX11_116 cok_2 rfl (by decide) rfl (fun q55 => (?_ : RR _ _ _ _ 58 _ _ _ _))
      simp (disch := omega) only [rup_n] at q55 ⊢
      rw [e11] at q55 ⊢
      refine R_cVi1 dX11_go_58 mvX9_outBits mlX11_254 (by decide) (by decide) (Nat.le_of_ble_eq_true rfl) (Nat.le_of_ble_eq_true rfl) (T_X9_outBits (t := 19) (n := np)) (?_ : RR _ _ _ _ 61 _ _ _ _)
      simp (disch := omega) only [rup_n]
      refine R_iconst dX11_go_61 (?_ : RR _ _ _ _ 62 _ _ _ _)
      refine R_ixor dX11_go_62 (?_ : RR _ _ _ _ 63 _ _ _ _)
      refine R_iand dX11_go_63 (?_ : RR _ _ _ _ 64 _ _ _ _)
      rw [← hV]
      refine R_i2l dX11_go_64 (by first | assumption | omega) (?_ : RR _ _ _ _ 65 _ _ _ _)
      refine R_cVv1 dX11_go_65 mvX3_add mlX11_243 (by decide) (by decide) (Nat.le_of_ble_eq_true rfl) (Nat.le_of_ble_eq_true rfl) (T_X3_add (n := 0) (by rw [rup_s, fup_s]; rfl) (by omega)) (?_ : RR _ _ _ _ 68 _ _ _ _)
      simp (disch := omega) only [rup_rup, rup_s, rup_n]
      rw [← h5e]
      refine R_aload_n dX11_go_68 rfl (?_ : RR _ _ _ _ 69 _ _ _ _)
      refine R_iload_n dX11_go_69 rfl (?_ : RR _ _ _ _ 70 _ _ _ _)
      refine R_cVi1 dX11_go_70 mvX11_noted mlX11_257 (by decide) (by decide) (Nat.le_of_ble_eq_true rfl) (Nat.le_of_ble_eq_true rfl) (T_X11_noted (x := x) (U := U) (by rw [f5 44 (by omega) (by omega), e44]; exact hx) (by rw [f5 44 (by omega) (by omega), e44]; exact hU) hx15 hU15 hwr) (?_ : RR _ _ _ _ 73 _ _ _ _)
      exact R_ireturn dX11_go_73 trivial hq
  refine R_aload_n dX11_go_0 rfl (?_ : RR _ _ _ _ 1 _ _ _ _)
  refine R_getr dX11_go_1 flX11_40 cok_11 rfl (by decide) (?_ : RR _ _ _ _ 4 _ _ _ _)
  refine R_aload_n dX11_go_4 rfl (?_ : RR _ _ _ _ 5 _ _ _ _)
  refine R_getr dX11_go_5 flX11_36 cok_11 rfl (by decide) (?_ : RR _ _ _ _ 8 _ _ _ _)
  refine R_cVv1 dX11_go_8 mvX9_copyFrom mlX11_231 (by decide) (by decide) (Nat.le_of_ble_eq_true rfl) (Nat.le_of_ble_eq_true rfl) (T_X9_copyFrom) (?_ : RR _ _ _ _ 11 _ _ _ _)
  refine R_aload_n dX11_go_11 rfl (?_ : RR _ _ _ _ 12 _ _ _ _)
  refine R_iload_n dX11_go_12 rfl (?_ : RR _ _ _ _ 13 _ _ _ _)
  refine R_iload_n dX11_go_13 rfl (?_ : RR _ _ _ _ 14 _ _ _ _)
  refine R_qV2 dX11_go_14 mvX11_drive mlX11_251 (by decide) (by decide) (Nat.le_of_ble_eq_true rfl) (Nat.le_of_ble_eq_true rfl) (hpo) (fun r9 g9 hq9 => (?_ : RR _ _ _ _ 17 _ _ _ _))
  obtain ⟨h2, len2, rfl, hf2, rfl, hc2⟩ := hq9
  show RR _ _ _ _ _ _ [pI w.1] _ _
  exact K h2 len2 hf2 hc2
end GO
