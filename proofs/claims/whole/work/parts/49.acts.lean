/-! acts, as both sides do them -/
def aGo (X : Cx) (f : Int → Int) (x n : Int) : Int × (Int → Int) := if ¬ ((0 ≤ x ∧ x ≤ 1) ∧ 0 ≤ n ∧ n ≤ xLn X f) then (-1, f) else if xE X (2 * f 0 + x) < 0 then (-2, f) else (xM X (2 * f 0 + x), xGo X f n.toNat (2 * f 0 + x))
def aCo (X : Cx) (f : Int → Int) : Int × (Int → Int) := (if bset (stB f) (xC X) = 0 then -2 else (pop 12 (bset (stB f) (xC X)) : Int), mcF (stB f) (xLn X f) f (xC X))
def aCu (X : Cx) (f : Int → Int) (n : Int) : Int × (Int → Int) := if ¬ (1 ≤ n ∧ n ≤ xLn X f) then (-1, f) else (xLn X f - n, mlF f (xLn X f - n) (xC X))
def aWa (X : Cx) (f : Int → Int) (p c : Int) : Int × (Int → Int) := if ¬ ((0 ≤ p ∧ p < xP X) ∧ 0 ≤ c ∧ c < xC X) then (-1, f) else if mS f p = -1 then (-2, f) else if ¬ (mP f (mS f p) ≠ -1 ∧ mP f c ≠ -1 ∧ iAbs (mP f (mS f p) - mP f c) = 1) then (-3, f) else (mS f p, fup (fup f (14 + p) c) 1 (f 1 + 1))
def aSt (f : Int → Int) (n : Int) : Int × (Int → Int) := if ¬ (0 ≤ n ∧ n ≤ 99) then (-1, f) else (f 1 + n, fup f 1 (f 1 + n))
def aRu (X : Cx) (f : Int → Int) : Int × (Int → Int) := (if xCrs X f 0 ≠ 2 ∧ 0 ≤ xE X (2 * f 0 + xCrs X f 0) then xCrs X f 0 else 2, xStep X 0 f)
def aFr (h h' : Nat → Int → Int) : Prop := ∀ a, ¬ ((14 ≤ a ∧ a ≤ 18) ∨ a = 31 ∨ a = 35 ∨ (37 ≤ a ∧ a ≤ 43)) → h' a = h a
def aPo (X : Cx) (H : Nat) (h : Nat → Int → Int) (w : Int × (Int → Int)) (r' : Option PV) (g' : PH) : Prop := ∃ h' len', g' = (shp0, rf0, h') ∧ aFr h h' ∧ r' = some (pI w.1) ∧ Cpl X H h' 14 w.2 len'
section AC
variable {X : Cx} {H : Nat} {h : Nat → Int → Int} {f : Int → Int} {len : Nat}
theorem C_makeRun (hX : xOK X H) (hC : CO X H h 3 14 29) (hc : Cpl X H h 14 f len) (hnow : f 1 ≤ 2000000000) : RR mX11_makeRun 5 0 0 0 (pm_ent [pR 0] 1) [] (shp0, rf0, h) (fun r' g' => aPo X H h (aRu X f) r' g' ∧ ∃ h', g' = (shp0, rf0, h') ∧ onT X f 0 r' h') := by
  suffices hS : ∀ Q : Option PV → PH → Prop, (∀ h' len' z, aFr h h' → z = (aRu X f).1 → Cpl X H h' 14 (aRu X f).2 len' → onT X f 0 (some (pI z)) h' → Q (some (pI z)) (shp0, rf0, h')) → RR mX11_makeRun 5 0 0 0 [pR 0] [] (shp0, rf0, h) Q from hS _ (fun h' len' z q1 q2 q3 q4 => ⟨⟨h', len', rfl, q1, by rw [q2], q3⟩, h', rfl, q4⟩)
  intro Q hQ
  refine R_aload_n dX11_makeRun_0 rfl (?_ : RR _ _ _ _ 1 _ _ _ _)
  refine R_getr dX11_makeRun_1 flX11_59 cok_11 rfl (by decide) (?_ : RR _ _ _ _ 4 _ _ _ _)
  refine R_aload_n dX11_makeRun_4 rfl (?_ : RR _ _ _ _ 5 _ _ _ _)
  refine R_getr dX11_makeRun_5 flX11_19 cok_11 rfl (by decide) (?_ : RR _ _ _ _ 8 _ _ _ _)
  refine R_aload_n dX11_makeRun_8 rfl (?_ : RR _ _ _ _ 9 _ _ _ _)
  refine R_getr dX11_makeRun_9 flX11_36 cok_11 rfl (by decide) (?_ : RR _ _ _ _ 12 _ _ _ _)
  refine R_aload_n dX11_makeRun_12 rfl (?_ : RR _ _ _ _ 13 _ _ _ _)
  refine R_getr dX11_makeRun_13 flX11_29 cok_11 rfl (by decide) (?_ : RR _ _ _ _ 16 _ _ _ _)
  refine R_aload_n dX11_makeRun_16 rfl (?_ : RR _ _ _ _ 17 _ _ _ _)
  refine R_getr dX11_makeRun_17 flX11_49 cok_11 rfl (by decide) (?_ : RR _ _ _ _ 20 _ _ _ _)
  refine R_iconst dX11_makeRun_20 (?_ : RR _ _ _ _ 21 _ _ _ _)
  refine R_qV5 dX11_makeRun_21 mvX5_once mlX11_297 (by decide) (by decide) (Nat.le_of_ble_eq_true rfl) (Nat.le_of_ble_eq_true rfl) (C_once hX hC hc hnow (Or.inl rfl)) (fun r9 g9 hq9 => (?_ : RR _ _ _ _ 24 _ _ _ _))
  obtain ⟨hb, lb, rfl, hfb, hcb, htb⟩ := hq9
  obtain ⟨z, hz⟩ : ∃ z, z = (aRu X f).1 := ⟨_, rfl⟩
  obtain rfl : r9 = some (pI z) := by rw [hz]; exact htb.2.1
  show RR _ _ _ _ _ _ [pI z] _ _
  exact R_ireturn dX11_makeRun_24 trivial (hQ hb lb z (fun a q => hfb a (by omega) (by omega) (by omega) (by omega) (by omega) (by omega) (by omega)) hz hcb htb)
theorem Cpl_stay {t : Nat} {z : Int} (hc : Cpl X H h t f len) (hz : 0 ≤ z) : Cpl X H (rup h t (fup (h t) 1 z)) t (fup f 1 z) len := by
  obtain ⟨hf, e0, e1, e2, e3, ep, ea, es⟩ := id hc
  refine ⟨by rw [rup_n (by omega)]; exact fOK_stay hf hz, ?_, ?_, ?_, ?_, fun k hk => ?_, fun k hk hm => ?_, fun p hp => ?_⟩
  · rw [rup_s, fup_n (by omega), fup_n (by omega)]; exact e0
  · rw [rup_s, fup_s, fup_s]
  · rw [rup_s, fup_n (by omega)]; exact e2
  · rw [rup_s, fup_n (by omega)]; exact e3
  · rw [rup_n (by omega), fup_mP (by omega)]; exact ep k hk
  · rw [fup_mP (by omega)] at hm
    rw [rup_n (by omega), fup_mA (by omega)]; exact ea k hk hm
  · rw [rup_n (by omega), fup_mS (by omega)]; exact es p hp
theorem C_letPass {n : Int} (hc : Cpl X H h 14 f len) (hnow : f 1 ≤ 2000000000) (hn : r32 n) : RR mX11_letPass 0 0 0 0 (pm_ent [pR 0, pI n] 2) [] (shp0, rf0, h) (aPo X H h (aSt f n)) := by
  obtain ⟨hf, e0, e1, e2, e3, ep, ea, es⟩ := id hc
  have f1 := hf.2.1
  show RR _ _ _ _ _ [pR 0, pI n] _ _ _
  unfold aSt
  by_cases q : 0 ≤ n ∧ n ≤ 99
  · rw [if_neg (fun z => z q)]
    have hq : aPo X H h (f 1 + n, fup f 1 (f 1 + n)) (some (pI (f 1 + n))) (shp0, rf0, rup h 14 (fup (h 14) 1 (f 1 + n))) := ⟨_, len, rfl, fun a q => by rw [rup_n (by omega)], rfl, Cpl_stay hc (by omega)⟩
    refine R_iload_n dX11_letPass_0 rfl (?_ : RR _ _ _ _ 1 _ _ _ _)
    refine R_if_lt (t := 10) dX11_letPass_1 rfl (fun c1 => ?_) (fun c1 => ?_)
    · exfalso; omega
    refine R_iload_n dX11_letPass_4 rfl (?_ : RR _ _ _ _ 5 _ _ _ _)
    refine R_bipush dX11_letPass_5 rfl (?_ : RR _ _ _ _ 7 _ _ _ _)
    refine R_icmp_le (t := 12) dX11_letPass_7 rfl (fun c7 => ?_) (fun c7 => ?_)
    rotate_left
    · exfalso; omega
    refine R_aload_n dX11_letPass_12 rfl (?_ : RR _ _ _ _ 13 _ _ _ _)
    refine R_getr dX11_letPass_13 flX11_36 cok_11 rfl (by decide) (?_ : RR _ _ _ _ 16 _ _ _ _)
    refine R_dup dX11_letPass_16 (fun _ => rfl) (?_ : RR _ _ _ _ 17 _ _ _ _)
    refine R_geti (z := 1) dX11_letPass_17 flX11_312 cok_9 rfl (by decide) rfl (fun q17 => (?_ : RR _ _ _ _ 20 _ _ _ _))
    try simp (disch := omega) only [rup_rup, rup_sort, rupS_def, rup_s, rup_n, fup_fup, fup_s, fup_n, e1] at q17 ⊢
    refine R_iload_n dX11_letPass_20 rfl (?_ : RR _ _ _ _ 21 _ _ _ _)
    refine R_iadd dX11_letPass_21 (?_ : RR _ _ _ _ 22 _ _ _ _)
    refine R_puti (zk := 1) dX11_letPass_22 flX11_312 cok_9 (by decide) (fun q hq => by cases hq; rfl) rfl (?_ : RR _ _ _ _ 25 _ _ _ _)
    try simp (disch := omega) only [rup_rup, rup_sort, rupS_def, rup_s, rup_n, fup_fup, fup_s, fup_n, e1]
    refine R_aload_n dX11_letPass_25 rfl (?_ : RR _ _ _ _ 26 _ _ _ _)
    refine R_getr dX11_letPass_26 flX11_36 cok_11 rfl (by decide) (?_ : RR _ _ _ _ 29 _ _ _ _)
    refine R_geti (z := 1) dX11_letPass_29 flX11_312 cok_9 rfl (by decide) rfl (fun q29 => (?_ : RR _ _ _ _ 32 _ _ _ _))
    try simp (disch := omega) only [rup_rup, rup_sort, rupS_def, rup_s, rup_n, fup_fup, fup_s, fup_n, e1] at q29 ⊢
    exact R_ireturn dX11_letPass_32 trivial hq
  · rw [if_pos q]
    have hq : aPo X H h (-1, f) (some (pI (-1))) (shp0, rf0, h) := ⟨h, len, rfl, fun _ _ => rfl, rfl, hc⟩
    refine R_iload_n dX11_letPass_0 rfl (?_ : RR _ _ _ _ 1 _ _ _ _)
    refine R_if_lt (t := 10) dX11_letPass_1 rfl (fun c1 => ?_) (fun c1 => ?_)
    · first
      | (exfalso; omega)
      | (refine R_iconst dX11_letPass_10 (?_ : RR _ _ _ _ 11 _ _ _ _)
         exact R_ireturn dX11_letPass_11 trivial hq)
    · first
      | (exfalso; omega)
      | (refine R_iload_n dX11_letPass_4 rfl (?_ : RR _ _ _ _ 5 _ _ _ _)
         refine R_bipush dX11_letPass_5 rfl (?_ : RR _ _ _ _ 7 _ _ _ _)
         refine R_icmp_le (t := 12) dX11_letPass_7 rfl (fun c7 => ?_) (fun c7 => ?_)
         · first
           | (exfalso; omega)
           | (refine R_aload_n dX11_letPass_12 rfl (?_ : RR _ _ _ _ 13 _ _ _ _)
              refine R_getr dX11_letPass_13 flX11_36 cok_11 rfl (by decide) (?_ : RR _ _ _ _ 16 _ _ _ _)
              refine R_dup dX11_letPass_16 (fun _ => rfl) (?_ : RR _ _ _ _ 17 _ _ _ _)
              refine R_geti (z := 1) dX11_letPass_17 flX11_312 cok_9 rfl (by decide) rfl (fun q17 => (?_ : RR _ _ _ _ 20 _ _ _ _))
              refine R_iload_n dX11_letPass_20 rfl (?_ : RR _ _ _ _ 21 _ _ _ _)
              refine R_iadd dX11_letPass_21 (?_ : RR _ _ _ _ 22 _ _ _ _)
              refine R_puti (zk := 1) dX11_letPass_22 flX11_312 cok_9 (by decide) (fun q hq => by cases hq; rfl) rfl (?_ : RR _ _ _ _ 25 _ _ _ _)
              refine R_aload_n dX11_letPass_25 rfl (?_ : RR _ _ _ _ 26 _ _ _ _)
              refine R_getr dX11_letPass_26 flX11_36 cok_11 rfl (by decide) (?_ : RR _ _ _ _ 29 _ _ _ _)
              refine R_geti (z := 1) dX11_letPass_29 flX11_312 cok_9 rfl (by decide) rfl (fun q29 => (?_ : RR _ _ _ _ 32 _ _ _ _))
              exact R_ireturn dX11_letPass_32 trivial hq)
         · first
           | (exfalso; omega)
           | (refine R_iconst dX11_letPass_10 (?_ : RR _ _ _ _ 11 _ _ _ _)
              exact R_ireturn dX11_letPass_11 trivial hq))
theorem C_uncouple {n : Int} (hX : xOK X H) (hc : Cpl X H h 14 f len) (hn : r32 n) : RR mX11_uncouple 2 0 0 0 (pm_ent [pR 0, pI n] 2) [] (shp0, rf0, h) (aPo X H h (aCu X f n)) := by
  obtain ⟨hf, e0, e1, e2, e3, ep, ea, es⟩ := id hc
  have hln := xLn_eq hf
  have fl := hf.2.2.1
  have x6 := hX.2.2.2.1
  show RR _ _ _ _ _ [pR 0, pI n] _ _ _
  unfold aCu
  rw [hln]
  by_cases q : 1 ≤ n ∧ n ≤ len
  · rw [if_neg (fun z => z q)]
    obtain ⟨m, hm⟩ : ∃ m : Nat, (len : Int) - n = m := ⟨((len : Int) - n).toNat, by omega⟩
    rw [hm]
    have hq : aPo X H h ((m : Int), mlF f m (xC X)) (some (pI m)) (shp0, rf0, rup (rup (rup h 14 (fup (h 14) 3 m)) (14 + 2) (shF (h (14 + 1)) (-1) (h (14 + 2)) m (len - m))) (14 + 3) (shF (h (14 + 1)) (h 14 0) (h (14 + 3)) m (len - m))) := by
      refine ⟨_, m, rfl, fun a q => by rw [rup_n (by omega), rup_n (by omega), rup_n (by omega)], rfl, cpl_cut x6 hc (by omega) ?_ ?_ ?_ ?_ ?_⟩
      · simp (disch := omega) only [rup_n]
      · simp (disch := omega) only [rup_n, rup_s]
      · simp (disch := omega) only [rup_n, rup_s]
      · simp (disch := omega) only [rup_s]
      · simp (disch := omega) only [rup_n]
    have ho : ∀ j : Nat, j < len → 0 ≤ h (14 + 1) j ∧ h (14 + 1) j < 6 := fun j hj => by
      have := hf.2.2.2.1 j hj
      omega
    have hT := isTr_14
    refine R_iload_n dX11_uncouple_0 rfl (?_ : RR _ _ _ _ 1 _ _ _ _)
    refine R_iconst dX11_uncouple_1 (?_ : RR _ _ _ _ 2 _ _ _ _)
    refine R_icmp_lt (t := 16) dX11_uncouple_2 rfl (fun c2 => ?_) (fun c2 => ?_)
    · exfalso; omega
    refine R_iload_n dX11_uncouple_5 rfl (?_ : RR _ _ _ _ 6 _ _ _ _)
    refine R_aload_n dX11_uncouple_6 rfl (?_ : RR _ _ _ _ 7 _ _ _ _)
    refine R_getr dX11_uncouple_7 flX11_36 cok_11 rfl (by decide) (?_ : RR _ _ _ _ 10 _ _ _ _)
    refine R_geti (z := 3) dX11_uncouple_10 flX11_451 cok_9 rfl (by decide) rfl (fun q10 => (?_ : RR _ _ _ _ 13 _ _ _ _))
    rw [e3] at q10 ⊢
    refine R_icmp_le (t := 18) dX11_uncouple_13 rfl (fun c13 => ?_) (fun c13 => ?_)
    rotate_left
    · exfalso; omega
    refine R_aload_n dX11_uncouple_18 rfl (?_ : RR _ _ _ _ 19 _ _ _ _)
    refine R_getr dX11_uncouple_19 flX11_36 cok_11 rfl (by decide) (?_ : RR _ _ _ _ 22 _ _ _ _)
    refine R_aload_n dX11_uncouple_22 rfl (?_ : RR _ _ _ _ 23 _ _ _ _)
    refine R_getr dX11_uncouple_23 flX11_36 cok_11 rfl (by decide) (?_ : RR _ _ _ _ 26 _ _ _ _)
    refine R_geti (z := 3) dX11_uncouple_26 flX11_451 cok_9 rfl (by decide) rfl (fun q26 => (?_ : RR _ _ _ _ 29 _ _ _ _))
    rw [e3] at q26 ⊢
    refine R_iload_n dX11_uncouple_29 rfl (?_ : RR _ _ _ _ 30 _ _ _ _)
    refine R_isub dX11_uncouple_30 (?_ : RR _ _ _ _ 31 _ _ _ _)
    rw [hm]
    refine R_cVi1 dX11_uncouple_31 mvX9_shorten mlX11_455 (by decide) (by decide) (Nat.le_of_ble_eq_true rfl) (Nat.le_of_ble_eq_true rfl) (T_X9_shorten (n := len) e3 ho) (?_ : RR _ _ _ _ 34 _ _ _ _)
    refine R_pop dX11_uncouple_34 (fun _ => rfl) (?_ : RR _ _ _ _ 35 _ _ _ _)
    refine R_aload_n dX11_uncouple_35 rfl (?_ : RR _ _ _ _ 36 _ _ _ _)
    refine R_getr dX11_uncouple_36 flX11_36 cok_11 rfl (by decide) (?_ : RR _ _ _ _ 39 _ _ _ _)
    refine R_geti (z := 3) dX11_uncouple_39 flX11_451 cok_9 rfl (by decide) rfl (fun q39 => (?_ : RR _ _ _ _ 42 _ _ _ _))
    simp (disch := omega) only [rup_n, rup_s, fup_s] at q39 ⊢
    exact R_ireturn dX11_uncouple_42 trivial hq
  · rw [if_pos q]
    have hq : aPo X H h (-1, f) (some (pI (-1))) (shp0, rf0, h) := ⟨h, len, rfl, fun _ _ => rfl, rfl, hc⟩
    refine R_iload_n dX11_uncouple_0 rfl (?_ : RR _ _ _ _ 1 _ _ _ _)
    refine R_iconst dX11_uncouple_1 (?_ : RR _ _ _ _ 2 _ _ _ _)
    refine R_icmp_lt (t := 16) dX11_uncouple_2 rfl (fun c2 => ?_) (fun c2 => ?_)
    · first
      | (exfalso; omega)
      | (refine R_iconst dX11_uncouple_16 (?_ : RR _ _ _ _ 17 _ _ _ _)
         exact R_ireturn dX11_uncouple_17 trivial hq)
    · first
      | (exfalso; omega)
      | (refine R_iload_n dX11_uncouple_5 rfl (?_ : RR _ _ _ _ 6 _ _ _ _)
         refine R_aload_n dX11_uncouple_6 rfl (?_ : RR _ _ _ _ 7 _ _ _ _)
         refine R_getr dX11_uncouple_7 flX11_36 cok_11 rfl (by decide) (?_ : RR _ _ _ _ 10 _ _ _ _)
         refine R_geti (z := 3) dX11_uncouple_10 flX11_451 cok_9 rfl (by decide) rfl (fun q10 => (?_ : RR _ _ _ _ 13 _ _ _ _))
         rw [e3] at q10 ⊢
         refine R_icmp_le (t := 18) dX11_uncouple_13 rfl (fun c13 => ?_) (fun c13 => ?_)
         · first
           | (exfalso; omega)
           | (exfalso; omega)
         · first
           | (exfalso; omega)
           | (refine R_iconst dX11_uncouple_16 (?_ : RR _ _ _ _ 17 _ _ _ _)
              exact R_ireturn dX11_uncouple_17 trivial hq))
theorem pop_z : ∀ (k s : Nat), s < 2 ^ k → pop k s = 0 → s = 0
  | 0, s, hs, _ => by simpa using hs
  | k + 1, s, hs, hp => by
    have hp : s % 2 + pop k (s / 2) = 0 := hp
    have := pop_z k (s / 2) (by rw [Nat.pow_succ] at hs; omega) (by omega)
    omega
theorem C_takeStanding (hX : xOK X H) (hc : Cpl X H h 14 f len) : RR mX11_takeStanding 2 0 0 0 (pm_ent [pR 0] 2) [] (shp0, rf0, h) (aPo X H h (aCo X f)) := by
  obtain ⟨hf, e0, e1, e2, e3, ep, ea, es⟩ := id hc
  have hln := xLn_eq hf
  have fl := hf.2.2.1
  have x6 := hX.2.2.2.1
  have f0 := hf.1
  have x2 := hX.2.1
  have hB : ∀ j : Nat, j < xC X → decide (h (14 + 2) j = -1 ∧ h (14 + 3) j = h 14 0) = stB f j := fun j hj => by
    unfold stB
    rw [ep j hj, e0]
    have := hf.2.2.2.2.1 j hj
    by_cases z : mP f j = -1
    · rw [ea j hj z]
      apply decide_eq_decide.mpr
      omega
    · rw [decide_eq_false (fun y => z y.1), decide_eq_false (by omega)]
  have tL : ∀ n : Nat, n ≤ xC X → tkL (fun j => decide (h (14 + 2) j = -1 ∧ h (14 + 3) j = h 14 0)) len n = tkL (stB f) len n := by
    intro n
    induction n with
    | zero => intro _; rfl
    | succ n ih =>
      intro hn
      rw [tkL_s, tkL_s, ih (by omega), hB n (by omega)]
  have tO : ∀ n : Nat, n ≤ xC X → tkO (fun j => decide (h (14 + 2) j = -1 ∧ h (14 + 3) j = h 14 0)) len (h (14 + 1)) n = tkO (stB f) len (h (14 + 1)) n := by
    intro n
    induction n with
    | zero => intro _; rfl
    | succ n ih =>
      intro hn
      rw [tkO_s, tkO_s, ih (by omega), hB n (by omega), tL n (by omega)]
  have tP : ∀ n : Nat, n ≤ xC X → tkP (fun j => decide (h (14 + 2) j = -1 ∧ h (14 + 3) j = h 14 0)) len (h (14 + 2)) n = tkP (stB f) len (h (14 + 2)) n := by
    intro n
    induction n with
    | zero => intro _; rfl
    | succ n ih =>
      intro hn
      show (if decide (h (14 + 2) n = -1 ∧ h (14 + 3) n = h 14 0) then _ else _) = (if stB f n then _ else _)
      rw [ih (by omega), hB n (by omega), tL n (by omega)]
  have hT := T_X9_takeStanding (t := 14) (nc := xC X) (l := len) e2 e3 (fun k hk hb => by
    have h1 : stB f k = true := by rw [← hB k hk]; exact decide_eq_true hb
    rw [tL k (by omega)]
    have := tkL_6 hf hk h1
    omega) (by rw [e0]; omega) (ht := isTr_14)
  rw [bset_congr hB, tL _ (Nat.le_refl _), tO _ (Nat.le_refl _), tP _ (Nat.le_refl _)] at hT
  have hb := bset_lt (stB f) (xC X)
  have hbl : bset (stB f) (xC X) < 2 ^ 12 := Nat.lt_of_lt_of_le hb (Nat.pow_le_pow_right (by omega) (by omega))
  have hz := pop_z 12 (bset (stB f) (xC X)) hbl
  have hpb := pop_bset (P := stB f) (n := xC X) (by omega)
  have hpb2 := sm_b (g := fun p : Nat => if stB f p then 1 else 0) (B := 1) (by omega) (fun p => by split <;> omega) (xC X)
  rw [← hpb] at hpb2
  show RR _ _ _ _ _ [pR 0, pU] _ _ _
  have hq : ∀ z : Int, z = (aCo X f).1 → aPo X H h (aCo X f) (some (pI z)) (shp0, rf0, rup (rup (rup h 14 (fup (h 14) 3 (tkL (stB f) len (xC X)))) (14 + 1) (tkO (stB f) len (h (14 + 1)) (xC X))) (14 + 2) (tkP (stB f) len (h (14 + 2)) (xC X))) := by
    intro z hz
    refine ⟨_, tkL (stB f) len (xC X), rfl, fun a q => by rw [rup_n (by omega), rup_n (by omega), rup_n (by omega)], by rw [hz], ?_⟩
    unfold aCo
    rw [hln]
    refine cpl_tk x6 hc ?_ ?_ ?_ ?_ ?_
    · simp (disch := omega) only [rup_n, rup_s]
    · simp (disch := omega) only [rup_n, rup_s]
    · simp (disch := omega) only [rup_s]
    · simp (disch := omega) only [rup_n]
    · simp (disch := omega) only [rup_n]
  by_cases q : bset (stB f) (xC X) = 0
  · have hq2 := hq (-2) (by unfold aCo; rw [if_pos q])
    rw [q, pop_0] at hT
    refine R_aload_n dX11_takeStanding_0 rfl (?_ : RR _ _ _ _ 1 _ _ _ _)
    refine R_getr dX11_takeStanding_1 flX11_36 cok_11 rfl (by decide) (?_ : RR _ _ _ _ 4 _ _ _ _)
    refine R_cVi0 dX11_takeStanding_4 mvX9_takeStanding mlX11_407 (by decide) (by decide) (Nat.le_of_ble_eq_true rfl) (Nat.le_of_ble_eq_true rfl) (hT) (?_ : RR _ _ _ _ 7 _ _ _ _)
    refine R_istore_n dX11_takeStanding_7 (Nat.le_of_ble_eq_true rfl) (?_ : RR _ _ _ _ 8 [_, _] _ _ _)
    refine R_iload_n dX11_takeStanding_8 rfl (?_ : RR _ _ _ _ 9 _ _ _ _)
    refine R_if_ne (t := 17) dX11_takeStanding_9 rfl (fun c9 => ?_) (fun c9 => ?_)
    · exfalso; omega
    refine R_bipush dX11_takeStanding_12 rfl (?_ : RR _ _ _ _ 14 _ _ _ _)
    refine R_goto (t := 18) dX11_takeStanding_14 rfl (?_ : RR _ _ _ _ 18 _ _ _ _)
    exact R_ireturn dX11_takeStanding_18 trivial hq2
  · have hq2 := hq (pop 12 (bset (stB f) (xC X)) : Int) (by unfold aCo; rw [if_neg q])
    refine R_aload_n dX11_takeStanding_0 rfl (?_ : RR _ _ _ _ 1 _ _ _ _)
    refine R_getr dX11_takeStanding_1 flX11_36 cok_11 rfl (by decide) (?_ : RR _ _ _ _ 4 _ _ _ _)
    refine R_cVi0 dX11_takeStanding_4 mvX9_takeStanding mlX11_407 (by decide) (by decide) (Nat.le_of_ble_eq_true rfl) (Nat.le_of_ble_eq_true rfl) (hT) (?_ : RR _ _ _ _ 7 _ _ _ _)
    refine R_istore_n dX11_takeStanding_7 (Nat.le_of_ble_eq_true rfl) (?_ : RR _ _ _ _ 8 [_, _] _ _ _)
    refine R_iload_n dX11_takeStanding_8 rfl (?_ : RR _ _ _ _ 9 _ _ _ _)
    refine R_if_ne (t := 17) dX11_takeStanding_9 rfl (fun c9 => ?_) (fun c9 => ?_)
    rotate_left
    · exfalso; omega
    refine R_iload_n dX11_takeStanding_17 rfl (?_ : RR _ _ _ _ 18 _ _ _ _)
    exact R_ireturn dX11_takeStanding_18 trivial hq2
end AC
