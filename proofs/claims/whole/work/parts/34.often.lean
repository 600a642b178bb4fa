def xLn (X : Cx) (f : Int → Int) : Nat := (sm (fun c => if 0 ≤ mP f c then 1 else 0) (xC X)).toNat
theorem xLn_eq {X : Cx} {H : Nat} {f ord : Int → Int} {len : Nat} (hf : fOK X H f ord len) : xLn X f = len := by
  unfold xLn
  rw [fOK_len hf]
  rfl
def xStep (X : Cx) (bh : Int) (f : Int → Int) : Int → Int := xRun X f (xLn X f) (xCrs X f bh)
def xIt (X : Cx) (bh : Int) : Nat → (Int → Int) → (Int → Int)
  | 0, f => f
  | n + 1, f => xIt X bh n (xStep X bh f)
theorem xStep_1 {X : Cx} {H : Nat} {f ord : Int → Int} {len : Nat} {bh : Int} (hX : xOK X H) (hf : fOK X H f ord len) : f 1 ≤ xStep X bh f 1 ∧ xStep X bh f 1 ≤ f 1 + 9 := by
  have hb := xCrs_b (X := X) (f := f) (bh := bh)
  have h0 := hf.1
  have h9 := hX.2.1
  unfold xStep xRun
  split
  · have := hX.2.2.2.2.2.1 (2 * f 0 + xCrs X f bh) (by omega) (by omega)
    rw [moF_lo (by omega), fup_n (by omega), fup_s]
    omega
  · rw [fup_s]
    omega
/-- rows that a run of the train at t by the rule at r leaves alone -/
def onF (t r : Nat) (h h' : Nat → Int → Int) : Prop := ∀ a, a ≠ t → a ≠ t + 2 → a ≠ t + 3 → a ≠ t + 4 → a ≠ 35 → ¬ (37 ≤ a ∧ a ≤ 43) → a ≠ r + 2 → h' a = h a
theorem onF_rf {t r : Nat} {h : Nat → Int → Int} : onF t r h h := fun _ _ _ _ _ _ _ _ => rfl
theorem onF_tr {t r : Nat} {h h1 h2 : Nat → Int → Int} (a : onF t r h h1) (b : onF t r h1 h2) : onF t r h h2 := fun x x1 x2 x3 x4 x5 x6 x7 => (b x x1 x2 x3 x4 x5 x6 x7).trans (a x x1 x2 x3 x4 x5 x6 x7)
/-- all that a run needs of the numbers -/
def CO (X : Cx) (H : Nat) (h : Nat → Int → Int) (n t r : Nat) : Prop := NetC X H h n ∧ RidC X h ∧ ruOK h r (xS X) ∧ exB (h (n + 1)) ∧ miB (h (n + 2)) ∧ bnd (h (n + 3)) ∧ (isTr t ∧ isNet n ∧ isRule r) ∧ (13 < t ∧ t + 4 < 29) ∧ n + 3 < 11 ∧ 29 ≤ r ∧ r + 2 < 35
theorem CO_fr {X : Cx} {H : Nat} {h h' : Nat → Int → Int} {n t r : Nat} (hc : CO X H h n t r) (hf : onF t r h h') : CO X H h' n t r := by
  obtain ⟨c1, c2, c3, c4, c5, c6, c7, c8, c9, c10, c11⟩ := hc
  have e1 := hf (n + 1) (by omega) (by omega) (by omega) (by omega) (by omega) (by omega) (by omega)
  have e2 := hf (n + 2) (by omega) (by omega) (by omega) (by omega) (by omega) (by omega) (by omega)
  have e3 := hf (n + 3) (by omega) (by omega) (by omega) (by omega) (by omega) (by omega) (by omega)
  have e11 := hf 11 (by omega) (by omega) (by omega) (by omega) (by omega) (by omega) (by omega)
  have e12 := hf 12 (by omega) (by omega) (by omega) (by omega) (by omega) (by omega) (by omega)
  have e13 := hf 13 (by omega) (by omega) (by omega) (by omega) (by omega) (by omega) (by omega)
  have er := hf r (by omega) (by omega) (by omega) (by omega) (by omega) (by omega) (by omega)
  have er1 := hf (r + 1) (by omega) (by omega) (by omega) (by omega) (by omega) (by omega) (by omega)
  refine ⟨?_, ?_, ?_, by rw [e1]; exact c4, by rw [e2]; exact c5, by rw [e3]; exact c6, c7, c8, c9, c10, c11⟩
  · unfold NetC
    rw [e1, e2, e3]
    exact c1
  · unfold RidC
    rw [e11, e12, e13]
    exact c2
  · unfold ruOK
    rw [er, er1]
    exact c3
section OF
variable {X : Cx} {H : Nat} {h : Nat → Int → Int} {n t r : Nat} {f : Int → Int} {len : Nat} {bh : Int}
/-- what a run tells -/
def onT (X : Cx) (f : Int → Int) (bh : Int) (r' : Option PV) (h' : Nat → Int → Int) : Prop := (∀ j, 0 ≤ j ∧ j < 3 → h' 40 j = poS (ridP f) (xV X f) (xWi X f) (xP X) j) ∧
    r' = some (pI (if xCrs X f bh ≠ 2 ∧ 0 ≤ xE X (2 * f 0 + xCrs X f bh) then xCrs X f bh else 2)) ∧
    h' 35 3 = xStep X bh f 1 - f 1 ∧
    h' 35 2 = (bset (fun p => decide (mS f p ≠ -1 ∧ mS (xStep X bh f) p = -1)) (xP X) : Int) ∧
    h' 35 1 = (if xCrs X f bh ≠ 2 ∧ 0 ≤ xE X (2 * f 0 + xCrs X f bh) then (bset (lefP f (xAl X f (xLn X f) (xCrs X f bh))) (xC X) : Int) else 0)
theorem C_once (hX : xOK X H) (hC : CO X H h n t r) (hc : Cpl X H h t f len) (hnow : f 1 ≤ 2000000000) (hbh : bh = 0 ∨ bh = 1) : RR mX5_once 4 0 0 0 (pm_ent [pR 35, pR n, pR t, pR 11, pR r, pI bh] 8) [] (shp0, rf0, h) (fun r' g' => ∃ h' len', g' = (shp0, rf0, h') ∧ onF t r h h' ∧ Cpl X H h' t (xStep X bh f) len' ∧ onT X f bh r' h') := by
  obtain ⟨c1, c2, c3, c4, c5, c6, ⟨t1, t2, t3⟩, c8, c9, c10, c11⟩ := id hC
  obtain ⟨hf, e0, e1, e2, e3, ep, ea, es⟩ := id hc
  obtain ⟨x1, x2, x3, x4, x5, x6, x7, x8, x9⟩ := id hX
  obtain ⟨f0, f1, fl, fo, fp, fs⟩ := id hf
  have hln := xLn_eq hf
  refine RR.post (T_X5_once (sem := xS X) (np := xP X) (len := len) c2.1 c4 c5 c6 (fun j hj => ?_) (fun j hj hn => ?_) (fun j hj => ?_) (by rw [e1]; omega) (by rw [e0]; omega) c3 e3 (fun j hj => ?_)) (fun r' g' hq => ?_)
  · rw [es j hj]
    have := fs j hj
    omega
  · rw [es j hj] at hn ⊢
    have := fs j hj
    rw [cpl_hal hc (by omega) (by omega)]
    have := fOK_hal hf (c := mS f j) (by omega) (by omega)
    omega
  · rw [(c2.2 j hj).1]
    have := x9 j hj
    omega
  · have := fo j hj
    omega
  · obtain ⟨h', rfl, hp⟩ := hq
    obtain ⟨len', q1, q2, q3, q4, q5, q6⟩ := cpl_run hX hc c1 c2 hp c8 ⟨c10, c11⟩
    refine ⟨h', len', rfl, hp.1, ?_, q2, q3, ?_, ?_, ?_⟩
    · unfold xStep
      rw [hln]
      exact q1
    · unfold xStep
      rw [hln]
      exact q4
    · unfold xStep
      rw [hln]
      exact q5
    · rw [hln]
      exact q6
/-- if the rule doesn't look at the clock, a train that stays, stays -/
def noN (sem : Sem) : Prop := ∀ a b c d e x y : Int, sem a b c d e x = sem a b c d e y
theorem xV_now {z : Int} (hn : noN (xS X)) {p : Nat} (h6 : xC X ≤ 6) (hs : mS f p = -1 ∨ (0 ≤ mS f p ∧ mS f p < xC X)) : xV X (fup f 1 z) p = xV X f p := by
  unfold xV vtS
  have eS : ∀ q : Nat, mS (fup f 1 z) q = mS f q := fun q => fup_mS (by omega)
  rw [eS p]
  by_cases q : mS f p = -1
  · rw [if_pos q, if_pos q]
  · rw [if_neg q, if_neg q]
    obtain ⟨c, hc⟩ := Int.eq_ofNat_of_zero_le (show 0 ≤ mS f p by omega)
    rw [hc, cn_congr (fun p _ => eS p), fup_n (by omega)]
    have eh : halS (f 0) (mP (fup f 1 z)) (mA (fup f 1 z)) c = halS (f 0) (mP f) (mA f) c := by
      unfold halS
      show (if mP (fup f 1 z) (c : Int) = -1 then mA (fup f 1 z) (c : Int) else _) = _
      rw [fup_mP (by omega), fup_mA (by omega)]
    have epp : mP (fup f 1 z) (c : Int) = mP f c := fup_mP (by omega)
    show max 0 (min 99 (xS X (xR X p) (c : Int) _ (thd _ (halS (f 0) (mP (fup f 1 z)) (mA (fup f 1 z)) c) _) (if mP (fup f 1 z) (c : Int) = -1 then 9 else mP (fup f 1 z) (c : Int)) _)) = max 0 (min 99 (xS X (xR X p) (c : Int) _ (thd _ (halS (f 0) (mP f) (mA f) c) _) (if mP f (c : Int) = -1 then 9 else mP f (c : Int)) _))
    rw [eh, epp, hn]
theorem xWi_now {z : Int} {p : Nat} (hs : mS f p = -1 ∨ (0 ≤ mS f p ∧ mS f p < xC X)) : xWi X (fup f 1 z) p = xWi X f p := by
  unfold xWi wiS
  have eS : ∀ q : Nat, mS (fup f 1 z) q = mS f q := fun q => fup_mS (by omega)
  rw [eS p]
  by_cases q : mS f p = -1
  · rw [if_pos q, if_pos q]
  · rw [if_neg q, if_neg q]
    obtain ⟨c, hc⟩ := Int.eq_ofNat_of_zero_le (show 0 ≤ mS f p by omega)
    rw [hc, fup_n (by omega)]
    have eh : halS (f 0) (mP (fup f 1 z)) (mA (fup f 1 z)) c = halS (f 0) (mP f) (mA f) c := by
      unfold halS
      show (if mP (fup f 1 z) (c : Int) = -1 then mA (fup f 1 z) (c : Int) else _) = _
      rw [fup_mP (by omega), fup_mA (by omega)]
    show wishS _ _ _ (halS (f 0) (mP (fup f 1 z)) (mA (fup f 1 z)) c) _ = _
    rw [eh]
theorem xVote_now {z : Int} {ord : Int → Int} (hn : noN (xS X)) (hX : xOK X H) (hf : fOK X H f ord len) {P P' : Nat → Bool} (hP : ∀ p, p < xP X → P p = P' p) : xVote X (fup f 1 z) P = xVote X f P' := by
  have key : ∀ j, poS P (xV X (fup f 1 z)) (xWi X (fup f 1 z)) (xP X) j = poS P' (xV X f) (xWi X f) (xP X) j := fun j => sm_congr (fun p hp => by
    have hs := hf.2.2.2.2.2 p hp
    rw [xV_now hn hX.2.2.2.1 (by omega), xWi_now (by omega), hP p hp])
  unfold xVote
  rw [key 0, key 1, key 2]
theorem xCrs_now {z : Int} {ord : Int → Int} (hn : noN (xS X)) (hX : xOK X H) (hf : fOK X H f ord len) : xCrs X (fup f 1 z) bh = xCrs X f bh := by
  have h6 := hX.2.2.2.1
  have eS : ∀ q : Nat, mS (fup f 1 z) q = mS f q := fun q => fup_mS (by omega)
  unfold xCrs
  have e1 : xVote X (fup f 1 z) (ridP (fup f 1 z)) = xVote X f (ridP f) := xVote_now hn hX hf (fun p hp => by
    unfold ridP
    rw [eS p]
    have hs := hf.2.2.2.2.2 p hp
    by_cases q : mS f p = -1
    · rw [decide_eq_false (by omega), decide_eq_false (by omega)]
    · obtain ⟨c, hc⟩ := Int.eq_ofNat_of_zero_le (show 0 ≤ mS f p by omega)
      rw [hc]
      have epp : mP (fup f 1 z) (c : Int) = mP f c := fup_mP (by omega)
      show decide (_ ∧ 0 ≤ mP (fup f 1 z) (c : Int)) = _
      rw [epp])
  have e2 : ∀ j, xHd X (fup f 1 z) j = xHd X f j := fun j => sm_congr (fun c hc => by
    have epp : mP (fup f 1 z) (c : Int) = mP f c := fup_mP (by omega)
    have e3 : xVote X (fup f 1 z) (fun p => decide (mS (fup f 1 z) p = (c : Int))) = xVote X f (fun p => decide (mS f p = (c : Int))) := xVote_now hn hX hf (fun p hp => by rw [eS p])
    rw [epp, e3])
  rw [e1, e2 0, e2 1, e2 2]
theorem xLn_now {z : Int} : xLn X (fup f 1 z) = xLn X f := by
  unfold xLn
  congr 1
  refine sm_congr (fun c hc => ?_)
  rw [fup_mP (by omega)]
theorem xIt_stay {ord : Int → Int} (hn : noN (xS X)) (hX : xOK X H) : ∀ (k : Nat) (f : Int → Int), fOK X H f ord len → ¬ (xCrs X f bh ≠ 2 ∧ 0 ≤ xE X (2 * f 0 + xCrs X f bh)) → xIt X bh k f = fup f 1 (f 1 + k)
  | 0, f, _, _ => by
    show f = fup f 1 (f 1 + 0)
    rw [Int.add_zero, fup_self]
  | k + 1, f, hf, hst => by
    have e1 : xStep X bh f = fup f 1 (f 1 + 1) := by
      unfold xStep xRun
      rw [if_neg hst]
    show xIt X bh k (xStep X bh f) = _
    have f1 := hf.2.1
    rw [e1, xIt_stay hn hX k _ (fOK_stay hf (by omega)) (by rw [xCrs_now hn hX hf, fup_n (by omega)]; exact hst), fup_s, fup_fup]
    congr 1
    omega
end OF
