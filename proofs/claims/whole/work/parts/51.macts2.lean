/-! the other's acts, in the same words -/
def okF (X : Cx) (H : Nat) (f : Int → Int) : Prop := ∃ ord len, fOK X H f ord len
section MB
variable {X : Cx} {H : Nat} {f : Int → Int}
theorem okF_h (hf : okF X H f) : ∃ (h : Nat → Int → Int) (len : Nat), Cpl X H h 14 f len ∧ RidC X h := by
  obtain ⟨ord, len, hf⟩ := hf
  refine ⟨fun a => if a = 14 then fup (fup (fup (fup (fun _ => 0) 0 (f 0)) 1 (f 1)) 2 (xC X)) 3 len else if a = 15 then ord else if a = 16 then mP f else if a = 17 then mA f else if a = 18 then mS f else if a = 11 then fun _ => xP X else if a = 12 then xW X else xR X, len, ⟨hf, ?_, ?_, ?_, ?_, fun c hc => rfl, fun c hc _ => rfl, fun p hp => rfl⟩, rfl, fun p hp => ⟨rfl, rfl⟩⟩
  · show fup (fup (fup (fup (fun _ => 0) 0 (f 0)) 1 (f 1)) 2 (xC X)) 3 len 0 = f 0
    simp (disch := omega) only [fup_n, fup_s]
  · show fup (fup (fup (fup (fun _ => 0) 0 (f 0)) 1 (f 1)) 2 (xC X)) 3 len 1 = f 1
    simp (disch := omega) only [fup_n, fup_s]
  · show fup (fup (fup (fup (fun _ => 0) 0 (f 0)) 1 (f 1)) 2 (xC X)) 3 len 2 = xC X
    simp (disch := omega) only [fup_n, fup_s]
  · show fup (fup (fup (fup (fun _ => 0) 0 (f 0)) 1 (f 1)) 2 (xC X)) 3 len 3 = len
    simp (disch := omega) only [fup_n, fup_s]
theorem okF_c {h : Nat → Int → Int} {t len : Nat} (hc : Cpl X H h t f len) : okF X H f := ⟨_, _, hc.1⟩
theorem ok_len (hf : okF X H f) : sm (fun c => if 0 ≤ mP f c then 1 else 0) (xC X) = xLn X f ∧ xLn X f ≤ xC X := by
  obtain ⟨ord, len, hf⟩ := hf
  rw [xLn_eq hf]
  exact ⟨fOK_len hf, hf.2.2.1⟩
theorem ok_go {x n : Int} (hX : xOK X H) (hf : okF X H f) : okF X H (aGo X f x n).2 := by
  obtain ⟨h, len, hc, hr⟩ := okF_h hf
  unfold aGo
  split
  · exact hf
  · rename_i q
    split
    · exact hf
    · have q : (0 ≤ x ∧ x ≤ 1) ∧ 0 ≤ n ∧ n ≤ xLn X f := Decidable.not_not.mp q
      rw [xLn_eq hc.1] at q
      exact ⟨_, _, fOK_go hX hc.1 (a := n.toNat) (by omega) (by omega) (by omega)⟩
theorem ok_cut {n : Int} (hX : xOK X H) (hf : okF X H f) : okF X H (aCu X f n).2 := by
  obtain ⟨h, len, hc, hr⟩ := okF_h hf
  unfold aCu
  split
  · exact hf
  · rename_i q
    have q : 1 ≤ n ∧ n ≤ xLn X f := Decidable.not_not.mp q
    rw [xLn_eq hc.1] at q ⊢
    obtain ⟨m, hm⟩ : ∃ m : Nat, (len : Int) - n = m := ⟨((len : Int) - n).toNat, by omega⟩
    rw [hm]
    have k1 := cpl_cut (a := m) (h' := rup (rup (rup h 14 (fup (h 14) 3 m)) (14 + 2) (shF (h (14 + 1)) (-1) (h (14 + 2)) m (len - m))) (14 + 3) (shF (h (14 + 1)) (h 14 0) (h (14 + 3)) m (len - m))) hX.2.2.2.1 hc (by omega) (by simp (disch := omega) only [rup_n]) (by simp (disch := omega) only [rup_n, rup_s]) (by simp (disch := omega) only [rup_n, rup_s]) (by simp (disch := omega) only [rup_s]) (by simp (disch := omega) only [rup_n])
    exact ⟨_, _, k1.1⟩
theorem ok_tk (hX : xOK X H) (hf : okF X H f) : okF X H (aCo X f).2 := by
  obtain ⟨h, len, hc, hr⟩ := okF_h hf
  unfold aCo
  rw [xLn_eq hc.1]
  have k1 := cpl_tk (h' := rup (rup (rup h 14 (fup (h 14) 3 (tkL (stB f) len (xC X)))) (14 + 1) (tkO (stB f) len (h (14 + 1)) (xC X))) (14 + 2) (tkP (stB f) len (h (14 + 2)) (xC X))) hX.2.2.2.1 hc (by simp (disch := omega) only [rup_n, rup_s]) (by simp (disch := omega) only [rup_n, rup_s]) (by simp (disch := omega) only [rup_s]) (by simp (disch := omega) only [rup_n]) (by simp (disch := omega) only [rup_n])
  exact ⟨_, _, k1.1⟩
theorem ok_st {n : Int} (hf : okF X H f) : okF X H (aSt f n).2 := by
  obtain ⟨ord, len, hf'⟩ := id hf
  unfold aSt
  split
  · exact hf
  · rename_i q
    have q : 0 ≤ n ∧ n ≤ 99 := Decidable.not_not.mp q
    have := hf'.2.1
    exact ⟨_, _, fOK_stay hf' (by omega)⟩
theorem ok_seat {p c : Nat} (hX : xOK X H) (hf : okF X H f) (hcc : c < xC X) (hpp : p < xP X) (hin : mS f p ≠ -1) (h1 : 0 ≤ mP f (mS f p)) (h2 : 0 ≤ mP f c) : okF X H (fup f (14 + p) c) := by
  obtain ⟨h, len, hc, hr⟩ := okF_h hf
  exact okF_c (cpl_seat hX.2.2.2.1 hc hcc hpp hin h1 h2)
theorem ok_wa {p c : Int} (hX : xOK X H) (hf : okF X H f) : okF X H (aWa X f p c).2 := by
  obtain ⟨ord, len, hf'⟩ := id hf
  unfold aWa
  split
  · exact hf
  · rename_i q
    have q : (0 ≤ p ∧ p < xP X) ∧ 0 ≤ c ∧ c < xC X := Decidable.not_not.mp q
    split
    · exact hf
    · rename_i q2
      split
      · exact hf
      · rename_i q3
        have q3 : mP f (mS f p) ≠ -1 ∧ mP f c ≠ -1 ∧ iAbs (mP f (mS f p) - mP f c) = 1 := Decidable.not_not.mp q3
        obtain ⟨p', hp'⟩ := Int.eq_ofNat_of_zero_le q.1.1
        obtain ⟨c', hc'⟩ := Int.eq_ofNat_of_zero_le q.2.1
        subst hp'
        subst hc'
        have h1 := hf'.2.2.2.2.2 p' (by omega)
        have h2 := fOK_pl hf' (c := mS f p') (by omega) (by omega)
        have h3 := fOK_pl hf' (c := (c' : Int)) (by omega) (by omega)
        obtain ⟨ord2, len2, hf2⟩ := ok_seat (p := p') (c := c') hX hf (by omega) (by omega) q2 (by omega) (by omega)
        have := hf'.2.1
        exact ⟨ord2, len2, fOK_stay hf2 (by omega)⟩
theorem ok_run {bh : Int} (hX : xOK X H) (hf : okF X H f) : okF X H (xStep X bh f) := by
  obtain ⟨ord, len, hf'⟩ := id hf
  have hb := xCrs_b (X := X) (f := f) (bh := bh)
  unfold xStep xRun
  rw [xLn_eq hf']
  split
  · rename_i q
    have hal := algS_b (fun i => decide (xVote X f (fun p => decide (mS f p = caS f i (xC X))) = xCrs X f bh)) len 0
    have hale : xAl X f len (xCrs X f bh) ≤ len := by unfold xAl; omega
    exact ⟨_, _, fOK_go hX hf' hale (by omega) q.2⟩
  · have := hf'.2.1
    exact ⟨_, _, fOK_stay hf' (by omega)⟩
theorem ok_it {bh : Int} (hX : xOK X H) : ∀ (n : Nat) (f : Int → Int), okF X H f → okF X H (xIt X bh n f)
  | 0, f, hf => hf
  | n + 1, f, hf => ok_it hX n (xStep X bh f) (ok_run hX hf)
theorem xIt_1 {bh : Int} (hX : xOK X H) : ∀ (n : Nat) (f : Int → Int), okF X H f → xIt X bh n f 1 ≤ f 1 + 9 * n
  | 0, f, hf => by show f 1 ≤ f 1 + 9 * 0; omega
  | n + 1, f, hf => by
    obtain ⟨ord, len, hf'⟩ := id hf
    have h1 := xIt_1 (bh := bh) hX n (xStep X bh f) (ok_run hX hf)
    have h2 := xStep_1 (bh := bh) hX hf'
    show xIt X bh n (xStep X bh f) 1 ≤ _
    omega
/-- nothing outside a row's 26 numbers changes -/
theorem mlF_oor {a : Int} {n : Nat} (hn : n ≤ 6) : oor (mlF f a n) f := fun j hj => by
  unfold mlF
  rw [if_neg (by omega)]
theorem moF_oor {w : Int → Int} {n : Nat} (hn : n ≤ 12) : oor (moF w f n) f := fun j hj => by
  unfold moF
  rw [if_neg (by omega)]
theorem fup_oor {i z : Int} (hi : 0 ≤ i ∧ i < 26) : oor (fup f i z) f := fun j hj => fup_n (by omega)
theorem oor_tr {f g e : Int → Int} (a : oor f g) (b : oor g e) : oor f e := fun j q => (a j q).trans (b j q)
theorem xGo_oor {a : Nat} {e : Int} (h6 : xC X ≤ 6) (h12 : xP X ≤ 12) : oor (xGo X f a e) f := oor_tr (moF_oor h12) (oor_tr (fup_oor (by omega)) (oor_tr (fup_oor (by omega)) (mlF_oor h6)))
theorem xStep_oor {bh : Int} (h6 : xC X ≤ 6) (h12 : xP X ≤ 12) : oor (xStep X bh f) f := by
  unfold xStep xRun
  split
  · exact xGo_oor h6 h12
  · exact fup_oor (by omega)
theorem xIt_oor {bh : Int} (h6 : xC X ≤ 6) (h12 : xP X ≤ 12) : ∀ (n : Nat) (f : Int → Int), oor (xIt X bh n f) f
  | 0, f => fun _ _ => rfl
  | n + 1, f => oor_tr (xIt_oor h6 h12 n (xStep X bh f)) (xStep_oor h6 h12)
theorem mcF_oor {B : Nat → Bool} {l : Nat} : ∀ {n : Nat}, n ≤ 6 → oor (mcF B l f n) f
  | 0, _ => fun _ _ => rfl
  | n + 1, hn => by
    unfold mcF
    split
    · exact oor_tr (fup_oor (by omega)) (mcF_oor (by omega))
    · exact mcF_oor (by omega)
end MB
def mPo (r : Nat) (h : Nat → Int → Int) (w : Int × (Int → Int)) (r' : Option PV) (g' : PH) : Prop := ∃ h', g' = (shp0, rf0, h') ∧ (∀ a, a ≠ 147 → a ≠ r → a ≠ 160 → a ≠ 161 → a ≠ 162 → h' a = h a) ∧ h' r = w.2 ∧ r' = some (pI w.1) ∧ (∀ j : Int, j ≠ 30 → h' 147 j = h 147 j) ∧ 0 ≤ h' 147 30 ∧ h' 147 30 < 64
/-- what the other needs -/
def MBk (sem : Sem) (h : Nat → Int → Int) (r H np nc : Nat) : Prop := xOK (cxM sem h np nc) H ∧ okF (cxM sem h np nc) H (h r) ∧ mrOK h sem ∧ h 147 5 = np ∧ h 147 4 = nc ∧ h r 1 ≤ 2000000000 ∧ (0 ≤ h 147 30 ∧ h 147 30 < 64) ∧ isRw r ∧ (r = 154 ∨ r = 155)
section MC
variable {sem : Sem} {h : Nat → Int → Int} {r H np nc : Nat}
theorem mPo_mt {M : PMt} {d : Nat} {As : List PV} {w : Int × (Int → Int)} {h' : Nat → Int → Int} (hm : MT M d As h (some (pI w.1)) h') (h1 : ∀ a, a ≠ 147 → a ≠ r → h' a = h a) (h2 : h' r = w.2) (h3 : ∀ j : Int, j ≠ 30 → h' 147 j = h 147 j) (h4 : 0 ≤ h' 147 30 ∧ h' 147 30 < 64) : RR M d 0 0 0 (pm_ent As M.2.2.1) [] (shp0, rf0, h) (mPo r h w) := RR.post hm (fun r' g' q => by
  obtain ⟨rfl, rfl⟩ := q
  exact ⟨h', rfl, fun a a1 a2 _ _ _ => h1 a a1 a2, h2, rfl, h3, h4⟩)
theorem M_goes {x n : Int} (hB : MBk sem h r H np nc) (hx : r32 x) (hn : r32 n) : RR mX12_goes 4 0 0 0 (pm_ent [pR 147, pR r, pI x, pI n] 5) [] (shp0, rf0, h) (mPo r h (aGo (cxM sem h np nc) (h r) x n)) := by
  obtain ⟨hX, hf, hm, hnp, hnc, hnow, hL, hr, hrb⟩ := hB
  obtain ⟨hl1, hl2⟩ := ok_len hf
  have hl1 : sm (fun c => if 0 ≤ mP (h r) c then 1 else 0) nc = xLn (cxM sem h np nc) (h r) := hl1
  have hl2 : xLn (cxM sem h np nc) (h r) ≤ nc := hl2
  have x4 : nc ≤ 6 := hX.2.2.2.1
  have x12 : np ≤ 12 := hX.2.2.1
  have x9 := hX.2.1
  obtain ⟨ord, len, f0, f1, -, -, -, fs⟩ := id hf
  unfold aGo
  generalize xLn (cxM sem h np nc) (h r) = l at hl1 hl2 ⊢
  by_cases q : (0 ≤ x ∧ x ≤ 1) ∧ 0 ≤ n ∧ n ≤ l
  · rw [if_neg (fun z => z q)]
    by_cases q2 : h 149 (2 * h r 0 + x) < 0
    · rw [if_pos (show xE (cxM sem h np nc) (2 * h r 0 + x) < 0 from q2)]
      exact mPo_mt (w := (-2, h r)) (T_X12_goes_shut q.1 q.2 (by omega) (by omega) hnc hl1) (fun _ _ _ => rfl) rfl (fun _ _ => rfl) hL
    · rw [if_neg (show ¬ xE (cxM sem h np nc) (2 * h r 0 + x) < 0 from q2)]
      obtain ⟨a, ha⟩ : ∃ a : Nat, n = a := ⟨n.toNat, by omega⟩
      subst ha
      rw [Int.toNat_natCast]
      have hT := T_X12_goes_yes (h := h) (r := r) (x := x) (k := a) (np := np) (nc := nc) (len := l) (L := (h 147 30).toNat) q.1 (by omega) (by omega) hX.2.2.2.2.2.1 (by omega) ⟨f1, hnow⟩ hnc hnp (by omega) (by omega) (fun j hj => by
        have h1 : mS (h r) j = -1 ∨ (0 ≤ mS (h r) j ∧ mS (h r) j < nc ∧ _) := fs j hj
        omega) hl1
      rw [show h r 1 + h 150 (2 * h r 0 + x) - h r 1 = h 150 (2 * h r 0 + x) by omega] at hT
      refine mPo_mt (w := (h 150 (2 * h r 0 + x), _)) hT (fun b b1 b2 => by rw [rup_n b2, rup_n b1]) (by rw [rup_s]; rfl) (fun j hj => by rw [rup_n (by omega), rup_s, fup_n hj]) ?_
      have := or_64 (P := lefP (h r) a) (L := (h 147 30).toNat) (n := nc) (by omega) x4
      rw [rup_n (by omega), rup_s, fup_s]
      omega
  · rw [if_pos q]
    exact mPo_mt (w := (-1, h r)) (T_X12_goes_no q hnc hl1) (fun _ _ _ => rfl) rfl (fun _ _ => rfl) hL
theorem M_couples (hB : MBk sem h r H np nc) : RR mX12_couples 2 0 0 0 (pm_ent [pR 147, pR r] 4) [] (shp0, rf0, h) (mPo r h (aCo (cxM sem h np nc) (h r))) := by
  obtain ⟨hX, hf, hm, hnp, hnc, hnow, hL, hr, hrb⟩ := hB
  obtain ⟨hl1, hl2⟩ := ok_len hf
  have x4 : nc ≤ 6 := hX.2.2.2.1
  have hl2 : xLn (cxM sem h np nc) (h r) ≤ nc := hl2
  obtain ⟨ord, len, f0, -⟩ := id hf
  have x9 := hX.2.1
  exact mPo_mt (w := aCo (cxM sem h np nc) (h r)) (T_X12_couples (nc := nc) hnc hl1 (by omega)) (fun b b1 b2 => by rw [rup_n b2]) (by rw [rup_s]; rfl) (fun j hj => by rw [rup_n (by omega)]) (by rw [rup_n (by omega)]; exact hL)
theorem M_cuts {n : Int} (hB : MBk sem h r H np nc) (hn : r32 n) : RR mX12_cuts 4 0 0 0 (pm_ent [pR 147, pR r, pI n] 3) [] (shp0, rf0, h) (mPo r h (aCu (cxM sem h np nc) (h r) n)) := by
  obtain ⟨hX, hf, hm, hnp, hnc, hnow, hL, hr, hrb⟩ := hB
  obtain ⟨hl1, hl2⟩ := ok_len hf
  have hl1 : sm (fun c => if 0 ≤ mP (h r) c then 1 else 0) nc = xLn (cxM sem h np nc) (h r) := hl1
  have hl2 : xLn (cxM sem h np nc) (h r) ≤ nc := hl2
  have x4 : nc ≤ 6 := hX.2.2.2.1
  have hok := ok_cut (n := n) hX hf
  unfold aCu at hok ⊢
  generalize hl : xLn (cxM sem h np nc) (h r) = l at hl1 hl2 hok ⊢
  by_cases q : 1 ≤ n ∧ n ≤ l
  · rw [if_neg (fun z => z q)] at hok ⊢
    obtain ⟨a, ha⟩ : ∃ a : Nat, n = a := ⟨n.toNat, by omega⟩
    subst ha
    have k2 := (ok_len hok).1
    have hT := T_X12_cuts_yes (h := h) (r := r) (k := a) (nc := nc) (len := l) (L := (h 147 30).toNat) (by omega) hnc (by omega) (by omega) hl1 (by
      have hf' := hf
      obtain ⟨hh, ln, hc, hr'⟩ := okF_h hf
      have e1 := xLn_eq hc.1
      rw [hl] at e1
      subst e1
      have k1 := cpl_cut (a := l - a) (h' := rup (rup (rup hh 14 (fup (hh 14) 3 ((l - a : Nat) : Int))) (14 + 2) (shF (hh (14 + 1)) (-1) (hh (14 + 2)) (l - a) (l - (l - a)))) (14 + 3) (shF (hh (14 + 1)) (hh 14 0) (hh (14 + 3)) (l - a) (l - (l - a)))) hX.2.2.2.1 hc (by omega) (by simp (disch := omega) only [rup_n]) (by simp (disch := omega) only [rup_n, rup_s]) (by simp (disch := omega) only [rup_n, rup_s]) (by simp (disch := omega) only [rup_s]) (by simp (disch := omega) only [rup_n])
      have k3 := fOK_len k1.1
      rw [show ((l - a : Nat) : Int) = (l : Int) - a by omega] at k3
      rw [show ((l - a : Nat) : Int) = (l : Int) - a by omega]
      exact k3)
    rw [show ((l - a : Nat) : Int) = (l : Int) - a by omega] at hT
    refine mPo_mt (w := ((l : Int) - a, _)) hT (fun b b1 b2 => by rw [rup_n b2, rup_n b1]) (by rw [rup_s]; rfl) (fun j hj => by rw [rup_n (by omega), rup_s, fup_n hj]) ?_
    have := or_64 (P := lefP (h r) ((l : Int) - a)) (L := (h 147 30).toNat) (n := nc) (by omega) x4
    rw [rup_n (by omega), rup_s, fup_s]
    omega
  · rw [if_pos q]
    exact mPo_mt (w := (-1, h r)) (T_X12_cuts_no q hnc hl1) (fun _ _ _ => rfl) rfl (fun _ _ => rfl) hL
theorem M_runs (hB : MBk sem h r H np nc) : RR mX12_runs 8 0 0 0 (pm_ent [pR 147, pR r] 2) [] (shp0, rf0, h) (fun r' g' => mPo r h (aRu (cxM sem h np nc) (h r)) r' g' ∧ ∃ h', g' = (shp0, rf0, h') ∧ h' 147 30 = (if xCrs (cxM sem h np nc) (h r) 0 ≠ 2 ∧ 0 ≤ h 149 (2 * h r 0 + xCrs (cxM sem h np nc) (h r) 0) then (bset (lefP (h r) (xAl (cxM sem h np nc) (h r) (xLn (cxM sem h np nc) (h r)) (xCrs (cxM sem h np nc) (h r) 0))) nc : Int) else 0)) := by
  obtain ⟨hX, hf, hm, hnp, hnc, hnow, hL, hr, hrb⟩ := hB
  obtain ⟨ord, len, hf'⟩ := id hf
  have hln := xLn_eq hf'
  have x4 : nc ≤ 6 := hX.2.2.2.1
  refine RR.post (T_X12_runs hX hf' hm hnp hnc hnow) (fun r' g' q => ?_)
  obtain ⟨h', rfl, p1, p2, p3, p4⟩ := q
  have h30 : h' 147 30 = (if xCrs (cxM sem h np nc) (h r) 0 ≠ 2 ∧ 0 ≤ h 149 (2 * h r 0 + xCrs (cxM sem h np nc) (h r) 0) then (bset (lefP (h r) (xAl (cxM sem h np nc) (h r) len (xCrs (cxM sem h np nc) (h r) 0))) nc : Int) else 0) := by
    rw [p4, fup_s]
    rfl
  refine ⟨⟨h', rfl, p1, ?_, ?_, fun j hj => by rw [p4, fup_n hj], ?_⟩, h', rfl, ?_⟩
  · rw [p2]
    unfold aRu xStep
    rw [hln]
  · rw [p3]
    rfl
  · rw [h30]
    have := or_64 (P := lefP (h r) (xAl (cxM sem h np nc) (h r) len (xCrs (cxM sem h np nc) (h r) 0))) (L := 0) (n := nc) (by omega) x4
    rw [Nat.zero_or] at this
    split <;> omega
  · rw [h30, hln]
end MC
