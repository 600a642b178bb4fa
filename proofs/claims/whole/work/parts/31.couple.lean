theorem mlF_mP {f : Int → Int} {a : Int} {n c : Nat} (hc : c < n) : mP (mlF f a n) c = if a ≤ mP f c then -1 else mP f c := by
  show mlF f a n (2 + 2 * c + 1) = _
  unfold mlF
  rw [show (2 + 2 * (c : Int) + 1 - 2) / 2 = c by omega]
  by_cases q : a ≤ mP f c
  · rw [if_pos (by omega), if_neg (by omega), if_pos q]
  · rw [if_neg (fun z => q z.2.2), if_neg q]
    rfl
theorem mlF_mA {f : Int → Int} {a : Int} {n c : Nat} (hc : c < n) : mA (mlF f a n) c = if a ≤ mP f c then f 0 else mA f c := by
  show mlF f a n (2 + 2 * c + 0) = _
  unfold mlF
  rw [show (2 + 2 * (c : Int) + 0 - 2) / 2 = c by omega]
  by_cases q : a ≤ mP f c
  · rw [if_pos (by omega), if_pos (by omega), if_pos q]
  · rw [if_neg (fun z => q z.2.2), if_neg q]
    rfl
theorem mlF_mS {f : Int → Int} {a : Int} {n p : Nat} (hn : n ≤ 6) : mS (mlF f a n) p = mS f p := by
  show mlF f a n (14 + p) = _
  unfold mlF
  rw [if_neg (by omega)]
  rfl
theorem fup_mP {f : Int → Int} {i z : Int} {c : Nat} (hi : i < 2) : mP (fup f i z) c = mP f c := by
  unfold mP
  rw [fup_n (by omega)]
theorem fup_mA {f : Int → Int} {i z : Int} {c : Nat} (hi : i < 2) : mA (fup f i z) c = mA f c := by
  unfold mA
  rw [fup_n (by omega)]
theorem fup_mS {f : Int → Int} {i z : Int} {p : Nat} (hi : i < 2) : mS (fup f i z) p = mS f p := by
  unfold mS
  rw [fup_n (by omega)]
theorem moF_mP {w f : Int → Int} {n c : Nat} (hc : c < 6) : mP (moF w f n) c = mP f c := moF_lo (by omega)
theorem moF_mA {w f : Int → Int} {n c : Nat} (hc : c < 6) : mA (moF w f n) c = mA f c := moF_lo (by omega)
theorem moF_mS {w f : Int → Int} {n p : Nat} (hp : p < n) : mS (moF w f n) p = if 0 ≤ mS f p ∧ mhF f (mS f p) = w p then -1 else mS f p := by
  show moF w f n (14 + p) = _
  unfold moF
  rw [show (14 + (p : Int)) - 14 = p by omega]
  show (if 14 ≤ 14 + (p : Int) ∧ 14 + (p : Int) < 14 + n ∧ 0 ≤ mS f p ∧ mhF f (mS f p) = w p then -1 else mS f p) = _
  by_cases q : 0 ≤ mS f p ∧ mhF f (mS f p) = w p
  · rw [if_pos ⟨by omega, by omega, q⟩, if_pos q]
  · rw [if_neg (fun z => q z.2.2), if_neg q]
/-- the row behind a run that goes -/
def xGo (X : Cx) (f : Int → Int) (a : Nat) (e : Int) : Int → Int := moF (xW X) (fup (fup (mlF f a (xC X)) 1 (f 1 + xM X e)) 0 (xE X e)) (xP X)
theorem xGo_0 {X : Cx} {f : Int → Int} {a : Nat} {e : Int} : xGo X f a e 0 = xE X e := by
  unfold xGo
  rw [moF_lo (by omega), fup_s]
theorem xGo_1 {X : Cx} {f : Int → Int} {a : Nat} {e : Int} : xGo X f a e 1 = f 1 + xM X e := by
  unfold xGo
  rw [moF_lo (by omega), fup_n (by omega), fup_s]
theorem xGo_P {X : Cx} {f : Int → Int} {a : Nat} {e : Int} (h6 : xC X ≤ 6) {c : Nat} (hc : c < xC X) : mP (xGo X f a e) c = if (a : Int) ≤ mP f c then -1 else mP f c := by
  unfold xGo
  rw [moF_mP (by omega), fup_mP (by omega), fup_mP (by omega), mlF_mP hc]
theorem xGo_A {X : Cx} {f : Int → Int} {a : Nat} {e : Int} (h6 : xC X ≤ 6) {c : Nat} (hc : c < xC X) : mA (xGo X f a e) c = if (a : Int) ≤ mP f c then f 0 else mA f c := by
  unfold xGo
  rw [moF_mA (by omega), fup_mA (by omega), fup_mA (by omega), mlF_mA hc]
theorem xGo_S {X : Cx} {f : Int → Int} {a : Nat} {e : Int} (h6 : xC X ≤ 6) {p : Nat} (hp : p < xP X) (hs : mS f p = -1 ∨ (0 ≤ mS f p ∧ mS f p < xC X)) (hpl : ∀ c : Nat, c < xC X → -1 ≤ mP f c) : mS (xGo X f a e) p = if mS f p ≠ -1 ∧ halS (xE X e) (mP (xGo X f a e)) (mA (xGo X f a e)) (mS f p) = xW X p then -1 else mS f p := by
  have e1 : mS (xGo X f a e) p = if 0 ≤ mS f p ∧ mhF (fup (fup (mlF f a (xC X)) 1 (f 1 + xM X e)) 0 (xE X e)) (mS f p) = xW X p then -1 else mS f p := by
    unfold xGo
    rw [moF_mS hp, fup_mS (by omega), fup_mS (by omega), mlF_mS h6]
  rw [e1]
  by_cases q : mS f p = -1
  · rw [if_neg (by omega), if_neg (fun z => z.1 q)]
  · obtain ⟨c, hc⟩ := Int.eq_ofNat_of_zero_le (show 0 ≤ mS f p by omega)
    have hcl : c < xC X := by omega
    have e2 : mhF (fup (fup (mlF f a (xC X)) 1 (f 1 + xM X e)) 0 (xE X e)) (mS f p) = halS (xE X e) (mP (xGo X f a e)) (mA (xGo X f a e)) (mS f p) := by
      rw [hc]
      have hp1 := hpl c hcl
      unfold mhF halS
      show (if 0 ≤ mP (fup (fup (mlF f a (xC X)) 1 (f 1 + xM X e)) 0 (xE X e)) (c : Int) then _ else mA (fup (fup (mlF f a (xC X)) 1 (f 1 + xM X e)) 0 (xE X e)) (c : Int)) = (if mP (xGo X f a e) (c : Int) = -1 then mA (xGo X f a e) (c : Int) else _)
      rw [xGo_P h6 hcl, xGo_A h6 hcl, fup_mP (by omega), fup_mP (by omega), mlF_mP hcl, fup_mA (by omega), fup_mA (by omega), mlF_mA hcl, fup_s]
      by_cases z : (a : Int) ≤ mP f c
      · rw [if_pos z, if_pos z, if_neg (by omega), if_pos rfl]
      · rw [if_neg z, if_neg z]
        by_cases z2 : mP f c = -1
        · rw [if_neg (by omega), if_pos z2]
        · rw [if_pos (by omega), if_neg z2]
    rw [e2]
    by_cases z : halS (xE X e) (mP (xGo X f a e)) (mA (xGo X f a e)) (mS f p) = xW X p
    · rw [if_pos ⟨by omega, z⟩, if_pos ⟨q, z⟩]
    · rw [if_neg (fun y => z y.2), if_neg (fun y => z y.2)]
theorem fOK_go {X : Cx} {H : Nat} {f ord : Int → Int} {len a : Nat} {c : Int} (hX : xOK X H) (hf : fOK X H f ord len) (ha : a ≤ len) (hc : 0 ≤ c ∧ c < 2) (he : 0 ≤ xE X (2 * f 0 + c)) : fOK X H (xGo X f a (2 * f 0 + c)) ord a := by
  obtain ⟨f0, f1, fl, fo, fp, fs⟩ := id hf
  obtain ⟨x1, x2, x3, x4, x5, x6, x7, x8, x9⟩ := hX
  have y8 := x8 (2 * f 0 + c).toNat (by omega)
  rw [show (((2 * f 0 + c).toNat : Nat) : Int) = 2 * f 0 + c by omega] at y8
  have y6 := x6 (2 * f 0 + c) (by omega) (by omega)
  have hpl : ∀ k : Nat, k < xC X → -1 ≤ mP f k := fun k hk => by have := fp k hk; omega
  refine ⟨by rw [xGo_0]; omega, by rw [xGo_1]; omega, by omega, fun j hj => ?_, fun k hk => ?_, fun p hp => ?_⟩
  · have h1 := fo j (by omega)
    refine ⟨h1.1, h1.2.1, ?_⟩
    have e := xGo_P (X := X) (f := f) (a := a) (e := 2 * f 0 + c) x4 (c := (ord j).toNat) (by omega)
    rw [show (((ord j).toNat : Nat) : Int) = ord j by omega] at e
    rw [e, h1.2.2, if_neg (by omega)]
  · have h1 := fp k hk
    rw [xGo_P x4 hk, xGo_A x4 hk]
    by_cases q : (a : Int) ≤ mP f k
    · rw [if_pos q, if_pos q]
      exact Or.inl ⟨rfl, f0⟩
    · rw [if_neg q, if_neg q]
      omega
  · have h1 := fs p hp
    have e := xGo_S (X := X) (f := f) (a := a) (e := 2 * f 0 + c) x4 hp (by omega) hpl
    rw [xGo_0]
    by_cases q : mS f p ≠ -1 ∧ halS (xE X (2 * f 0 + c)) (mP (xGo X f a (2 * f 0 + c))) (mA (xGo X f a (2 * f 0 + c))) (mS f p) = xW X p
    · rw [if_pos q] at e
      exact Or.inl e
    · rw [if_neg q] at e
      rw [e]
      by_cases z : mS f p = -1
      · exact Or.inl z
      · exact Or.inr ⟨by omega, by omega, fun y => q ⟨z, y⟩⟩
theorem fOK_stay {X : Cx} {H : Nat} {f ord : Int → Int} {len : Nat} {z : Int} (hf : fOK X H f ord len) (hz : 0 ≤ z) : fOK X H (fup f 1 z) ord len := by
  obtain ⟨f0, f1, fl, fo, fp, fs⟩ := id hf
  have eP : mP (fup f 1 z) = mP f ∨ True := Or.inr trivial
  refine ⟨by rw [fup_n (by omega)]; exact f0, by rw [fup_s]; exact hz, fl, fun j hj => ?_, fun k hk => ?_, fun p hp => ?_⟩
  · have h1 := fo j hj
    have e := fup_mP (f := f) (i := 1) (z := z) (c := (ord j).toNat) (by omega)
    rw [show (((ord j).toNat : Nat) : Int) = ord j by omega] at e
    rw [e]
    exact h1
  · rw [fup_mP (by omega), fup_mA (by omega)]
    exact fp k hk
  · have h1 := fs p hp
    rw [fup_mS (by omega), fup_n (by omega)]
    by_cases q : mS f p = -1
    · exact Or.inl q
    · refine Or.inr ⟨by omega, by omega, ?_⟩
      obtain ⟨c, hc⟩ := Int.eq_ofNat_of_zero_le (show 0 ≤ mS f p by omega)
      have h2 : halS (f 0) (mP f) (mA f) (mS f p) ≠ xW X p := by omega
      rw [hc] at h2 ⊢
      unfold halS at h2 ⊢
      show ¬ (if mP (fup f 1 z) (c : Int) = -1 then mA (fup f 1 z) (c : Int) else f 0) = _
      rw [fup_mP (by omega), fup_mA (by omega)]
      exact h2
/-! the two trains -/
def Cpl (X : Cx) (H : Nat) (h : Nat → Int → Int) (t : Nat) (f : Int → Int) (len : Nat) : Prop :=
  fOK X H f (h (t + 1)) len ∧ h t 0 = f 0 ∧ h t 1 = f 1 ∧ h t 2 = xC X ∧ h t 3 = len ∧ (∀ c : Nat, c < xC X → h (t + 2) c = mP f c) ∧ (∀ c : Nat, c < xC X → mP f c = -1 → h (t + 3) c = mA f c) ∧ (∀ p : Nat, p < xP X → h (t + 4) p = mS f p)
def NetC (X : Cx) (H : Nat) (h : Nat → Int → Int) (n : Nat) : Prop :=
  (∀ e : Int, 0 ≤ e → e < 2 * H → h (n + 1) e = xE X e ∧ h (n + 2) e = xM X e) ∧ ∀ a b : Int, 0 ≤ a → a < H → 0 ≤ b → b < H → h (n + 3) (a * 9 + b) = nds (xF X) (a * 9 + b)
def RidC (X : Cx) (h : Nat → Int → Int) : Prop := h 11 0 = xP X ∧ ∀ p : Nat, p < xP X → h 12 p = xW X p ∧ h 13 p = xR X p
theorem cn_congr {se se' : Int → Int} {c : Int} : ∀ {n : Nat}, (∀ p : Nat, p < n → se p = se' p) → cn se c n = cn se' c n
  | 0, _ => rfl
  | n + 1, h => by
    show cn se c n + _ = cn se' c n + _
    rw [cn_congr (fun p hp => h p (by omega)), h n (by omega)]
theorem cpl_pl {X : Cx} {H : Nat} {h : Nat → Int → Int} {t : Nat} {f : Int → Int} {len : Nat} (hc : Cpl X H h t f len) {c : Int} (h0 : 0 ≤ c) (h1 : c < xC X) : h (t + 2) c = mP f c := by
  have := hc.2.2.2.2.2.1 c.toNat (by omega)
  rw [show ((c.toNat : Nat) : Int) = c by omega] at this
  exact this
theorem cpl_hal {X : Cx} {H : Nat} {h : Nat → Int → Int} {t : Nat} {f : Int → Int} {len : Nat} (hc : Cpl X H h t f len) {c : Int} (h0 : 0 ≤ c) (h1 : c < xC X) : halS (h t 0) (h (t + 2)) (h (t + 3)) c = halS (f 0) (mP f) (mA f) c := by
  unfold halS
  rw [cpl_pl hc h0 h1, hc.2.1]
  by_cases q : mP f c = -1
  · rw [if_pos q, if_pos q]
    have := hc.2.2.2.2.2.2.1 c.toNat (by omega)
    rw [show ((c.toNat : Nat) : Int) = c by omega] at this
    exact this q
  · rw [if_neg q, if_neg q]
theorem cpl_V {X : Cx} {H : Nat} {h : Nat → Int → Int} {n t : Nat} {f : Int → Int} {len : Nat} (hX : xOK X H) (hc : Cpl X H h t f len) (hn : NetC X H h n) (hr : RidC X h) {p : Nat} (hp : p < xP X) : vtS (xS X) (h 13) (h 12) (h (n + 3)) (h (t + 4)) (h (t + 2)) (h (t + 3)) (h t 0) (h t 1) (xP X) p = xV X f p := by
  unfold xV vtS
  have e4 := hc.2.2.2.2.2.2.2 p hp
  have hs := hc.1.2.2.2.2.2 p hp
  have hrp := hr.2 p hp
  have hw := hX.2.2.2.2.2.2.2.2 p hp
  rw [e4]
  by_cases q : mS f p = -1
  · rw [if_pos q, if_pos q]
  · rw [if_neg q, if_neg q]
    have h0 : 0 ≤ mS f p := by omega
    have h1 : mS f p < xC X := by omega
    have hb := fOK_hal hc.1 h0 h1
    rw [hrp.1, hrp.2, cn_congr hc.2.2.2.2.2.2.2, cpl_hal hc h0 h1, cpl_pl hc h0 h1, hc.2.2.1]
    have e3 : thd (h (n + 3)) (halS (f 0) (mP f) (mA f) (mS f p)) (xW X p) = thd (nds (xF X)) (halS (f 0) (mP f) (mA f) (mS f p)) (xW X p) := by
      unfold thd
      rw [hn.2 _ _ hb.1 hb.2 hw.1 hw.2]
    rw [e3]
theorem wish_congr {ex mi ds ex' mi' ds' : Int → Int} {H : Nat} {a w : Int} (hH : H ≤ 9) (ha : 0 ≤ a ∧ a < H) (hw : 0 ≤ w ∧ w < H) (hx : ∀ e : Nat, e < 2 * H → ex' e = -1 ∨ (0 ≤ ex' e ∧ ex' e < H)) (he : ∀ e : Int, 0 ≤ e → e < 2 * H → ex e = ex' e ∧ mi e = mi' e) (hd : ∀ a b : Int, 0 ≤ a → a < H → 0 ≤ b → b < H → ds (a * 9 + b) = ds' (a * 9 + b)) : wishS ex mi ds a w = wishS ex' mi' ds' a w := by
  unfold wishS begW
  have e1 := he (2 * a) (by omega) (by omega)
  have e2 := hd a w ha.1 ha.2 hw.1 hw.2
  have x1 := hx (2 * a).toNat (by omega)
  rw [show (((2 * a).toNat : Nat) : Int) = 2 * a by omega] at x1
  rw [e2, e1.1, e1.2, show (2 * a) / 2 = a by omega, e2]
  by_cases q : ex' (2 * a) = -1
  · simp [q]
  · rw [hd _ _ (show 0 ≤ ex' (2 * a) by omega) (by omega) hw.1 hw.2]
theorem cpl_W {X : Cx} {H : Nat} {h : Nat → Int → Int} {n t : Nat} {f : Int → Int} {len : Nat} (hX : xOK X H) (hc : Cpl X H h t f len) (hn : NetC X H h n) (hr : RidC X h) {p : Nat} (hp : p < xP X) : wiS (h (n + 1)) (h (n + 2)) (h (n + 3)) (h 12) (h (t + 4)) (h (t + 2)) (h (t + 3)) (h t 0) p = xWi X f p := by
  unfold xWi wiS
  have e4 := hc.2.2.2.2.2.2.2 p hp
  have hs := hc.1.2.2.2.2.2 p hp
  have hrp := hr.2 p hp
  obtain ⟨x1, x2, x3, x4, x5, x6, x7, x8, x9⟩ := hX
  have hw := x9 p hp
  rw [e4]
  by_cases q : mS f p = -1
  · rw [if_pos q, if_pos q]
  · rw [if_neg q, if_neg q]
    have h0 : 0 ≤ mS f p := by omega
    have h1 : mS f p < xC X := by omega
    have hb := fOK_hal hc.1 h0 h1
    rw [hrp.1, cpl_hal hc h0 h1]
    exact wish_congr x2 hb hw (fun e he => by have := x5 e (by omega) (by omega); have := x8 e he; omega) hn.1 hn.2
theorem xWi_b {X : Cx} {f : Int → Int} {p : Int} (h : mS f p ≠ -1) : 0 ≤ xWi X f p ∧ xWi X f p ≤ 2 := by
  unfold xWi wiS
  rw [if_neg h]
  exact wishS_b
