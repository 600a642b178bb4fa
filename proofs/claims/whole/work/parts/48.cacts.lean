/-! acts keep the trains coupled -/
section CA
variable {X : Cx} {H : Nat} {h h' : Nat → Int → Int} {t : Nat} {f : Int → Int} {len : Nat}
theorem cpl_go {a : Nat} {c : Int} (hX : xOK X H) (hc : Cpl X H h t f len) (hr : RidC X h) (hale : a ≤ len) (hcb : 0 ≤ c ∧ c < 2) (q : 0 ≤ xE X (2 * f 0 + c)) (hord : h' (t + 1) = h (t + 1)) (g2 : h' t = fup (fup (fup (h t) 3 a) 0 (xE X (2 * f 0 + c))) 1 (h t 1 + xM X (2 * f 0 + c))) (g3 : h' (t + 2) = shF (h (t + 1)) (-1) (h (t + 2)) a (len - a)) (g4 : h' (t + 3) = shF (h (t + 1)) (h t 0) (h (t + 3)) a (len - a)) (g5 : h' (t + 4) = outF (h 12) (halS (xE X (2 * f 0 + c)) (h' (t + 2)) (h' (t + 3))) (h (t + 4)) (xP X)) : Cpl X H h' t (xGo X f a (2 * f 0 + c)) a := by
  obtain ⟨x1, x2, x3, x4, x5, x6, x7, x8, x9⟩ := id hX
  obtain ⟨hf, e0, e1, e2, e3, ep, ea, es⟩ := id hc
  have hen := hf.1
  have hfo := fOK_go (c := c) hX hf hale (by omega) q
  have hpl : ∀ k : Nat, k < xC X → -1 ≤ mP f k := fun k hk => by have := hf.2.2.2.2.1 k hk; omega
  have gp : ∀ k : Nat, k < xC X → h' (t + 2) k = mP (xGo X f a (2 * f 0 + c)) k := fun k hk => by
    rw [g3, shF_pl hf hale hk (len - a) (by omega), xGo_P x4 hk, ep k hk]
    have := hf.2.2.2.2.1 k hk
    by_cases z : (a : Int) ≤ mP f k
    · rw [if_pos (by omega), if_pos z]
    · rw [if_neg (by omega), if_neg z]
  have ga : ∀ k : Nat, k < xC X → mP (xGo X f a (2 * f 0 + c)) k = -1 → h' (t + 3) k = mA (xGo X f a (2 * f 0 + c)) k := fun k hk hm => by
    rw [xGo_P x4 hk] at hm
    rw [g4, shF_pl hf hale hk (len - a) (by omega), xGo_A x4 hk, e0]
    have := hf.2.2.2.2.1 k hk
    by_cases z : (a : Int) ≤ mP f k
    · rw [if_pos (by omega), if_pos z]
    · rw [if_neg z] at hm
      rw [if_neg (by omega), if_neg z]
      exact ea k hk hm
  have ghal : ∀ z : Int, 0 ≤ z → z < xC X → halS (xE X (2 * f 0 + c)) (h' (t + 2)) (h' (t + 3)) z = halS (xE X (2 * f 0 + c)) (mP (xGo X f a (2 * f 0 + c))) (mA (xGo X f a (2 * f 0 + c))) z := fun z z0 z1 => by
    obtain ⟨k, rfl⟩ := Int.eq_ofNat_of_zero_le z0
    have hk : k < xC X := by omega
    unfold halS
    have y1 := gp k hk
    have y2 := ga k hk
    show (if h' (t + 2) (k : Int) = -1 then h' (t + 3) (k : Int) else _) = (if mP (xGo X f a (2 * f 0 + c)) (k : Int) = -1 then mA (xGo X f a (2 * f 0 + c)) (k : Int) else _)
    rw [y1]
    by_cases y : mP (xGo X f a (2 * f 0 + c)) (k : Int) = -1
    · rw [if_pos y, if_pos y, y2 y]
    · rw [if_neg y, if_neg y]
  have gs : ∀ p : Nat, p < xP X → mS (xGo X f a (2 * f 0 + c)) p = if mS f p ≠ -1 ∧ halS (xE X (2 * f 0 + c)) (h' (t + 2)) (h' (t + 3)) (mS f p) = xW X p then -1 else mS f p := fun p hp => by
    have hs := hf.2.2.2.2.2 p hp
    rw [xGo_S x4 hp (by omega) hpl]
    by_cases z : mS f p = -1
    · rw [if_neg (fun y => y.1 z), if_neg (fun y => y.1 z)]
    · rw [ghal _ (by omega) (by omega)]
  refine ⟨by rw [hord]; exact hfo, ?_, ?_, ?_, ?_, gp, ga, fun p hp => ?_⟩
  · rw [g2, xGo_0]
    simp (disch := omega) only [fup_n, fup_s]
  · rw [g2, xGo_1, fup_s, e1]
  · rw [g2]
    simp (disch := omega) only [fup_n]
    exact e2
  · rw [g2]
    simp (disch := omega) only [fup_n, fup_s]
  · rw [g5, gs p hp]
    unfold outF
    rw [es p hp, (hr.2 p hp).1]
    by_cases y : mS f p ≠ -1 ∧ halS (xE X (2 * f 0 + c)) (h' (t + 2)) (h' (t + 3)) (mS f p) = xW X p
    · rw [if_pos ⟨by omega, by omega, y⟩, if_pos y]
    · rw [if_neg (fun w => y w.2.2), if_neg y]
theorem mlF_1 {a : Int} {n : Nat} : mlF f a n 1 = f 1 := by
  unfold mlF
  rw [if_neg (by omega)]
/-- uncoupled -/
theorem cpl_cut {a : Nat} (h6 : xC X ≤ 6) (hc : Cpl X H h t f len) (hale : a ≤ len) (hord : h' (t + 1) = h (t + 1)) (g2 : h' t = fup (h t) 3 a) (g3 : h' (t + 2) = shF (h (t + 1)) (-1) (h (t + 2)) a (len - a)) (g4 : h' (t + 3) = shF (h (t + 1)) (h t 0) (h (t + 3)) a (len - a)) (g5 : h' (t + 4) = h (t + 4)) : Cpl X H h' t (mlF f a (xC X)) a := by
  obtain ⟨hf, e0, e1, e2, e3, ep, ea, es⟩ := id hc
  obtain ⟨f0, f1, fl, fo, fp, fs⟩ := id hf
  refine ⟨⟨by rw [mlF_z]; exact f0, by rw [mlF_1]; exact f1, by omega, fun j hj => ?_, fun k hk => ?_, fun p hp => ?_⟩, ?_, ?_, ?_, ?_, fun k hk => ?_, fun k hk hm => ?_, fun p hp => ?_⟩
  · have h1 := fo j (by omega)
    rw [hord]
    refine ⟨h1.1, h1.2.1, ?_⟩
    have e := mlF_mP (f := f) (a := a) (n := xC X) (c := (h (t + 1) j).toNat) (by omega)
    rw [show (((h (t + 1) j).toNat : Nat) : Int) = h (t + 1) j by omega] at e
    rw [e, h1.2.2, if_neg (by omega)]
  · have h1 := fp k hk
    rw [hord, mlF_mP hk, mlF_mA hk]
    by_cases q : (a : Int) ≤ mP f k
    · rw [if_pos q, if_pos q]
      exact Or.inl ⟨rfl, f0⟩
    · rw [if_neg q, if_neg q]
      omega
  · have h1 := fs p hp
    rw [mlF_mS h6, mlF_z]
    by_cases q : mS f p = -1
    · exact Or.inl q
    · refine Or.inr ⟨by omega, by omega, ?_⟩
      obtain ⟨c, hc⟩ := Int.eq_ofNat_of_zero_le (show 0 ≤ mS f p by omega)
      have h2 : halS (f 0) (mP f) (mA f) (mS f p) ≠ xW X p := by omega
      have h3 : c < xC X := by omega
      have h4 := fp c h3
      rw [hc] at h2 ⊢
      unfold halS at h2 ⊢
      show ¬ (if mP (mlF f a (xC X)) (c : Int) = -1 then mA (mlF f a (xC X)) (c : Int) else f 0) = _
      rw [mlF_mP h3, mlF_mA h3]
      by_cases z : (a : Int) ≤ mP f c
      · rw [if_pos z, if_pos z, if_pos rfl]
        rw [if_neg (show ¬ mP f (c : Int) = -1 by omega)] at h2
        exact h2
      · rw [if_neg z, if_neg z]
        exact h2
  · rw [g2, mlF_z, fup_n (by omega)]; exact e0
  · rw [g2, mlF_1, fup_n (by omega)]; exact e1
  · rw [g2, fup_n (by omega)]; exact e2
  · rw [g2, fup_s]
  · rw [g3, shF_pl hf hale hk (len - a) (by omega), mlF_mP hk, ep k hk]
    have := fp k hk
    by_cases z : (a : Int) ≤ mP f k
    · rw [if_pos (by omega), if_pos z]
    · rw [if_neg (by omega), if_neg z]
  · rw [mlF_mP hk] at hm
    rw [g4, shF_pl hf hale hk (len - a) (by omega), mlF_mA hk, e0]
    have := fp k hk
    by_cases z : (a : Int) ≤ mP f k
    · rw [if_pos (by omega), if_pos z]
    · rw [if_neg z] at hm
      rw [if_neg (by omega), if_neg z]
      exact ea k hk hm
  · rw [g5, mlF_mS h6]
    exact es p hp
/-- which stand here -/
def stB (f : Int → Int) : Nat → Bool := fun j => decide (mP f j < 0 ∧ mA f j = f 0)
theorem tkL_s {B : Nat → Bool} {l n : Nat} : tkL B l (n + 1) = if B n then tkL B l n + 1 else tkL B l n := rfl
theorem tkO_s {B : Nat → Bool} {l n : Nat} {g : Int → Int} : tkO B l g (n + 1) = if B n then fup (tkO B l g n) (tkL B l n) n else tkO B l g n := rfl
theorem mcF_0 {B : Nat → Bool} {l n : Nat} {i : Int} (hi : i = 0 ∨ i = 1) : mcF B l f n i = f i := mcF_o (fun c => by omega)
theorem mcF_A {B : Nat → Bool} {l n c : Nat} : mA (mcF B l f n) c = mA f c := mcF_o (fun c' => by omega)
theorem mcF_S {B : Nat → Bool} {l n p : Nat} (hn : n ≤ 6) : mS (mcF B l f n) p = mS f p := by
  have : ∀ m : Nat, m ≤ 6 → mcF B l f m (14 + p) = f (14 + p) := by
    intro m
    induction m with
    | zero => intro _; rfl
    | succ m ih =>
      intro hm
      unfold mcF
      split
      · rw [fup_n (by omega), ih (by omega)]
      · exact ih (by omega)
  exact this n hn
theorem tkP_v {B : Nat → Bool} {l c : Nat} {g : Int → Int} : ∀ {n : Nat}, tkP B l g n c = if c < n ∧ B c = true then (tkL B l c : Int) else g c
  | 0 => by rw [if_neg (by omega)]; rfl
  | n + 1 => by
    unfold tkP
    by_cases hb : B n = true
    · rw [if_pos hb]
      unfold fup
      by_cases hc : c = n
      · subst hc
        rw [if_pos rfl, if_pos ⟨by omega, hb⟩]
      · rw [if_neg (by omega), tkP_v]
        by_cases q : c < n ∧ B c = true
        · rw [if_pos q, if_pos ⟨by omega, q.2⟩]
        · rw [if_neg q, if_neg (fun z => q ⟨by omega, z.2⟩)]
    · rw [if_neg hb, tkP_v]
      by_cases q : c < n ∧ B c = true
      · rw [if_pos q, if_pos ⟨by omega, q.2⟩]
      · rw [if_neg q, if_neg (fun z => q ⟨by
          by_cases e : c = n
          · rw [e] at z; exact absurd z.2 hb
          · omega, z.2⟩)]
theorem cp_inv {ord : Int → Int} (hf : fOK X H f ord len) : ∀ n : Nat, n ≤ xC X →
    (∀ j : Nat, j < tkL (stB f) len n → 0 ≤ tkO (stB f) len ord n j ∧ tkO (stB f) len ord n j < xC X ∧ mP (mcF (stB f) len f n) (tkO (stB f) len ord n j) = j) ∧
    (∀ c : Nat, c < xC X → (mP (mcF (stB f) len f n) c = -1 ∧ mP f c = -1) ∨ (0 ≤ mP (mcF (stB f) len f n) c ∧ mP (mcF (stB f) len f n) c < tkL (stB f) len n ∧ tkO (stB f) len ord n (mP (mcF (stB f) len f n) c) = c))
  | 0, _ => ⟨fun j hj => hf.2.2.2.1 j hj, fun c hc => by
      have := hf.2.2.2.2.1 c hc
      show (mP f c = -1 ∧ mP f c = -1) ∨ (0 ≤ mP f c ∧ mP f c < len ∧ ord (mP f c) = c)
      omega⟩
  | n + 1, hn => by
    obtain ⟨i1, i2⟩ := cp_inv hf n (by omega)
    have em : mcF (stB f) len f (n + 1) = if stB f n then fup (mcF (stB f) len f n) (2 + 2 * n + 1) (tkL (stB f) len n) else mcF (stB f) len f n := rfl
    rw [tkL_s, tkO_s, em]
    by_cases hb : stB f n = true
    · rw [if_pos hb, if_pos hb, if_pos hb]
      have hneg : mP f n < 0 := (of_decide_eq_true hb).1
      have hPn : mP (mcF (stB f) len f n) n = mP f n := by
        rw [mcF_P, if_neg (fun z => absurd z.1 (by omega))]
      have hPm : ∀ z : Int, 0 ≤ z → z ≠ n → mP (fup (mcF (stB f) len f n) (2 + 2 * n + 1) (tkL (stB f) len n)) z = mP (mcF (stB f) len f n) z := fun z z0 z1 => fup_n (by omega)
      have hPs : mP (fup (mcF (stB f) len f n) (2 + 2 * n + 1) (tkL (stB f) len n)) n = tkL (stB f) len n := fup_s
      refine ⟨fun j hj => ?_, fun c hc => ?_⟩
      · by_cases z : j = tkL (stB f) len n
        · subst z
          rw [fup_s, hPs]
          omega
        · rw [fup_n (by omega)]
          have k1 := i1 j (by omega)
          refine ⟨k1.1, k1.2.1, ?_⟩
          rw [hPm _ k1.1 (fun w => by rw [w, hPn] at k1; omega)]
          exact k1.2.2
      · by_cases z : c = n
        · subst z
          rw [hPs, fup_s]
          exact Or.inr ⟨by omega, by omega, rfl⟩
        · rw [hPm c (by omega) (by omega)]
          rcases i2 c hc with k | k
          · exact Or.inl k
          · refine Or.inr ⟨k.1, by omega, ?_⟩
            rw [fup_n (by omega)]
            exact k.2.2
    · rw [if_neg hb, if_neg hb, if_neg hb]
      exact ⟨i1, i2⟩
theorem cpl_tk (h6 : xC X ≤ 6) (hc : Cpl X H h t f len) (g1 : h' t = fup (h t) 3 (tkL (stB f) len (xC X))) (g2 : h' (t + 1) = tkO (stB f) len (h (t + 1)) (xC X)) (g3 : h' (t + 2) = tkP (stB f) len (h (t + 2)) (xC X)) (g4 : h' (t + 3) = h (t + 3)) (g5 : h' (t + 4) = h (t + 4)) : Cpl X H h' t (mcF (stB f) len f (xC X)) (tkL (stB f) len (xC X)) := by
  obtain ⟨hf, e0, e1, e2, e3, ep, ea, es⟩ := id hc
  obtain ⟨f0, f1, fl, fo, fp, fs⟩ := id hf
  obtain ⟨i1, i2⟩ := cp_inv hf (xC X) (Nat.le_refl _)
  have hneg : ∀ c : Nat, c < xC X → stB f c = true → mP f c < 0 := fun c _ hb => (of_decide_eq_true hb).1
  have hle := mcF_len (B := stB f) (l := len) (f := f) hneg (fOK_len hf) (xC X) (Nat.le_refl _)
  have hlb := sm_b (g := fun c : Nat => if 0 ≤ mP (mcF (stB f) len f (xC X)) c then 1 else 0) (B := 1) (by omega) (fun p => by split <;> omega) (xC X)
  rw [hle] at hlb
  have hP : ∀ c : Nat, c < xC X → mP (mcF (stB f) len f (xC X)) c = if stB f c = true then (tkL (stB f) len c : Int) else mP f c := fun c hcc => by
    rw [mcF_P]
    by_cases q : stB f c = true
    · rw [if_pos ⟨hcc, q⟩, if_pos q]
    · rw [if_neg (fun z => q z.2), if_neg q]
  refine ⟨⟨by rw [mcF_0 (Or.inl rfl)]; exact f0, by rw [mcF_0 (Or.inr rfl)]; exact f1, by omega, fun j hj => ?_, fun k hk => ?_, fun p hp => ?_⟩, ?_, ?_, ?_, ?_, fun k hk => ?_, fun k hk hm => ?_, fun p hp => ?_⟩
  · rw [g2]
    exact i1 j hj
  · rw [g2, mcF_A]
    rcases i2 k hk with q | q
    · have := fp k hk
      exact Or.inl ⟨q.1, by omega⟩
    · exact Or.inr q
  · have h1 := fs p hp
    rw [mcF_S h6, mcF_0 (Or.inl rfl)]
    by_cases q : mS f p = -1
    · exact Or.inl q
    · refine Or.inr ⟨by omega, by omega, ?_⟩
      obtain ⟨c, hc⟩ := Int.eq_ofNat_of_zero_le (show 0 ≤ mS f p by omega)
      have h2 : halS (f 0) (mP f) (mA f) (mS f p) ≠ xW X p := by omega
      have h3 : c < xC X := by omega
      rw [hc] at h2 ⊢
      unfold halS at h2 ⊢
      show ¬ (if mP (mcF (stB f) len f (xC X)) (c : Int) = -1 then mA (mcF (stB f) len f (xC X)) (c : Int) else f 0) = _
      rw [hP c h3, mcF_A]
      by_cases z : stB f c = true
      · have zz := of_decide_eq_true z
        have := fp c h3
        rw [if_pos z, if_neg (by omega)]
        rw [if_pos (show mP f (c : Int) = -1 by omega), zz.2] at h2
        exact h2
      · rw [if_neg z]
        exact h2
  · rw [g1, mcF_0 (Or.inl rfl), fup_n (by omega)]; exact e0
  · rw [g1, mcF_0 (Or.inr rfl), fup_n (by omega)]; exact e1
  · rw [g1, fup_n (by omega)]; exact e2
  · rw [g1, fup_s]
  · rw [g3, tkP_v, hP k hk, ep k hk]
    by_cases z : stB f k = true
    · rw [if_pos ⟨hk, z⟩, if_pos z]
    · rw [if_neg (fun w => z w.2), if_neg z]
  · rw [g4, mcF_A]
    rw [hP k hk] at hm
    by_cases z : stB f k = true
    · rw [if_pos z] at hm
      omega
    · rw [if_neg z] at hm
      exact ea k hk hm
  · rw [g5, mcF_S h6]
    exact es p hp
theorem tkL_6 {ord : Int → Int} (hf : fOK X H f ord len) {k : Nat} (hk : k < xC X) (hB : stB f k = true) : tkL (stB f) len k < xC X := by
  have hneg : ∀ c : Nat, c < xC X → stB f c = true → mP f c < 0 := fun c _ hb => (of_decide_eq_true hb).1
  have hle := mcF_len (B := stB f) (l := len) (f := f) hneg (fOK_len hf) (k + 1) (by omega)
  have hlb := sm_b (g := fun c : Nat => if 0 ≤ mP (mcF (stB f) len f (k + 1)) c then 1 else 0) (B := 1) (by omega) (fun p => by split <;> omega) (xC X)
  rw [hle, tkL_s, if_pos hB] at hlb
  omega
end CA
