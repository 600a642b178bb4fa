theorem sm_ptv {g : Nat → Int} {c0 : Nat} {v : Int} : ∀ {n : Nat}, c0 < n → (∀ c, c < n → g c = if c = c0 then v else 0) → sm g n = v
  | n + 1, h0, h => by
    show sm g n + g n = v
    by_cases hn : c0 = n
    · have e : sm g n = sm (fun _ => 0) n := sm_congr (fun p hp => by rw [h p (by omega), if_neg (by omega)])
      rw [e, sm_zero, h n (by omega), if_pos hn.symm]
      omega
    · rw [sm_ptv (c0 := c0) (v := v) (by omega) (fun c hc => h c (by omega)), h n (by omega), if_neg (fun e => hn e.symm)]
      omega
/-- a sum over the train by places is one over the coaches -/
theorem sm_ord {X : Cx} {H : Nat} {f ord : Int → Int} {len : Nat} (hf : fOK X H f ord len) (G : Int → Int) : sm (fun k => G (ord k)) len = sm (fun c => if 0 ≤ mP f c then G c else 0) (xC X) := by
  obtain ⟨-, -, -, ho, hp, -⟩ := hf
  have key : ∀ L : Nat, L ≤ len → sm (fun c : Nat => if 0 ≤ mP f c ∧ mP f c < L then G c else 0) (xC X) = sm (fun k => G (ord k)) L := by
    intro L
    induction L with
    | zero =>
      intro _
      rw [sm_congr (g' := fun _ => 0) (fun p _ => by rw [if_neg (by omega)]), sm_zero]
      rfl
    | succ L ih =>
      intro hL
      have e : sm (fun c : Nat => if 0 ≤ mP f c ∧ mP f c < ((L + 1 : Nat) : Int) then G c else 0) (xC X) = sm (fun c : Nat => (if 0 ≤ mP f c ∧ mP f c < L then G c else 0) + (if mP f c = L then G c else 0)) (xC X) := sm_congr (fun c _ => by
        by_cases q : mP f c = L
        · rw [if_pos (by omega), if_neg (by omega), if_pos q]; omega
        · by_cases q2 : 0 ≤ mP f c ∧ mP f c < L
          · rw [if_pos (by omega), if_pos q2, if_neg q]; omega
          · rw [if_neg (by omega), if_neg q2, if_neg q]; rfl)
      rw [e, sm_add, ih (by omega)]
      show _ = sm _ L + G (ord L)
      have h1 := ho L (by omega)
      have e2 : sm (fun c : Nat => if mP f c = L then G c else 0) (xC X) = G (ord L) := sm_ptv (c0 := (ord L).toNat) (by omega) (fun c hc => by
        by_cases q : c = (ord L).toNat
        · rw [if_pos q, q, show (((ord L).toNat : Nat) : Int) = ord L by omega, if_pos h1.2.2]
        · have h2 := hp c hc
          rw [if_neg q, if_neg (fun z => by rw [z] at h2; omega)])
      rw [e2]
  rw [← key len (by omega)]
  refine sm_congr (fun c hc => ?_)
  have h2 := hp c hc
  by_cases q : 0 ≤ mP f c
  · rw [if_pos q, if_pos (by omega)]
  · rw [if_neg q, if_neg (by omega)]
/-- the vote of the coaches, one each -/
def xHd (X : Cx) (f : Int → Int) (j : Int) : Int := sm (fun c => if 0 ≤ mP f c then (if xVote X f (fun p => decide (mS f p = (c : Int))) = j then 1 else 0) else 0) (xC X)
def xCrs (X : Cx) (f : Int → Int) (bh : Int) : Int := if bh = 0 then xVote X f (ridP f) else chS (xHd X f 0) (xHd X f 1) (xHd X f 2)
theorem xCrs_b {X : Cx} {f : Int → Int} {bh : Int} : 0 ≤ xCrs X f bh ∧ xCrs X f bh ≤ 2 := by
  unfold xCrs xVote
  split <;> exact chS_b
section CR
variable {X : Cx} {H : Nat} {h : Nat → Int → Int} {n t : Nat} {f : Int → Int} {len : Nat}
theorem cr_al (hX : xOK X H) (hc : Cpl X H h t f len) (hn : NetC X H h n) (hr : RidC X h) {j : Int} (hj : 0 ≤ j ∧ j < 3) : onAl (xS X) h n t (xP X) j = poS (ridP f) (xV X f) (xWi X f) (xP X) j := by
  unfold onAl alF poS
  rw [if_pos hj]
  refine sm_congr (fun p hp => ?_)
  rw [cpl_V hX hc hn hr hp, cpl_W hX hc hn hr hp, hc.2.2.2.2.2.2.2 p hp]
  have hs := hc.1.2.2.2.2.2 p hp
  by_cases q : mS f p = -1
  · rw [if_neg (fun z => z.1 q), if_neg (fun z => by have := z.1; unfold ridP at this; simp at this; omega)]
  · have h0 : 0 ≤ mS f p := by omega
    have h1 : mS f p < xC X := by omega
    have h2 := fOK_pl hc.1 h0 h1
    rw [cpl_pl hc h0 h1]
    by_cases z : mP f (mS f p) ≠ -1 ∧ xWi X f p = j
    · rw [if_pos ⟨q, z⟩, if_pos ⟨decide_eq_true (by omega), z.2⟩]
    · rw [if_neg (fun y => z y.2), if_neg (fun y => z ⟨by have := y.1; unfold ridP at this; simp at this; omega, y.2⟩)]
theorem cr_su (hX : xOK X H) (hc : Cpl X H h t f len) (hn : NetC X H h n) (hr : RidC X h) {c w : Int} (hc0 : 0 ≤ c) (hc1 : c < xC X) (hw : 0 ≤ w ∧ w < 3) : onSu (xS X) h n t (xP X) (3 * c + w) = poS (fun p => decide (mS f p = c)) (xV X f) (xWi X f) (xP X) w := by
  unfold onSu suF poS
  have x4 := hX.2.2.2.1
  rw [if_pos (by omega)]
  refine sm_congr (fun p hp => ?_)
  rw [cpl_V hX hc hn hr hp, cpl_W hX hc hn hr hp, hc.2.2.2.2.2.2.2 p hp]
  by_cases q : mS f p = -1
  · rw [if_neg (fun z => z.1 q), if_neg (fun z => by have := z.1; simp at this; omega)]
  · have hb := xWi_b (X := X) (f := f) (p := p) q
    by_cases z : mS f p = c ∧ xWi X f p = w
    · rw [if_pos ⟨q, by omega⟩, if_pos ⟨decide_eq_true z.1, z.2⟩]
    · rw [if_neg (fun y => z ⟨by omega, by omega⟩), if_neg (fun y => z ⟨of_decide_eq_true y.1, y.2⟩)]
theorem cr_vc (hX : xOK X H) (hc : Cpl X H h t f len) (hn : NetC X H h n) (hr : RidC X h) {c : Int} (hc0 : 0 ≤ c) (hc1 : c < xC X) : vcS (onSu (xS X) h n t (xP X)) c = xVote X f (fun p => decide (mS f p = c)) := by
  unfold vcS xVote
  have e0 := cr_su hX hc hn hr hc0 hc1 (w := 0) (by omega)
  rw [Int.add_zero] at e0
  rw [e0, cr_su hX hc hn hr hc0 hc1 (w := 1) (by omega), cr_su hX hc hn hr hc0 hc1 (w := 2) (by omega)]
theorem cr_hd (hX : xOK X H) (hc : Cpl X H h t f len) (hn : NetC X H h n) (hr : RidC X h) {j : Int} (hj : 0 ≤ j ∧ j < 3) : hdF (onSu (xS X) h n t (xP X)) (h (t + 1)) (h 42) len j = xHd X f j := by
  unfold hdF xHd
  rw [if_pos hj]
  have e : sm (fun k => if vcS (onSu (xS X) h n t (xP X)) (h (t + 1) k) = j then 1 else 0) len = sm (fun k => (fun c : Int => if xVote X f (fun p => decide (mS f p = c)) = j then 1 else 0) (h (t + 1) k)) len := sm_congr (fun k hk => by
    have ho := hc.1.2.2.2.1 k hk
    rw [cr_vc hX hc hn hr ho.1 ho.2.1])
  rw [e, sm_ord hc.1 (fun c : Int => if xVote X f (fun p => decide (mS f p = c)) = j then 1 else 0)]
theorem cr_crs (hX : xOK X H) (hc : Cpl X H h t f len) (hn : NetC X H h n) (hr : RidC X h) {bh : Int} : onCrs (xS X) h n t (xP X) len bh = xCrs X f bh := by
  unfold onCrs xCrs xVote
  rw [cr_al hX hc hn hr (j := 0) (by omega), cr_al hX hc hn hr (j := 1) (by omega), cr_al hX hc hn hr (j := 2) (by omega), cr_hd hX hc hn hr (j := 0) (by omega), cr_hd hX hc hn hr (j := 1) (by omega), cr_hd hX hc hn hr (j := 2) (by omega)]
theorem algS_congr {P P' : Nat → Bool} : ∀ {k i : Nat}, (∀ j, i ≤ j → j < i + k → P j = P' j) → algS P k i = algS P' k i
  | 0, _, _ => rfl
  | k + 1, i, h => by
    rw [algS_s, algS_s, h i (by omega) (by omega), algS_congr (k := k) (i := i + 1) (fun j h1 h2 => h j (by omega) (by omega))]
theorem cr_along (hX : xOK X H) (hc : Cpl X H h t f len) (hn : NetC X H h n) (hr : RidC X h) {c : Int} : onAlong (xS X) h n t (xP X) len c = xAl X f len c := by
  unfold onAlong xAl
  refine algS_congr (fun j _ hj => ?_)
  have ho := hc.1.2.2.2.1 j (by omega)
  rw [cr_vc hX hc hn hr ho.1 ho.2.1, fOK_ca hc.1 (show j < len by omega)]
/-- coaches from a place on: the row by places is the one by coaches -/
theorem shF_pl {ord g : Int → Int} {v : Int} {a len : Nat} (hf : fOK X H f ord len) (ha : a ≤ len) {c : Nat} (hcc : c < xC X) : ∀ k : Nat, a + k ≤ len → shF ord v g a k c = if (a : Int) ≤ mP f c ∧ mP f c < ((a + k : Nat) : Int) then v else g c
  | 0, _ => by
    rw [if_neg (by omega)]
    rfl
  | k + 1, hk => by
    show fup (shF ord v g a k) (ord ((a + k : Nat) : Int)) v c = _
    have ho := hf.2.2.2.1 (a + k) (by omega)
    have hp := hf.2.2.2.2.1 c hcc
    unfold fup
    by_cases q : (c : Int) = ord ((a + k : Nat) : Int)
    · rw [if_pos q, q, ho.2.2, if_pos (by omega)]
    · rw [if_neg q, shF_pl hf ha hcc k (by omega)]
      have : mP f c ≠ ((a + k : Nat) : Int) := fun z => by
        rw [z] at hp
        exact q (by omega)
      by_cases z : (a : Int) ≤ mP f c ∧ mP f c < ((a + k : Nat) : Int)
      · rw [if_pos z, if_pos (by omega)]
      · rw [if_neg z, if_neg (by omega)]
/-- A RUN: the trains stay coupled, and what the runner tells -/
theorem cpl_run {r : Nat} {bh : Int} {r' : Option PV} {h' : Nat → Int → Int} (hX : xOK X H) (hc : Cpl X H h t f len) (hn : NetC X H h n) (hr : RidC X h) (hp : onP (xS X) h n t r (xP X) len bh r' h') (htb : 13 < t ∧ t + 4 < 29) (hrb : 29 ≤ r ∧ r + 2 < 35) :
    ∃ len' : Nat, Cpl X H h' t (xRun X f len (xCrs X f bh)) len' ∧ (∀ j, 0 ≤ j ∧ j < 3 → h' 40 j = poS (ridP f) (xV X f) (xWi X f) (xP X) j) ∧
    r' = some (pI (if xCrs X f bh ≠ 2 ∧ 0 ≤ xE X (2 * f 0 + xCrs X f bh) then xCrs X f bh else 2)) ∧
    h' 35 3 = xRun X f len (xCrs X f bh) 1 - f 1 ∧
    h' 35 2 = (bset (fun p => decide (mS f p ≠ -1 ∧ mS (xRun X f len (xCrs X f bh)) p = -1)) (xP X) : Int) ∧
    h' 35 1 = (if xCrs X f bh ≠ 2 ∧ 0 ≤ xE X (2 * f 0 + xCrs X f bh) then (bset (lefP f (xAl X f len (xCrs X f bh))) (xC X) : Int) else 0) := by
  have hcb := xCrs_b (X := X) (f := f) (bh := bh)
  obtain ⟨hfr, h40, hst, hgo⟩ := hp
  rw [cr_crs hX hc hn hr] at hst hgo
  generalize xCrs X f bh = c at hcb hst hgo ⊢
  obtain ⟨x1, x2, x3, x4, x5, x6, x7, x8, x9⟩ := id hX
  obtain ⟨hf, e0, e1, e2, e3, ep, ea, es⟩ := id hc
  have hen := hf.1
  have het : ∀ c' : Int, c' = 0 ∨ c' = 1 → h (n + 1) (2 * h t 0 + c') = xE X (2 * f 0 + c') ∧ h (n + 2) (2 * h t 0 + c') = xM X (2 * f 0 + c') := fun c' hc' => by
    rw [e0]
    exact hn.1 _ (by omega) (by omega)
  have h40' : ∀ j, 0 ≤ j ∧ j < 3 → h' 40 j = poS (ridP f) (xV X f) (xWi X f) (xP X) j := fun j hj => by
    rw [h40]
    exact cr_al hX hc hn hr hj
  have hord : h' (t + 1) = h (t + 1) := hfr (t + 1) (by omega) (by omega) (by omega) (by omega) (by omega) (by omega) (by omega)
  by_cases q : c ≠ 2 ∧ 0 ≤ xE X (2 * f 0 + c)
  · have hcc := het c (by omega)
    have x5' := x5 (2 * f 0 + c) (by omega) (by omega)
    obtain ⟨g1, g2, g3, g4, g5, g6, g7, g8⟩ := hgo (by rw [hcc.1]; omega) c (2 * h t 0 + c) _ rfl rfl rfl
    rw [cr_along hX hc hn hr] at g2 g3 g4 g6
    rw [hcc.1, hcc.2] at g2
    rw [hcc.1] at g5 g7
    rw [hcc.2] at g8
    have hal := algS_b (fun i => decide (xVote X f (fun p => decide (mS f p = caS f i (xC X))) = c)) len 0
    have eR : xRun X f len c = xGo X f (xAl X f len c) (2 * f 0 + c) := by
      unfold xRun
      rw [if_pos q]
      rfl
    have hale : xAl X f len c ≤ len := by unfold xAl; omega
    rw [eR]
    obtain ⟨a, ha⟩ : ∃ a, a = xAl X f len c := ⟨_, rfl⟩
    rw [← ha] at g2 g3 g4 g6 hale ⊢
    have hfo := fOK_go (c := c) hX hf hale (by omega) q.2
    have hpl : ∀ k : Nat, k < xC X → -1 ≤ mP f k := fun k hk => by have := hf.2.2.2.2.1 k hk; omega
    have gp : ∀ k : Nat, k < xC X → h' (t + 2) k = mP (xGo X f a (2 * f 0 + c)) k := fun k hk => by
      rw [g3, shF_pl hf hale hk (len - a) (by omega), xGo_P x4 hk, ep k hk]
      have := hf.2.2.2.2.1 k hk
      by_cases z : (a : Int) ≤ mP f k
      · rw [if_pos (by omega), if_pos z]
      · rw [if_neg (by omega), if_neg z]
    have ga : ∀ k : Nat, k < xC X → mP (xGo X f a (2 * f 0 + c)) k = -1 → h' (t + 3) k = mA (xGo X f a (2 * f 0 + c)) k := fun k hk hm => by
      rw [xGo_P x4 hk] at hm
      rw [g4, shF_pl hf hale hk (len - a) (by omega), xGo_A x4 hk, e0]
      have := hf.2.2.2.2.1 k hk
      by_cases z : (a : Int) ≤ mP f k
      · rw [if_pos (by omega), if_pos z]
      · rw [if_neg z] at hm
        rw [if_neg (by omega), if_neg z]
        exact ea k hk hm
    have ghal : ∀ z : Int, 0 ≤ z → z < xC X → halS (xE X (2 * f 0 + c)) (h' (t + 2)) (h' (t + 3)) z = halS (xE X (2 * f 0 + c)) (mP (xGo X f a (2 * f 0 + c))) (mA (xGo X f a (2 * f 0 + c))) z := fun z z0 z1 => by
      obtain ⟨k, rfl⟩ := Int.eq_ofNat_of_zero_le z0
      have hk : k < xC X := by omega
      unfold halS
      have y1 := gp k hk
      have y2 := ga k hk
      show (if h' (t + 2) (k : Int) = -1 then h' (t + 3) (k : Int) else _) = (if mP (xGo X f a (2 * f 0 + c)) (k : Int) = -1 then mA (xGo X f a (2 * f 0 + c)) (k : Int) else _)
      rw [y1]
      by_cases y : mP (xGo X f a (2 * f 0 + c)) (k : Int) = -1
      · rw [if_pos y, if_pos y, y2 y]
      · rw [if_neg y, if_neg y]
    have gs : ∀ p : Nat, p < xP X → mS (xGo X f a (2 * f 0 + c)) p = if mS f p ≠ -1 ∧ halS (xE X (2 * f 0 + c)) (h' (t + 2)) (h' (t + 3)) (mS f p) = xW X p then -1 else mS f p := fun p hp => by
      have hs := hf.2.2.2.2.2 p hp
      rw [xGo_S x4 hp (by omega) hpl]
      by_cases z : mS f p = -1
      · rw [if_neg (fun y => y.1 z), if_neg (fun y => y.1 z)]
      · rw [ghal _ (by omega) (by omega)]
    refine ⟨a, ⟨by rw [hord]; exact hfo, ?_, ?_, ?_, ?_, gp, ga, fun p hp => ?_⟩, h40', by rw [g1, if_pos q], ?_, ?_, ?_⟩
    · rw [g2, xGo_0]
      simp (disch := omega) only [fup_n, fup_s]
    · rw [g2, xGo_1, fup_s, e1]
    · rw [g2]
      simp (disch := omega) only [fup_n]
      exact e2
    · rw [g2]
      simp (disch := omega) only [fup_n, fup_s]
    · rw [g5, gs p hp]
      unfold outF
      rw [es p hp, (hr.2 p hp).1]
      by_cases y : mS f p ≠ -1 ∧ halS (xE X (2 * f 0 + c)) (h' (t + 2)) (h' (t + 3)) (mS f p) = xW X p
      · rw [if_pos ⟨by omega, by omega, y⟩, if_pos y]
      · rw [if_neg (fun w => y w.2.2), if_neg y]
    · rw [g8, xGo_1]
      omega
    · rw [g7]
      congr 1
      refine bset_congr (fun p hp => ?_)
      rw [es p hp, (hr.2 p hp).1, gs p hp]
      by_cases y : mS f p ≠ -1 ∧ halS (xE X (2 * f 0 + c)) (h' (t + 2)) (h' (t + 3)) (mS f p) = xW X p
      · rw [if_pos y]
        simp [y.1, y.2]
      · rw [if_neg y]
        by_cases y2 : mS f p = -1
        · simp [y2]
        · have y3 : ¬ halS (xE X (2 * f 0 + c)) (h' (t + 2)) (h' (t + 3)) (mS f p) = xW X p := fun w => y ⟨y2, w⟩
          simp [y2, y3]
    · rw [g6, if_pos q]
      have hsb : ∀ k : Nat, a + k ≤ len → shB (h (t + 1)) a k = bset (fun c' => decide ((a : Int) ≤ mP f c' ∧ mP f c' < ((a + k : Nat) : Int))) (xC X) := by
        intro k
        induction k with
        | zero =>
          intro _
          have : bset (fun c' : Nat => decide ((a : Int) ≤ mP f c' ∧ mP f c' < ((a + 0 : Nat) : Int))) (xC X) = 0 := by
            apply Nat.eq_of_testBit_eq
            intro i
            rw [bset_bit, Nat.zero_testBit]
            rw [decide_eq_false (p := (a : Int) ≤ mP f i ∧ mP f i < ((a + 0 : Nat) : Int)) (by omega), Bool.and_false]
          rw [this]
          rfl
        | succ k ih =>
          intro hk
          show shB (h (t + 1)) a k ||| 2 ^ (h (t + 1) ((a + k : Nat) : Int)).toNat = _
          rw [ih (by omega)]
          have ho := hf.2.2.2.1 (a + k) (by omega)
          apply Nat.eq_of_testBit_eq
          intro i
          rw [Nat.testBit_or, bset_bit, bset_bit, Nat.testBit_two_pow]
          by_cases hi : i < xC X
          · have hpi := hf.2.2.2.2.1 i hi
            by_cases y : (h (t + 1) ((a + k : Nat) : Int)).toNat = i
            · have y2 : mP f i = ((a + k : Nat) : Int) := by
                have := ho.2.2
                rw [show h (t + 1) ((a + k : Nat) : Int) = (i : Int) by omega] at this
                exact this
              rw [decide_eq_true y, decide_eq_true (p := (a : Int) ≤ mP f i ∧ mP f i < ((a + (k + 1) : Nat) : Int)) (by omega), decide_eq_true hi]
              simp
            · have y2 : mP f i ≠ ((a + k : Nat) : Int) := fun z => y (by rw [z] at hpi; omega)
              rw [decide_eq_false y, Bool.or_false]
              congr 1
              apply decide_eq_decide.mpr
              omega
          · rw [decide_eq_false hi, decide_eq_false (p := (h (t + 1) ((a + k : Nat) : Int)).toNat = i) (by omega)]
            simp
      rw [hsb (len - a) (by omega)]
      congr 1
      refine bset_congr (fun i hi => ?_)
      have hpi := hf.2.2.2.2.1 i hi
      unfold lefP
      apply decide_eq_decide.mpr
      omega
  · have hq2 : c = 2 ∨ h (n + 1) (2 * h t 0 + c) = -1 := by
      by_cases z : c = 2
      · exact Or.inl z
      · have hcc := het c (by omega)
        have x5' := x5 (2 * f 0 + c) (by omega) (by omega)
        rw [hcc.1]
        omega
    obtain ⟨g1, g2, g3, g4, g5, g6, g7, g8⟩ := hst hq2
    have eR : xRun X f len c = fup f 1 (f 1 + 1) := by
      unfold xRun
      rw [if_neg q]
    rw [eR]
    have hf1 := hf.2.1
    refine ⟨len, ⟨by rw [hord]; exact fOK_stay hf (by omega), ?_, ?_, ?_, ?_, fun k hk => ?_, fun k hk hm => ?_, fun p hp => ?_⟩, h40', by rw [g1, if_neg q], ?_, ?_, by rw [g6, if_neg q]⟩
    · rw [g2, fup_n (by omega), fup_n (by omega)]; exact e0
    · rw [g2, fup_s, fup_s, e1]
    · rw [g2, fup_n (by omega)]; exact e2
    · rw [g2, fup_n (by omega)]; exact e3
    · rw [g3, fup_mP (by omega)]; exact ep k hk
    · rw [fup_mP (by omega)] at hm
      rw [g4, fup_mA (by omega)]; exact ea k hk hm
    · rw [g5, fup_mS (by omega)]; exact es p hp
    · rw [g8, fup_s]; omega
    · rw [g7]
      have : bset (fun p : Nat => decide (mS f p ≠ -1 ∧ mS (fup f 1 (f 1 + 1)) p = -1)) (xP X) = 0 := by
        apply Nat.eq_of_testBit_eq
        intro i
        rw [bset_bit, Nat.zero_testBit, fup_mS (by omega)]
        rw [decide_eq_false (p := mS f i ≠ -1 ∧ mS f i = -1) (by omega), Bool.and_false]
      rw [this]
      rfl
end CR
