/-! how likely a vote is -/
def odT (p n x : Nat) : Nat := (10 - p) ^ pop 12 x * p ^ (n - pop 12 x)
def odV (V W : Int → Int) (np x : Nat) : Int := chS (poS x.testBit V W np 0) (poS x.testBit V W np 1) (poS x.testBit V W np 2)
def odF (V W : Int → Int) (np p n : Nat) (v : Int) (x : Nat) (s : Nat) : Nat := s + (if odV V W np x = v then odT p n x else 0)
theorem pop_sub {x a : Nat} (h : sub2 x a) : pop 12 x ≤ pop 12 a := by
  have e : a &&& x = x := by
    apply Nat.eq_of_testBit_eq
    intro i
    rw [Nat.testBit_and]
    cases hq : x.testBit i
    · simp
    · rw [h i hq]; rfl
  have := (pop_and (x := a) (o := x) 12).1
  rw [e] at this
  exact this
theorem odT_b {p n x : Nat} (hp : p ≤ 10) (hx : pop 12 x ≤ n) (hn : n ≤ 8) : odT p n x ≤ 100000000 := by
  unfold odT
  have h1 : (10 - p) ^ pop 12 x ≤ 10 ^ pop 12 x := Nat.pow_le_pow_left (by omega) _
  have h2 : p ^ (n - pop 12 x) ≤ 10 ^ (n - pop 12 x) := Nat.pow_le_pow_left hp _
  have h3 := Nat.mul_le_mul h1 h2
  rw [← Nat.pow_add, show pop 12 x + (n - pop 12 x) = n by omega] at h3
  have h4 : 10 ^ n ≤ 10 ^ 8 := Nat.pow_le_pow_right (by omega) hn
  omega
def odN (V W : Int → Int) (np p n : Nat) (v : Int) (a : Nat) : Nat → Nat := it (fun i => odF V W np p n v (dep 12 a i)) 0
theorem odN_b {V W : Int → Int} {np p n a : Nat} {v : Int} (hp : p ≤ 10) (hn : n = pop 12 a) (hn8 : n ≤ 8) : ∀ i : Nat, odN V W np p n v a i ≤ 100000000 * i
  | 0 => Nat.le_refl _
  | i + 1 => by
    have ih := odN_b (V := V) (W := W) (np := np) (v := v) hp hn hn8 i
    have ht := odT_b (x := dep 12 a i) hp (by rw [hn]; exact pop_sub (dep_sub 12 a i)) hn8
    show odN V W np p n v a i + (if _ then odT p n (dep 12 a i) else 0) ≤ _
    split <;> omega
def odG (V W : Int → Int) (np p n : Nat) (v : Int) (a x : Nat) (s : Nat) : Nat := if x ≤ a ∧ bset (fun i => x.testBit i && !a.testBit i) 12 = 0 then odF V W np p n v x s else s
theorem od_same {V W : Int → Int} {np p n a : Nat} {v : Int} (ha : a < 4096) : it (odG V W np p n v a) 0 (a + 1) = odN V W np p n v a (2 ^ pop 12 a) :=
  it_subs ha (fun x s hx => by
    unfold odG
    have hxl := sub2_le hx
    rw [if_pos ⟨hxl, (sub_0 (by omega)).mpr hx⟩]) (fun x s hx => by
    unfold odG
    rw [if_neg (fun z => hx ((sub_0 (by omega)).mp z.2))])
theorem odG_b {V W : Int → Int} {np p n a : Nat} {v : Int} (ha : a < 4096) (hp : p ≤ 10) (hn : n = pop 12 a) (hn8 : n ≤ 8) : ∀ x : Nat, it (odG V W np p n v a) 0 x ≤ 100000000 * x
  | 0 => Nat.le_refl _
  | x + 1 => by
    have ih := odG_b (V := V) (W := W) (np := np) (v := v) ha hp hn hn8 x
    show odG V W np p n v a x (it (odG V W np p n v a) 0 x) ≤ _
    generalize it (odG V W np p n v a) 0 x = s at ih ⊢
    unfold odG odF
    split
    · rename_i q
      have ht := odT_b (x := x) hp (by rw [hn]; exact pop_sub ((sub_0 (by omega)).mp q.2)) hn8
      split <;> omega
    · omega
/-- counting bits one by one -/
def cnB (S : Nat) : Nat → Nat
  | 0 => 0
  | n + 1 => cnB S n + (if S.testBit n then 1 else 0)
theorem cnB_pop {S n : Nat} (hS : ∀ i, S.testBit i = true → i < n) (hn : n ≤ 12) : cnB S n = pop 12 S := by
  have e : bset S.testBit n = S := by
    apply Nat.eq_of_testBit_eq
    intro i
    rw [bset_bit]
    cases hq : S.testBit i
    · simp
    · rw [decide_eq_true (hS i hq)]; rfl
  have h1 := pop_bset (P := S.testBit) (n := n) hn
  rw [e] at h1
  have h2 : ∀ m : Nat, (cnB S m : Int) = sm (fun p => if S.testBit p = true then 1 else 0) m := fun m => by
    induction m with
    | zero => rfl
    | succ m ih =>
      show ((cnB S m + (if S.testBit m then 1 else 0) : Nat) : Int) = sm _ m + (if S.testBit m = true then 1 else 0)
      rw [← ih]
      split <;> omega
  have := h2 n
  omega
theorem cnB_le {x a : Nat} (h : sub2 x a) : ∀ n, cnB x n ≤ cnB a n
  | 0 => Nat.le_refl _
  | n + 1 => by
    have ih := cnB_le h n
    show cnB x n + (if x.testBit n then 1 else 0) ≤ cnB a n + (if a.testBit n then 1 else 0)
    cases hq : x.testBit n
    · simp; omega
    · rw [h n hq]; simp; omega
section OD
variable {k : Nat} {h h1 h2 h3 h4 : Nat → Int → Int} {sem : Sem} {H np nc len : Nat} {X : Cx}
theorem T_X11_raised {b n : Nat} (hb : b ≤ 10) (hn : n ≤ 12) : MT mX11_raised 0 [pI b, pI n] h (some (pL ((b ^ n : Nat) : Int))) h := by
  refine MT.of (fun Q hQ => (?_ : RR mX11_raised _ _ _ _ [pI b, pI n, pU, pU, pU] _ _ _))
  have L : ∀ (j i : Nat), i + j = n → RR mX11_raised 0 0 0 5 [pI b, pI n, pL ((b ^ i : Nat) : Int), pU, pI i] [] (shp0, rf0, h) Q := by
    intro j
    induction j with
    | zero =>
      intro i hi
      obtain rfl : i = n := by omega
      refine R_iload dX11_raised_5 rfl (?_ : RR _ _ _ _ 7 _ _ _ _)
      refine R_iload_n dX11_raised_7 rfl (?_ : RR _ _ _ _ 8 _ _ _ _)
      refine R_icmp_ge (t := 22) dX11_raised_8 rfl (fun c8 => ?_) (fun c8 => ?_)
      rotate_left
      · exfalso; omega
      refine R_lload_n dX11_raised_22 rfl (?_ : RR _ _ _ _ 23 _ _ _ _)
      exact R_lreturn dX11_raised_23 trivial hQ
    | succ j ih =>
      intro i hi
      have IH := ih (i + 1) (by omega)
      rw [Nat.pow_succ, Int.natCast_mul] at IH
      refine R_iload dX11_raised_5 rfl (?_ : RR _ _ _ _ 7 _ _ _ _)
      refine R_iload_n dX11_raised_7 rfl (?_ : RR _ _ _ _ 8 _ _ _ _)
      refine R_icmp_ge (t := 22) dX11_raised_8 rfl (fun c8 => ?_) (fun c8 => ?_)
      · exfalso; omega
      refine R_lload_n dX11_raised_11 rfl (?_ : RR _ _ _ _ 12 _ _ _ _)
      refine R_iload_n dX11_raised_12 rfl (?_ : RR _ _ _ _ 13 _ _ _ _)
      refine R_i2l dX11_raised_13 (by first | assumption | omega) (?_ : RR _ _ _ _ 14 _ _ _ _)
      refine R_lmul dX11_raised_14 (?_ : RR _ _ _ _ 15 _ _ _ _)
      refine R_lstore_n dX11_raised_15 (Nat.le_of_ble_eq_true rfl) (?_ : RR _ _ _ _ 16 [_, _, _, _, _] _ _ _)
      refine R_iinc dX11_raised_16 rfl (Nat.le_of_ble_eq_true rfl) (?_ : RR _ _ _ _ 19 [_, _, _, _, _] _ _ _)
      refine R_goto (t := 5) dX11_raised_19 rfl (?_ : RR _ _ _ _ 5 _ _ _ _)
      exact IH
  refine R_lconst (z := 1) dX11_raised_0 rfl (?_ : RR _ _ _ _ 1 _ _ _ _)
  refine R_lstore_n dX11_raised_1 (Nat.le_of_ble_eq_true rfl) (?_ : RR _ _ _ _ 2 [_, _, _, _, _] _ _ _)
  refine R_iconst dX11_raised_2 (?_ : RR _ _ _ _ 3 _ _ _ _)
  refine R_istore dX11_raised_3 (Nat.le_of_ble_eq_true rfl) (?_ : RR _ _ _ _ 5 [_, _, _, _, _] _ _ _)
  exact L n 0 (by omega)
/-- the class: one set -/
theorem OD_132 {Q : Option PV → PH → Prop} {c v p a n s0 s9 i z : Int} {w11 : PV} (hnx : iAnd (s0 - a) a = s9) (KK : RR mX11_odds 5 0 0 81 [pR 0, pI c, pI v, pI p, pI a, pI n, pR 36, pL z, pU, pI s9, pI (i + 1), w11] [] (shp0, rf0, h1) Q) : RR mX11_odds 5 0 0 132 [pR 0, pI c, pI v, pI p, pI a, pI n, pR 36, pL z, pU, pI s0, pI i, w11] [] (shp0, rf0, h1) Q := by
  refine R_iload dX11_odds_132 rfl (?_ : RR _ _ _ _ 134 _ _ _ _)
  refine R_iload dX11_odds_134 rfl (?_ : RR _ _ _ _ 136 _ _ _ _)
  refine R_isub dX11_odds_136 (?_ : RR _ _ _ _ 137 _ _ _ _)
  refine R_iload dX11_odds_137 rfl (?_ : RR _ _ _ _ 139 _ _ _ _)
  refine R_iand dX11_odds_139 (?_ : RR _ _ _ _ 140 _ _ _ _)
  rw [hnx]
  refine R_istore dX11_odds_140 (Nat.le_of_ble_eq_true rfl) (?_ : RR _ _ _ _ 142 [_, _, _, _, _, _, _, _, _, _, _, _] _ _ _)
  refine R_iinc dX11_odds_142 rfl (Nat.le_of_ble_eq_true rfl) (?_ : RR _ _ _ _ 145 [_, _, _, _, _, _, _, _, _, _, _, _] _ _ _)
  refine R_goto (t := 81) dX11_odds_145 rfl (?_ : RR _ _ _ _ 81 _ _ _ _)
  exact KK
theorem OD_81 {Q : Option PV → PH → Prop} {c v a i val : Int} {n p x z K : Nat} {w11 : PV} {h9 : Nat → Int → Int} (hx : x < 4096) (hK : K = 2 ^ n) (hn8 : n ≤ 8) (hi : i < K) (hir : r32 i) (hp : p ≤ 10) (hv : 0 ≤ v ∧ v ≤ 2) (hval : 0 ≤ val ∧ val ≤ 2) (hpx : pop 12 x ≤ n) (hT : MT mX10_voteAmong 1 [pR 36, pI x] h1 (some (pI val)) h9) (KK : ∀ w11 : PV, RR mX11_odds 5 0 0 132 [pR 0, pI c, pI v, pI p, pI a, pI n, pR 36, pL ((z + (if val = v then odT p n x else 0) : Nat) : Int), pU, pI x, pI i, w11] [] (shp0, rf0, h9) Q) : RR mX11_odds 5 0 0 81 [pR 0, pI c, pI v, pI p, pI a, pI n, pR 36, pL z, pU, pI x, pI i, w11] [] (shp0, rf0, h1) Q := by
  have hsh := iShl_one n (by omega)
  rw [← hK] at hsh
  have hKb : K ≤ 256 := by rw [hK]; exact Nat.le_trans (Nat.pow_le_pow_right (by omega) hn8) (by decide)
  by_cases q : val = v
  · rw [if_pos q] at KK
    unfold odT at KK
    rw [Int.natCast_add, Int.natCast_mul] at KK
    have r1 := T_X11_raised (h := h9) (b := 10 - p) (n := pop 12 x) (by omega) (pop_le 12 x)
    have r2 := T_X11_raised (h := h9) (b := p) (n := n - pop 12 x) hp (by omega)
    refine R_iload dX11_odds_81 rfl (?_ : RR _ _ _ _ 83 _ _ _ _)
    refine R_iconst dX11_odds_83 (?_ : RR _ _ _ _ 84 _ _ _ _)
    refine R_iload dX11_odds_84 rfl (?_ : RR _ _ _ _ 86 _ _ _ _)
    refine R_ishl dX11_odds_86 (?_ : RR _ _ _ _ 87 _ _ _ _)
    rw [hsh]
    refine R_icmp_ge (t := 148) dX11_odds_87 rfl (fun c87 => ?_) (fun c87 => ?_)
    · exfalso; omega
    refine R_aload dX11_odds_90 rfl (?_ : RR _ _ _ _ 92 _ _ _ _)
    refine R_iload dX11_odds_92 rfl (?_ : RR _ _ _ _ 94 _ _ _ _)
    refine R_cVi1 dX11_odds_94 mvX10_voteAmong mlX11_390 (by decide) (by decide) (Nat.le_of_ble_eq_true rfl) (Nat.le_of_ble_eq_true rfl) (hT) (?_ : RR _ _ _ _ 97 _ _ _ _)
    refine R_iload_n dX11_odds_97 rfl (?_ : RR _ _ _ _ 98 _ _ _ _)
    refine R_icmp_ne (t := 132) dX11_odds_98 rfl (fun c98 => ?_) (fun c98 => ?_)
    · exfalso; omega
    refine R_iload dX11_odds_101 rfl (?_ : RR _ _ _ _ 103 _ _ _ _)
    refine R_cSi1 dX11_odds_103 msJ6_bitCount_0f7a4 mlX11_325 (by decide) (Nat.le_of_ble_eq_true rfl) (Nat.le_of_ble_eq_true rfl) (T_J6_bitCount_0f7a4) (?_ : RR _ _ _ _ 106 _ _ _ _)
    refine R_istore dX11_odds_106 (Nat.le_of_ble_eq_true rfl) (?_ : RR _ _ _ _ 108 [_, _, _, _, _, _, _, _, _, _, _, _] _ _ _)
    refine R_lload dX11_odds_108 rfl (?_ : RR _ _ _ _ 110 _ _ _ _)
    refine R_bipush dX11_odds_110 rfl (?_ : RR _ _ _ _ 112 _ _ _ _)
    refine R_iload_n dX11_odds_112 rfl (?_ : RR _ _ _ _ 113 _ _ _ _)
    refine R_isub dX11_odds_113 (?_ : RR _ _ _ _ 114 _ _ _ _)
    rw [show (10 : Int) - (p : Int) = ((10 - p : Nat) : Int) by omega]
    refine R_iload dX11_odds_114 rfl (?_ : RR _ _ _ _ 116 _ _ _ _)
    refine R_cSl2 dX11_odds_116 msX11_raised mlX11_393 (by decide) (Nat.le_of_ble_eq_true rfl) (Nat.le_of_ble_eq_true rfl) (r1) (?_ : RR _ _ _ _ 119 _ _ _ _)
    refine R_iload_n dX11_odds_119 rfl (?_ : RR _ _ _ _ 120 _ _ _ _)
    refine R_iload dX11_odds_120 rfl (?_ : RR _ _ _ _ 122 _ _ _ _)
    refine R_iload dX11_odds_122 rfl (?_ : RR _ _ _ _ 124 _ _ _ _)
    refine R_isub dX11_odds_124 (?_ : RR _ _ _ _ 125 _ _ _ _)
    rw [show (n : Int) - ((pop 12 x : Nat) : Int) = ((n - pop 12 x : Nat) : Int) by omega]
    refine R_cSl2 dX11_odds_125 msX11_raised mlX11_393 (by decide) (Nat.le_of_ble_eq_true rfl) (Nat.le_of_ble_eq_true rfl) (r2) (?_ : RR _ _ _ _ 128 _ _ _ _)
    refine R_lmul dX11_odds_128 (?_ : RR _ _ _ _ 129 _ _ _ _)
    refine R_ladd dX11_odds_129 (?_ : RR _ _ _ _ 130 _ _ _ _)
    refine R_lstore dX11_odds_130 (Nat.le_of_ble_eq_true rfl) (?_ : RR _ _ _ _ 132 [_, _, _, _, _, _, _, _, _, _, _, _] _ _ _)
    exact KK _
  · rw [if_neg q, Nat.add_zero] at KK
    refine R_iload dX11_odds_81 rfl (?_ : RR _ _ _ _ 83 _ _ _ _)
    refine R_iconst dX11_odds_83 (?_ : RR _ _ _ _ 84 _ _ _ _)
    refine R_iload dX11_odds_84 rfl (?_ : RR _ _ _ _ 86 _ _ _ _)
    refine R_ishl dX11_odds_86 (?_ : RR _ _ _ _ 87 _ _ _ _)
    rw [hsh]
    refine R_icmp_ge (t := 148) dX11_odds_87 rfl (fun c87 => ?_) (fun c87 => ?_)
    · exfalso; omega
    refine R_aload dX11_odds_90 rfl (?_ : RR _ _ _ _ 92 _ _ _ _)
    refine R_iload dX11_odds_92 rfl (?_ : RR _ _ _ _ 94 _ _ _ _)
    refine R_cVi1 dX11_odds_94 mvX10_voteAmong mlX11_390 (by decide) (by decide) (Nat.le_of_ble_eq_true rfl) (Nat.le_of_ble_eq_true rfl) (hT) (?_ : RR _ _ _ _ 97 _ _ _ _)
    refine R_iload_n dX11_odds_97 rfl (?_ : RR _ _ _ _ 98 _ _ _ _)
    refine R_icmp_ne (t := 132) dX11_odds_98 rfl (fun c98 => ?_) (fun c98 => ?_)
    rotate_left
    · exfalso; omega
    exact KK _
theorem C_odds {c p a n : Nat} {v : Int} (hs : SRx k h sem H np nc len) (hX : X = cxM sem h np nc) (hc : c < nc) (hv : 0 ≤ v ∧ v ≤ 2) (hp : p ≤ 10) (ha : a = bset (fun p => decide (mS (h 154) p = (c : Int))) np) (hn : n = pop 12 a) (hn8 : n ≤ 8) : RR mX11_odds 5 0 0 0 (pm_ent [pR 0, pI c, pI v, pI p] 12) [] (shp0, rf0, h) (cQ h 0 (some (frL (odN (xV X (h 154)) (xWi X (h 154)) np p n v a (2 ^ n)) (10 ^ n)).reverse)) := by
  have x6 := sR6 hs
  have x12 := sR12 hs
  have h11 : h 11 0 = np := hs.1.2.2.2.2.2.2.1.2.1.1
  have hcp := hs.2.2.2.1.1
  have e2 : h 14 2 = nc := hcp.2.2.2.1
  have t14 := isTr_14
  have hTT := C_held hs
  rw [← hX] at hTT
  have hXP : xP X = np := by rw [hX]; rfl
  have al := bset_4096 (P := fun p => decide (mS (h 154) p = (c : Int))) (n := np) x12
  rw [← ha] at al
  have hab : ∀ i, a.testBit i = true → i < np ∧ mS (h 154) i = c := fun i hi => by
    rw [ha, bset_bit] at hi
    simpa using hi
  have hin := T_X9_inside (t := 14) (n := np) (c := (c : Int)) (h := h)
  rw [show bset (fun j => decide (h (14 + 4) j = (c : Int))) np = a by rw [ha]; exact bset_congr (fun p hp => by rw [show h (14 + 4) p = mS (h 154) p from hcp.2.2.2.2.2.2.2 p hp])] at hin
  obtain ⟨K, hK⟩ : ∃ K, K = 2 ^ n := ⟨_, rfl⟩
  have hKb : K ≤ 256 := by rw [hK]; exact Nat.le_trans (Nat.pow_le_pow_right (by omega) hn8) (by decide)
  have h10 : 1 ≤ 10 ^ n ∧ 10 ^ n ≤ 100000000 := ⟨Nat.pow_pos (by omega), Nat.le_trans (Nat.pow_le_pow_right (by omega) hn8) (by decide)⟩
  obtain ⟨D, hD⟩ : ∃ D, D = 10 ^ n := ⟨_, rfl⟩
  have hNb := odN_b (V := xV X (h 154)) (W := xWi X (h 154)) (np := np) (v := v) hp hn hn8
  rw [← hK, ← hD]
  rw [← hD] at h10
  show RR _ _ _ _ _ [pR 0, pI c, pI v, pI p, pU, pU, pU, pU, pU, pU, pU, pU] _ _ _
  have KK : ∀ h5 : Nat → Int → Int, heldP X (h 154) h h5 → RR mX11_odds 5 0 0 70 [pR 0, pI c, pI v, pI p, pI a, pI n, pU, pU, pU, pU, pU, pU] [pR 36] (shp0, rf0, h5) (cQ h 0 (some (frL (odN (xV X (h 154)) (xWi X (h 154)) np p n v a K) D).reverse)) := by
    intro h5 hh
    have hva : ∀ (x : Nat) (s : Int → Int), sub2 x a → x < 4096 → ∃ s', MT mX10_voteAmong 1 [pR 36, pI x] (rup h5 42 s) (some (pI (odV (xV X (h 154)) (xWi X (h 154)) np x))) (rup h5 42 s') := fun x s hx hxl => by
      have hT := T_X10_voteAmong (h := rup h5 42 s) (S := x) hxl (fun p hp => by
        obtain ⟨v1, v2⟩ := hh.2.1 p (by rw [hXP]; exact (hab p (hx p hp)).1)
        rw [rup_n (by omega), v1]
        exact xV_b) (fun p hp => by
        obtain ⟨v1, v2⟩ := hh.2.1 p (by rw [hXP]; exact (hab p (hx p hp)).1)
        rw [rup_n (by omega), v2]
        have := xWi_b (X := X) (f := h 154) (p := p) (by rw [(hab p (hx p hp)).2]; omega)
        omega)
      have key : ∀ j : Int, amG (h5 37) (h5 38) x 12 j = poS x.testBit (xV X (h 154)) (xWi X (h 154)) np j := fun j => by
        unfold amG poS
        rw [sm_tail (i := np) x12 (fun q h1 h2 => if_neg (fun z => by have := (hab q (hx q z.1)).1; omega))]
        refine sm_congr (fun q hq => ?_)
        obtain ⟨v1, v2⟩ := hh.2.1 q (by rw [hXP]; exact hq)
        rw [v1, v2]
      rw [rup_n (by omega), rup_n (by omega), rup_rup, key 0, key 1, key 2] at hT
      exact ⟨_, hT⟩
    have L : ∀ (j i : Nat) (t : Int → Int) (w11 : PV), i + j = K → RR mX11_odds 5 0 0 81 [pR 0, pI c, pI v, pI p, pI a, pI n, pR 36, pL (odN (xV X (h 154)) (xWi X (h 154)) np p n v a i : Nat), pU, pI (sv a i), pI i, w11] [] (shp0, rf0, rup h5 42 t) (cQ h 0 (some (frL (odN (xV X (h 154)) (xWi X (h 154)) np p n v a K) D).reverse)) := by
      intro j
      induction j with
      | zero =>
        intro i t w11 hi
        obtain rfl : i = K := by omega
        have hb := hNb i
        have hsh := iShl_one n (by omega)
        rw [← hK] at hsh
        have r1 := T_X11_raised (h := rup h5 42 t) (b := 10) (n := n) (by omega) (by omega)
        rw [← hD] at r1
        refine R_iload dX11_odds_81 rfl (?_ : RR _ _ _ _ 83 _ _ _ _)
        refine R_iconst dX11_odds_83 (?_ : RR _ _ _ _ 84 _ _ _ _)
        refine R_iload dX11_odds_84 rfl (?_ : RR _ _ _ _ 86 _ _ _ _)
        refine R_ishl dX11_odds_86 (?_ : RR _ _ _ _ 87 _ _ _ _)
        rw [hsh]
        refine R_icmp_ge (t := 148) dX11_odds_87 rfl (fun c87 => ?_) (fun c87 => ?_)
        rotate_left
        · exfalso; omega
        refine R_aload_n dX11_odds_148 rfl (?_ : RR _ _ _ _ 149 _ _ _ _)
        refine R_lload dX11_odds_149 rfl (?_ : RR _ _ _ _ 151 _ _ _ _)
        refine R_bipush dX11_odds_151 rfl (?_ : RR _ _ _ _ 153 _ _ _ _)
        refine R_iload dX11_odds_153 rfl (?_ : RR _ _ _ _ 155 _ _ _ _)
        refine R_cSl2 dX11_odds_155 msX11_raised mlX11_393 (by decide) (Nat.le_of_ble_eq_true rfl) (Nat.le_of_ble_eq_true rfl) (r1) (?_ : RR _ _ _ _ 158 _ _ _ _)
        refine R_cVv2 dX11_odds_158 mvX11_tellFraction mlX11_339 (by decide) (by decide) (Nat.le_of_ble_eq_true rfl) (Nat.le_of_ble_eq_true rfl) (T_X11_tellFraction (by omega) (by omega)) (?_ : RR _ _ _ _ 161 _ _ _ _)
        refine R_iconst dX11_odds_161 (?_ : RR _ _ _ _ 162 _ _ _ _)
        exact R_ireturn dX11_odds_162 trivial (cQ_tl (cq_held hh) rfl)
      | succ j ih =>
        intro i t w11 hi
        have hiK : i < 2 ^ pop 12 a := by rw [← hn, ← hK]; omega
        have hnx := sv_nx (m := a) (i := i) al hiK
        have hs1 := sv_lt (m := a) (i := i) al
        have esv : sv a i = dep 12 a i := by unfold sv; rw [if_pos hiK]
        have hsx : sub2 (sv a i) a := by rw [esv]; exact dep_sub 12 a i
        obtain ⟨t2, hT⟩ := hva (sv a i) t hsx hs1
        have IH := fun w11 => ih (i + 1) t2 w11 (by omega)
        have e9 : odN (xV X (h 154)) (xWi X (h 154)) np p n v a (i + 1) = odN (xV X (h 154)) (xWi X (h 154)) np p n v a i + (if odV (xV X (h 154)) (xWi X (h 154)) np (sv a i) = v then odT p n (sv a i) else 0) := by rw [esv]; rfl
        rw [e9] at IH
        exact OD_81 hs1 hK hn8 (by omega) (by omega) hp hv chS_b (by rw [hn]; exact pop_sub hsx) hT (fun w11 => OD_132 hnx (IH _))
    have L0 := fun t w11 => L K 0 t w11 (by omega)
    rw [sv_0, show odN (xV X (h 154)) (xWi X (h 154)) np p n v a 0 = 0 from rfl] at L0
    have L1 := fun w11 => L0 (h5 42) w11
    rw [rup_self] at L1
    refine R_astore dX11_odds_70 (Nat.le_of_ble_eq_true rfl) (?_ : RR _ _ _ _ 72 [_, _, _, _, _, _, _, _, _, _, _, _] _ _ _)
    refine R_lconst (z := 0) dX11_odds_72 rfl (?_ : RR _ _ _ _ 73 _ _ _ _)
    refine R_lstore dX11_odds_73 (Nat.le_of_ble_eq_true rfl) (?_ : RR _ _ _ _ 75 [_, _, _, _, _, _, _, _, _, _, _, _] _ _ _)
    refine R_iconst dX11_odds_75 (?_ : RR _ _ _ _ 76 _ _ _ _)
    refine R_istore dX11_odds_76 (Nat.le_of_ble_eq_true rfl) (?_ : RR _ _ _ _ 78 [_, _, _, _, _, _, _, _, _, _, _, _] _ _ _)
    refine R_iconst dX11_odds_78 (?_ : RR _ _ _ _ 79 _ _ _ _)
    refine R_istore dX11_odds_79 (Nat.le_of_ble_eq_true rfl) (?_ : RR _ _ _ _ 81 [_, _, _, _, _, _, _, _, _, _, _, _] _ _ _)
    exact L1 _
  refine R_aload_n dX11_odds_0 rfl (?_ : RR _ _ _ _ 1 _ _ _ _)
  refine R_getr dX11_odds_1 flX11_36 cok_11 rfl (by decide) (?_ : RR _ _ _ _ 4 _ _ _ _)
  refine R_iload_n dX11_odds_4 rfl (?_ : RR _ _ _ _ 5 _ _ _ _)
  refine R_cVi1 dX11_odds_5 mvX9_has mlX11_174 (by decide) (by decide) (Nat.le_of_ble_eq_true rfl) (Nat.le_of_ble_eq_true rfl) (T_X9_has) (?_ : RR _ _ _ _ 8 _ _ _ _)
  rw [e2, if_pos (by omega)]
  refine R_if_eq (t := 30) dX11_odds_8 rfl (fun c8 => ?_) (fun c8 => ?_)
  · exfalso; omega
  refine R_iload_n dX11_odds_11 rfl (?_ : RR _ _ _ _ 12 _ _ _ _)
  refine R_if_lt (t := 30) dX11_odds_12 rfl (fun c12 => ?_) (fun c12 => ?_)
  · exfalso; omega
  refine R_iload_n dX11_odds_15 rfl (?_ : RR _ _ _ _ 16 _ _ _ _)
  refine R_iconst dX11_odds_16 (?_ : RR _ _ _ _ 17 _ _ _ _)
  refine R_icmp_gt (t := 30) dX11_odds_17 rfl (fun c17 => ?_) (fun c17 => ?_)
  · exfalso; omega
  refine R_iload_n dX11_odds_20 rfl (?_ : RR _ _ _ _ 21 _ _ _ _)
  refine R_if_lt (t := 30) dX11_odds_21 rfl (fun c21 => ?_) (fun c21 => ?_)
  · exfalso; omega
  refine R_iload_n dX11_odds_24 rfl (?_ : RR _ _ _ _ 25 _ _ _ _)
  refine R_bipush dX11_odds_25 rfl (?_ : RR _ _ _ _ 27 _ _ _ _)
  refine R_icmp_le (t := 32) dX11_odds_27 rfl (fun c27 => ?_) (fun c27 => ?_)
  rotate_left
  · exfalso; omega
  refine R_aload_n dX11_odds_32 rfl (?_ : RR _ _ _ _ 33 _ _ _ _)
  refine R_getr dX11_odds_33 flX11_36 cok_11 rfl (by decide) (?_ : RR _ _ _ _ 36 _ _ _ _)
  refine R_iload_n dX11_odds_36 rfl (?_ : RR _ _ _ _ 37 _ _ _ _)
  refine R_aload_n dX11_odds_37 rfl (?_ : RR _ _ _ _ 38 _ _ _ _)
  refine R_getr dX11_odds_38 flX11_29 cok_11 rfl (by decide) (?_ : RR _ _ _ _ 41 _ _ _ _)
  refine R_geti (z := 0) dX11_odds_41 flX11_116 cok_2 rfl (by decide) rfl (fun q41 => (?_ : RR _ _ _ _ 44 _ _ _ _))
  rw [h11] at q41 ⊢
  refine R_cVi2 dX11_odds_44 mvX9_inside mlX11_186 (by decide) (by decide) (Nat.le_of_ble_eq_true rfl) (Nat.le_of_ble_eq_true rfl) (hin) (?_ : RR _ _ _ _ 47 _ _ _ _)
  refine R_istore dX11_odds_47 (Nat.le_of_ble_eq_true rfl) (?_ : RR _ _ _ _ 49 [_, _, _, _, _, _, _, _, _, _, _, _] _ _ _)
  refine R_iload dX11_odds_49 rfl (?_ : RR _ _ _ _ 51 _ _ _ _)
  refine R_cSi1 dX11_odds_51 msJ6_bitCount_0f7a4 mlX11_325 (by decide) (Nat.le_of_ble_eq_true rfl) (Nat.le_of_ble_eq_true rfl) (T_J6_bitCount_0f7a4) (?_ : RR _ _ _ _ 54 _ _ _ _)
  rw [← hn]
  refine R_istore dX11_odds_54 (Nat.le_of_ble_eq_true rfl) (?_ : RR _ _ _ _ 56 [_, _, _, _, _, _, _, _, _, _, _, _] _ _ _)
  refine R_iload dX11_odds_56 rfl (?_ : RR _ _ _ _ 58 _ _ _ _)
  refine R_bipush dX11_odds_58 rfl (?_ : RR _ _ _ _ 60 _ _ _ _)
  refine R_icmp_le (t := 66) dX11_odds_60 rfl (fun c60 => ?_) (fun c60 => ?_)
  rotate_left
  · exfalso; omega
  refine R_aload_n dX11_odds_66 rfl (?_ : RR _ _ _ _ 67 _ _ _ _)
  refine R_qV0 dX11_odds_67 mvX11_heldVote mlX11_190 (by decide) (by decide) (Nat.le_of_ble_eq_true rfl) (Nat.le_of_ble_eq_true rfl) (hTT) (fun r9 g9 hq9 => (?_ : RR _ _ _ _ 70 _ _ _ _))
  obtain ⟨rfl, h5, rfl, hh⟩ := hq9
  show RR _ _ _ _ _ _ [pR 36] _ _
  exact KK h5 hh
end OD
