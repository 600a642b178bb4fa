theorem R_nzf {M : PMt} {d kc ks pc : Nat} {ls st : List PV} {g : PH} {Q : Option PV → PH → Prop} (k : pm_nz g → RR M d kc ks pc ls st g Q) : RR M d kc ks pc ls st g Q :=
  fun E p l e R s m args below meth c H locs cells slots Qf L hF h1 h2 h3 h4 hR hS hL hq => k hR.2.2 E p l e R s m args below meth c H locs cells slots Qf L hF h1 h2 h3 h4 hR hS hL hq
theorem nz_i {h : Nat → Int → Int} (hz : pm_nz (shp0, rf0, h)) {a k n : Nat} (hs : shp0[a]? = some (k, n)) (hk : k ≠ 102) (i : Int) : r32 (h a i) := (hz a (k, n) hs i).1 hk
theorem rup_id {h : Nat → Int → Int} {a : Nat} {f : Int → Int} (e : h a = f) : rup h a f = h := by rw [← e]; exact rup_self
/-- sums -/
def sm (g : Nat → Int) : Nat → Int
  | 0 => 0
  | n + 1 => sm g n + g n
theorem sm_b {g : Nat → Int} {B : Int} (hB : 0 ≤ B) (h : ∀ p, 0 ≤ g p ∧ g p ≤ B) : ∀ n : Nat, 0 ≤ sm g n ∧ sm g n ≤ B * n
  | 0 => by show 0 ≤ (0 : Int) ∧ (0 : Int) ≤ B * 0; omega
  | n + 1 => by
    have h1 := sm_b hB h n
    have h2 := h n
    show 0 ≤ sm g n + g n ∧ sm g n + g n ≤ B * ((n + 1 : Nat) : Int)
    rw [show ((n + 1 : Nat) : Int) = (n : Int) + 1 from rfl, Int.mul_add, Int.mul_one]
    omega
theorem sm_congr {g g' : Nat → Int} : ∀ {n : Nat}, (∀ p, p < n → g p = g' p) → sm g n = sm g' n
  | 0, _ => rfl
  | n + 1, h => by
    show sm g n + g n = sm g' n + g' n
    rw [sm_congr (fun p hp => h p (by omega)), h n (by omega)]
/-! what each wishes, and its votes -/
abbrev Sem : Type := Int → Int → Int → Int → Int → Int → Int
def halS (en : Int) (pl sd : Int → Int) (c : Int) : Int := if pl c = -1 then sd c else en
def thd (ds : Int → Int) (a w : Int) : Int := if ds (a * 9 + w) < 100000 then ds (a * 9 + w) else 99
def vtS (sem : Sem) (rank want ds se pl sd : Int → Int) (en nw : Int) (np : Nat) (p : Int) : Int := if se p = -1 then 0 else max 0 (min 99 (sem (rank p) (se p) (cn se (se p) np) (thd ds (halS en pl sd (se p)) (want p)) (if pl (se p) = -1 then 9 else pl (se p)) (nw % 60)))
def wiS (ex mi ds want se pl sd : Int → Int) (en : Int) (p : Int) : Int := if se p = -1 then -1 else wishS ex mi ds (halS en pl sd (se p)) (want p)
theorem vtS_b {sem : Sem} {rank want ds se pl sd : Int → Int} {en nw : Int} {np : Nat} {p : Int} : 0 ≤ vtS sem rank want ds se pl sd en nw np p ∧ vtS sem rank want ds se pl sd en nw np p ≤ 99 := by
  unfold vtS
  split <;> omega
/-- a row behind some passengers -/
def voF (V f : Int → Int) (n : Nat) : Int → Int := fun j => if 0 ≤ j ∧ j < n then V j else f j
theorem voF_0 {V f : Int → Int} : voF V f 0 = f := by
  funext j
  unfold voF
  rw [if_neg (by omega)]
theorem voF_s {V f : Int → Int} {n : Nat} {z : Int} (hz : z = V n) : fup (voF V f n) n z = voF V f (n + 1) := by
  funext j
  unfold fup voF
  by_cases hj : j = n
  · subst hj; subst hz; rw [if_pos rfl, if_pos (by omega)]
  · rw [if_neg hj]
    by_cases h2 : 0 ≤ j ∧ j < n
    · rw [if_pos h2, if_pos (by omega)]
    · rw [if_neg h2, if_neg (by omega)]
def suF (se V W f : Int → Int) (n : Nat) : Int → Int := fun j => if 0 ≤ j ∧ j < 18 then sm (fun p => if se p ≠ -1 ∧ 3 * se p + W p = j then V p else 0) n else f j
def alF (se pl V W f : Int → Int) (n : Nat) : Int → Int := fun j => if 0 ≤ j ∧ j < 3 then sm (fun p => if se p ≠ -1 ∧ pl (se p) ≠ -1 ∧ W p = j then V p else 0) n else f j
theorem suF_0 {se V W f : Int → Int} : suF se V W f 0 = zr f 18 := rfl
theorem alF_0 {se pl V W f : Int → Int} : alF se pl V W f 0 = zr f 3 := rfl
theorem suF_no {se V W f : Int → Int} {n : Nat} (h : se n = -1) : suF se V W f (n + 1) = suF se V W f n := by
  funext j
  unfold suF
  split
  · show sm _ n + (if se n ≠ -1 ∧ _ then V n else 0) = sm _ n
    rw [if_neg (fun q => q.1 h)]
    omega
  · rfl
theorem alF_no {se pl V W f : Int → Int} {n : Nat} (h : se n = -1 ∨ pl (se n) = -1) : alF se pl V W f (n + 1) = alF se pl V W f n := by
  funext j
  unfold alF
  split
  · show sm _ n + (if se n ≠ -1 ∧ pl (se n) ≠ -1 ∧ _ then V n else 0) = sm _ n
    rw [if_neg (fun q => h.elim q.1 q.2.1)]
    omega
  · rfl
theorem suF_yes {se V W f : Int → Int} {n : Nat} {i z : Int} (h : se n ≠ -1) (hi : i = 3 * se n + W n) (hb : 0 ≤ i ∧ i < 18) (hz : z = V n) : fup (suF se V W f n) i (suF se V W f n i + z) = suF se V W f (n + 1) := by
  subst hi; subst hz
  funext j
  unfold fup suF
  by_cases hj : j = 3 * se n + W n
  · subst hj
    rw [if_pos rfl, if_pos hb, if_pos hb]
    show _ = sm _ n + (if se n ≠ -1 ∧ 3 * se n + W n = 3 * se n + W n then V n else 0)
    rw [if_pos ⟨h, rfl⟩]
  · rw [if_neg hj]
    split
    · show _ = sm _ n + (if se n ≠ -1 ∧ 3 * se n + W n = j then V n else 0)
      rw [if_neg (fun q => hj q.2.symm)]
      omega
    · rfl
theorem alF_yes {se pl V W f : Int → Int} {n : Nat} {i z : Int} (h : se n ≠ -1) (hp : pl (se n) ≠ -1) (hi : i = W n) (hb : 0 ≤ i ∧ i < 3) (hz : z = V n) : fup (alF se pl V W f n) i (alF se pl V W f n i + z) = alF se pl V W f (n + 1) := by
  subst hi; subst hz
  funext j
  unfold fup alF
  by_cases hj : j = W n
  · subst hj
    rw [if_pos rfl, if_pos hb, if_pos hb]
    show _ = sm _ n + (if se n ≠ -1 ∧ pl (se n) ≠ -1 ∧ W n = W n then V n else 0)
    rw [if_pos ⟨h, hp, rfl⟩]
  · rw [if_neg hj]
    split
    · show _ = sm _ n + (if se n ≠ -1 ∧ pl (se n) ≠ -1 ∧ W n = j then V n else 0)
      rw [if_neg (fun q => hj q.2.2.symm)]
      omega
    · rfl
theorem suF_b {se V W f : Int → Int} (hV : ∀ p : Nat, 0 ≤ V p ∧ V p ≤ 99) {n : Nat} {j : Int} (hj : 0 ≤ j ∧ j < 18) : 0 ≤ suF se V W f n j ∧ suF se V W f n j ≤ 99 * n := by
  unfold suF
  rw [if_pos hj]
  refine sm_b (by omega) (fun p => ?_) n
  have := hV p
  split <;> omega
theorem alF_b {se pl V W f : Int → Int} (hV : ∀ p : Nat, 0 ≤ V p ∧ V p ≤ 99) {n : Nat} {j : Int} (hj : 0 ≤ j ∧ j < 3) : 0 ≤ alF se pl V W f n j ∧ alF se pl V W f n j ≤ 99 * n := by
  unfold alF
  rw [if_pos hj]
  refine sm_b (by omega) (fun p => ?_) n
  have := hV p
  split <;> omega
/-- a rule's codes and what they mean -/
def ruOK (h : Nat → Int → Int) (r : Nat) (sem : Sem) : Prop := ∃ n : Nat, h r 2 = n ∧ n ≤ 40 ∧ codB (h (r + 1)) n ∧ ∀ th sk : Int → Int, (∀ j : Int, r32 (th j)) → (it (vbR (h (r + 1)) th) (sk, 0) n).1 0 = sem (th 0) (th 1) (th 2) (th 3) (th 4) (th 5)
/-- the numbers behind a vote -/
def hoH (sem : Sem) (h : Nat → Int → Int) (n t r np : Nat) (th sk : Int → Int) : Nat → Int → Int := rup (rup (rup (rup (rup (rup (rup h (r + 2) sk) 37 (voF (vtS sem (h 13) (h 12) (h (n + 3)) (h (t + 4)) (h (t + 2)) (h (t + 3)) (h t 0) (h t 1) np) (h 37) np)) 38 (voF (wiS (h (n + 1)) (h (n + 2)) (h (n + 3)) (h 12) (h (t + 4)) (h (t + 2)) (h (t + 3)) (h t 0)) (h 38) np)) 39 (suF (h (t + 4)) (vtS sem (h 13) (h 12) (h (n + 3)) (h (t + 4)) (h (t + 2)) (h (t + 3)) (h t 0) (h t 1) np) (wiS (h (n + 1)) (h (n + 2)) (h (n + 3)) (h 12) (h (t + 4)) (h (t + 2)) (h (t + 3)) (h t 0)) (h 39) np)) 40 (alF (h (t + 4)) (h (t + 2)) (vtS sem (h 13) (h 12) (h (n + 3)) (h (t + 4)) (h (t + 2)) (h (t + 3)) (h t 0) (h t 1) np) (wiS (h (n + 1)) (h (n + 2)) (h (n + 3)) (h 12) (h (t + 4)) (h (t + 2)) (h (t + 3)) (h t 0)) (h 40) np)) 41 (fuF (h (t + 4)) (h 41) np)) 43 th
theorem T_X10_hold {n t r np : Nat} {sem : Sem} {h : Nat → Int → Int} (hnp : h 11 0 = np) (hE : exB (h (n + 1))) (hM : miB (h (n + 2))) (hB : bnd (h (n + 3))) (hs : seB (h (t + 4)) np) (hha : ∀ j : Nat, j < np → h (t + 4) j ≠ -1 → 0 ≤ halS (h t 0) (h (t + 2)) (h (t + 3)) (h (t + 4) j) ∧ halS (h t 0) (h (t + 2)) (h (t + 3)) (h (t + 4) j) < 9) (hwa : ∀ j : Nat, j < np → 0 ≤ h 12 j ∧ h 12 j < 9) (hnow : 0 ≤ h t 1) (hru : ruOK h r sem)
    (ht : isTr t := by assumption) (hnn : isNet n := by assumption) (hr : isRule r := by assumption) (htb : 13 < t ∧ t + 4 < 29 := by omega) (hnb : n + 3 < 11 := by omega) (hrb : 29 ≤ r ∧ r + 2 < 35 := by omega) (h12 : np ≤ 12 := by omega) :
    RR mX10_hold 3 0 0 0 (pm_ent [pR 36, pR n, pR t, pR 11, pR r] 9) [] (shp0, rf0, h) (fun r' g' => r' = none ∧ ∃ th sk, g' = (shp0, rf0, hoH sem h n t r np th sk)) := by
  obtain ⟨t0, t1, t2, t3, t4, t5, t6, t7, t8⟩ := id ht
  obtain ⟨n0, n1, n2, n3, n4, n5, n6⟩ := id hnn
  obtain ⟨r0, r1, r2, r3, r4⟩ := id hr
  obtain ⟨len, hlen, hlen40, hcb, hsem⟩ := hru
  show RR mX10_hold _ _ _ _ [pR 36, pR n, pR t, pR 11, pR r, pU, pU, pU, pU] _ _ _
  suffices hS : ∀ Q : Option PV → PH → Prop, (∀ th sk, Q none (shp0, rf0, hoH sem h n t r np th sk)) → RR mX10_hold 3 0 0 0 [pR 36, pR n, pR t, pR 11, pR r, pU, pU, pU, pU] [] (shp0, rf0, h) Q from hS _ (fun th sk => ⟨rfl, th, sk, rfl⟩)
  intro Q hQ
  unfold hoH at hQ
  obtain ⟨V, hV⟩ : ∃ V, V = (vtS sem (h 13) (h 12) (h (n + 3)) (h (t + 4)) (h (t + 2)) (h (t + 3)) (h t 0) (h t 1) np) := ⟨_, rfl⟩
  obtain ⟨W, hW⟩ : ∃ W, W = (wiS (h (n + 1)) (h (n + 2)) (h (n + 3)) (h 12) (h (t + 4)) (h (t + 2)) (h (t + 3)) (h t 0)) := ⟨_, rfl⟩
  rw [← hV, ← hW] at hQ
  have hVb : ∀ p : Nat, 0 ≤ V p ∧ V p ≤ 99 := fun p => by rw [hV]; exact vtS_b
  have L : ∀ (k i : Nat) (w6 w7 w8 : PV) (th sk : Int → Int), i + k = np → RR mX10_hold 3 0 0 12 [pR 36, pR n, pR t, pR 11, pR r, pI i, w6, w7, w8] [] (shp0, rf0, rup (rup (rup (rup (rup (rup (rup h (r + 2) sk) 37 (voF V (h 37) i)) 38 (voF W (h 38) i)) 39 (suF (h (t + 4)) V W (h 39) i)) 40 (alF (h (t + 4)) (h (t + 2)) V W (h 40) i)) 41 (fuF (h (t + 4)) (h 41) np)) 43 th) Q := by
    intro k
    induction k with
    | zero =>
      intro i w6 w7 w8 th sk hi
      obtain rfl : i = np := by omega
      refine R_iload dX10_hold_12 rfl (?_ : RR _ _ _ _ 14 _ _ _ _)
      refine R_aload_n dX10_hold_14 rfl (?_ : RR _ _ _ _ 15 _ _ _ _)
      refine R_geti (z := 0) dX10_hold_15 flX10_33 cok_2 rfl (by decide) rfl (fun q15 => (?_ : RR _ _ _ _ 18 _ _ _ _))
      try simp (disch := omega) only [rup_rup, rup_sort, rupS_def, rup_s, rup_n, fup_fup, fup_s, fup_n] at q15 ⊢
      rw [hnp] at q15 ⊢
      refine R_icmp_ge (t := 277) dX10_hold_18 rfl (fun c18 => ?_) (fun c18 => ?_)
      rotate_left
      · exfalso; omega
      exact R_return dX10_hold_277 trivial (hQ th sk)
    | succ k ih =>
      intro i w6 w7 w8 th sk hi
      have hsi := hs i (by omega)
      have hwi := hwa i (by omega)
      have hvi := congrFun hV (i : Int)
      have hwe := congrFun hW (i : Int)
      unfold vtS at hvi
      unfold wiS at hwe
      by_cases hse : h (t + 4) i = -1
      · rw [if_pos hse] at hvi hwe
        refine R_iload dX10_hold_12 rfl (?_ : RR _ _ _ _ 14 _ _ _ _)
        refine R_aload_n dX10_hold_14 rfl (?_ : RR _ _ _ _ 15 _ _ _ _)
        refine R_geti (z := 0) dX10_hold_15 flX10_33 cok_2 rfl (by decide) rfl (fun q15 => (?_ : RR _ _ _ _ 18 _ _ _ _))
        try simp (disch := omega) only [rup_rup, rup_sort, rupS_def, rup_s, rup_n, fup_fup, fup_s, fup_n] at q15 ⊢
        rw [hnp] at q15 ⊢
        refine R_icmp_ge (t := 277) dX10_hold_18 rfl (fun c18 => ?_) (fun c18 => ?_)
        · exfalso; omega
        refine R_aload_n dX10_hold_21 rfl (?_ : RR _ _ _ _ 22 _ _ _ _)
        refine R_getr dX10_hold_22 flX10_43 cok_9 rfl (by decide) (?_ : RR _ _ _ _ 25 _ _ _ _)
        refine R_iload dX10_hold_25 rfl (?_ : RR _ _ _ _ 27 _ _ _ _)
        refine R_iald dX10_hold_27 (fun q27 => (?_ : RR _ _ _ _ 28 _ _ _ _))
        try simp (disch := omega) only [rup_rup, rup_sort, rupS_def, rup_s, rup_n, fup_fup, fup_s, fup_n] at q27 ⊢
        refine R_istore dX10_hold_28 (Nat.le_of_ble_eq_true rfl) (?_ : RR _ _ _ _ 30 [_, _, _, _, _, _, _, _, _] _ _ _)
        refine R_aload_n dX10_hold_30 rfl (?_ : RR _ _ _ _ 31 _ _ _ _)
        refine R_getr dX10_hold_31 flX10_9 cok_10 rfl (by decide) (?_ : RR _ _ _ _ 34 _ _ _ _)
        refine R_iload dX10_hold_34 rfl (?_ : RR _ _ _ _ 36 _ _ _ _)
        refine R_iconst dX10_hold_36 (?_ : RR _ _ _ _ 37 _ _ _ _)
        refine R_iast dX10_hold_37 (?_ : RR _ _ _ _ 38 _ _ _ _)
        try simp (disch := omega) only [rup_rup, rup_sort, rupS_def, rup_s, rup_n, fup_fup, fup_s, fup_n]
        rw [voF_s hvi.symm]
        refine R_aload_n dX10_hold_38 rfl (?_ : RR _ _ _ _ 39 _ _ _ _)
        refine R_getr dX10_hold_39 flX10_15 cok_10 rfl (by decide) (?_ : RR _ _ _ _ 42 _ _ _ _)
        refine R_iload dX10_hold_42 rfl (?_ : RR _ _ _ _ 44 _ _ _ _)
        refine R_iconst dX10_hold_44 (?_ : RR _ _ _ _ 45 _ _ _ _)
        refine R_iast dX10_hold_45 (?_ : RR _ _ _ _ 46 _ _ _ _)
        try simp (disch := omega) only [rup_rup, rup_sort, rupS_def, rup_s, rup_n, fup_fup, fup_s, fup_n]
        rw [voF_s hwe.symm]
        rw [← suF_no (V := V) (W := W) hse, ← alF_no (V := V) (W := W) (Or.inl hse)]
        refine R_iload dX10_hold_46 rfl (?_ : RR _ _ _ _ 48 _ _ _ _)
        refine R_iconst dX10_hold_48 (?_ : RR _ _ _ _ 49 _ _ _ _)
        refine R_icmp_eq (t := 271) dX10_hold_49 rfl (fun c49 => ?_) (fun c49 => ?_)
        rotate_left
        · exfalso; omega
        refine R_iinc dX10_hold_271 rfl (Nat.le_of_ble_eq_true rfl) (?_ : RR _ _ _ _ 274 [_, _, _, _, _, _, _, _, _] _ _ _)
        refine R_goto (t := 12) dX10_hold_274 rfl (?_ : RR _ _ _ _ 12 _ _ _ _)
        exact ih (i + 1) _ _ _ th sk (by omega)
      · rw [if_neg hse] at hvi hwe
        have hhi := hha i (by omega) hse
        have hbb := hB (halS (h t 0) (h (t + 2)) (h (t + 3)) (h (t + 4) i) * 9 + h 12 i) (by omega) (by omega)
        have hwb := wishS_b (ex := h (n + 1)) (mi := h (n + 2)) (ds := h (n + 3)) (a := halS (h t 0) (h (t + 2)) (h (t + 3)) (h (t + 4) i)) (w := h 12 i)
        rw [← hwe] at hwb
        have hfu : fuF (h (t + 4)) (h 41) np (h (t + 4) i) = cn (h (t + 4)) (h (t + 4) i) np := if_pos (by omega)
        have hsb := suF_b (se := h (t + 4)) (W := W) (f := h 39) hVb (n := i) (j := 3 * h (t + 4) i + W i) (by omega)
        have hab := alF_b (se := h (t + 4)) (pl := h (t + 2)) (W := W) (f := h 40) hVb (n := i) (j := W i) (by omega)
        have hvb := hVb i
        have hi12 : (i : Int) < 12 := by omega
        have K171 : ∀ (w8 : PV) (TH sk : Int → Int), TH 0 = h 13 i → TH 1 = h (t + 4) i → TH 2 = cn (h (t + 4)) (h (t + 4) i) np → TH 3 = thd (h (n + 3)) (halS (h t 0) (h (t + 2)) (h (t + 3)) (h (t + 4) i)) (h 12 i) → TH 4 = (if h (t + 2) (h (t + 4) i) = -1 then 9 else h (t + 2) (h (t + 4) i)) → TH 5 = h t 1 % 60 → RR mX10_hold 3 0 0 171 [pR 36, pR n, pR t, pR 11, pR r, pI i, pI (h (t + 4) i), pI (halS (h t 0) (h (t + 2)) (h (t + 3)) (h (t + 4) i)), w8] [] (shp0, rf0, rup (rup (rup (rup (rup (rup (rup h (r + 2) sk) 37 (fup (voF V (h 37) i) i 0)) 38 (fup (voF W (h 38) i) i (-1))) 39 (suF (h (t + 4)) V W (h 39) i)) 40 (alF (h (t + 4)) (h (t + 2)) V W (h 40) i)) 41 (fuF (h (t + 4)) (h 41) np)) 43 TH) Q := by
          intro w8 TH sk e0 e1 e2 e3 e4 e5
          refine R_nzf (fun hz9 => ?_)
          have hTH : ∀ j : Int, r32 (TH j) := fun j => by
            have h9 := nz_i hz9 (a := 43) rfl (by decide) j
            simp (disch := omega) only [rup_n, rup_s] at h9
            exact h9
          clear hz9
          refine R_aload_n dX10_hold_171 rfl (?_ : RR _ _ _ _ 172 _ _ _ _)
          refine R_getr dX10_hold_172 flX10_9 cok_10 rfl (by decide) (?_ : RR _ _ _ _ 175 _ _ _ _)
          refine R_iload dX10_hold_175 rfl (?_ : RR _ _ _ _ 177 _ _ _ _)
          refine R_aload dX10_hold_177 rfl (?_ : RR _ _ _ _ 179 _ _ _ _)
          refine R_aload_n dX10_hold_179 rfl (?_ : RR _ _ _ _ 180 _ _ _ _)
          refine R_getr dX10_hold_180 flX10_30 cok_10 rfl (by decide) (?_ : RR _ _ _ _ 183 _ _ _ _)
          refine R_cVi1 dX10_hold_183 mvX4_votesBy mlX10_71 (by decide) (by decide) (Nat.le_of_ble_eq_true rfl) (Nat.le_of_ble_eq_true rfl) (T_X4_votesBy (n := len) (by simp (disch := omega) only [rup_n]; exact hlen) (by simp (disch := omega) only [rup_n]; exact hcb)) (?_ : RR _ _ _ _ 186 _ _ _ _)
          try simp (disch := omega) only [rup_rup, rup_sort, rupS_def, rup_s, rup_n, fup_fup, fup_s, fup_n]
          rw [hsem TH sk hTH, e0, e1, e2, e3, e4, e5, ← hvi]
          generalize (it (vbR (h (r + 1)) TH) (sk, 0) len).1 = sk2
          refine R_iast dX10_hold_186 (?_ : RR _ _ _ _ 187 _ _ _ _)
          try simp (disch := omega) only [rup_rup, rup_sort, rupS_def, rup_s, rup_n, fup_fup, fup_s, fup_n]
          refine R_aload_n dX10_hold_187 rfl (?_ : RR _ _ _ _ 188 _ _ _ _)
          refine R_getr dX10_hold_188 flX10_15 cok_10 rfl (by decide) (?_ : RR _ _ _ _ 191 _ _ _ _)
          refine R_iload dX10_hold_191 rfl (?_ : RR _ _ _ _ 193 _ _ _ _)
          refine R_aload_n dX10_hold_193 rfl (?_ : RR _ _ _ _ 194 _ _ _ _)
          refine R_iload dX10_hold_194 rfl (?_ : RR _ _ _ _ 196 _ _ _ _)
          refine R_aload_n dX10_hold_196 rfl (?_ : RR _ _ _ _ 197 _ _ _ _)
          refine R_getr dX10_hold_197 flX10_52 cok_2 rfl (by decide) (?_ : RR _ _ _ _ 200 _ _ _ _)
          refine R_iload dX10_hold_200 rfl (?_ : RR _ _ _ _ 202 _ _ _ _)
          refine R_iald dX10_hold_202 (fun q202 => (?_ : RR _ _ _ _ 203 _ _ _ _))
          try simp (disch := omega) only [rup_rup, rup_sort, rupS_def, rup_s, rup_n, fup_fup, fup_s, fup_n] at q202 ⊢
          refine R_cVi2 dX10_hold_203 mvX0_wishAt mlX10_77 (by decide) (by decide) (Nat.le_of_ble_eq_true rfl) (Nat.le_of_ble_eq_true rfl) (T_X0_wishAt (by simp (disch := omega) only [rup_n]; exact hE) (by simp (disch := omega) only [rup_n]; exact hM) (by simp (disch := omega) only [rup_n]; exact hB)) (?_ : RR _ _ _ _ 206 _ _ _ _)
          try simp (disch := omega) only [rup_rup, rup_sort, rupS_def, rup_s, rup_n, fup_fup, fup_s, fup_n]
          rw [← hwe]
          refine R_iast dX10_hold_206 (?_ : RR _ _ _ _ 207 _ _ _ _)
          try simp (disch := omega) only [rup_rup, rup_sort, rupS_def, rup_s, rup_n, fup_fup, fup_s, fup_n]
          refine R_aload_n dX10_hold_207 rfl (?_ : RR _ _ _ _ 208 _ _ _ _)
          refine R_getr dX10_hold_208 flX10_18 cok_10 rfl (by decide) (?_ : RR _ _ _ _ 211 _ _ _ _)
          refine R_iconst dX10_hold_211 (?_ : RR _ _ _ _ 212 _ _ _ _)
          refine R_iload dX10_hold_212 rfl (?_ : RR _ _ _ _ 214 _ _ _ _)
          refine R_imul dX10_hold_214 (?_ : RR _ _ _ _ 215 _ _ _ _)
          refine R_aload_n dX10_hold_215 rfl (?_ : RR _ _ _ _ 216 _ _ _ _)
          refine R_getr dX10_hold_216 flX10_15 cok_10 rfl (by decide) (?_ : RR _ _ _ _ 219 _ _ _ _)
          refine R_iload dX10_hold_219 rfl (?_ : RR _ _ _ _ 221 _ _ _ _)
          refine R_iald dX10_hold_221 (fun q221 => (?_ : RR _ _ _ _ 222 _ _ _ _))
          try simp (disch := omega) only [rup_rup, rup_sort, rupS_def, rup_s, rup_n, fup_fup, fup_s, fup_n] at q221 ⊢
          refine R_iadd dX10_hold_222 (?_ : RR _ _ _ _ 223 _ _ _ _)
          refine R_dup2 dX10_hold_223 (fun _ => rfl) (fun _ => rfl) (?_ : RR _ _ _ _ 224 _ _ _ _)
          refine R_iald dX10_hold_224 (fun q224 => (?_ : RR _ _ _ _ 225 _ _ _ _))
          try simp (disch := omega) only [rup_rup, rup_sort, rupS_def, rup_s, rup_n, fup_fup, fup_s, fup_n] at q224 ⊢
          refine R_aload_n dX10_hold_225 rfl (?_ : RR _ _ _ _ 226 _ _ _ _)
          refine R_getr dX10_hold_226 flX10_9 cok_10 rfl (by decide) (?_ : RR _ _ _ _ 229 _ _ _ _)
          refine R_iload dX10_hold_229 rfl (?_ : RR _ _ _ _ 231 _ _ _ _)
          refine R_iald dX10_hold_231 (fun q231 => (?_ : RR _ _ _ _ 232 _ _ _ _))
          try simp (disch := omega) only [rup_rup, rup_sort, rupS_def, rup_s, rup_n, fup_fup, fup_s, fup_n] at q231 ⊢
          refine R_iadd dX10_hold_232 (?_ : RR _ _ _ _ 233 _ _ _ _)
          refine R_iast dX10_hold_233 (?_ : RR _ _ _ _ 234 _ _ _ _)
          try simp (disch := omega) only [rup_rup, rup_sort, rupS_def, rup_s, rup_n, fup_fup, fup_s, fup_n]
          rw [suF_yes hse rfl (by omega) rfl]
          refine R_aload_n dX10_hold_234 rfl (?_ : RR _ _ _ _ 235 _ _ _ _)
          refine R_getr dX10_hold_235 flX10_21 cok_10 rfl (by decide) (?_ : RR _ _ _ _ 238 _ _ _ _)
          refine R_aload_n dX10_hold_238 rfl (?_ : RR _ _ _ _ 239 _ _ _ _)
          refine R_getr dX10_hold_239 flX10_15 cok_10 rfl (by decide) (?_ : RR _ _ _ _ 242 _ _ _ _)
          refine R_iload dX10_hold_242 rfl (?_ : RR _ _ _ _ 244 _ _ _ _)
          refine R_iald dX10_hold_244 (fun q244 => (?_ : RR _ _ _ _ 245 _ _ _ _))
          try simp (disch := omega) only [rup_rup, rup_sort, rupS_def, rup_s, rup_n, fup_fup, fup_s, fup_n] at q244 ⊢
          refine R_dup2 dX10_hold_245 (fun _ => rfl) (fun _ => rfl) (?_ : RR _ _ _ _ 246 _ _ _ _)
          refine R_iald dX10_hold_246 (fun q246 => (?_ : RR _ _ _ _ 247 _ _ _ _))
          try simp (disch := omega) only [rup_rup, rup_sort, rupS_def, rup_s, rup_n, fup_fup, fup_s, fup_n] at q246 ⊢
          refine R_aload_n dX10_hold_247 rfl (?_ : RR _ _ _ _ 248 _ _ _ _)
          refine R_getr dX10_hold_248 flX10_65 cok_9 rfl (by decide) (?_ : RR _ _ _ _ 251 _ _ _ _)
          refine R_iload dX10_hold_251 rfl (?_ : RR _ _ _ _ 253 _ _ _ _)
          refine R_iald dX10_hold_253 (fun q253 => (?_ : RR _ _ _ _ 254 _ _ _ _))
          try simp (disch := omega) only [rup_rup, rup_sort, rupS_def, rup_s, rup_n, fup_fup, fup_s, fup_n] at q253 ⊢
          refine R_iconst dX10_hold_254 (?_ : RR _ _ _ _ 255 _ _ _ _)
          refine R_icmp_ne (t := 262) dX10_hold_255 rfl (fun c255 => ?_) (fun c255 => ?_)
          · refine R_aload_n dX10_hold_262 rfl (?_ : RR _ _ _ _ 263 _ _ _ _)
            refine R_getr dX10_hold_263 flX10_9 cok_10 rfl (by decide) (?_ : RR _ _ _ _ 266 _ _ _ _)
            refine R_iload dX10_hold_266 rfl (?_ : RR _ _ _ _ 268 _ _ _ _)
            refine R_iald dX10_hold_268 (fun q268 => (?_ : RR _ _ _ _ 269 _ _ _ _))
            try simp (disch := omega) only [rup_rup, rup_sort, rupS_def, rup_s, rup_n, fup_fup, fup_s, fup_n] at q268 ⊢
            refine R_iadd dX10_hold_269 (?_ : RR _ _ _ _ 270 _ _ _ _)
            refine R_iast dX10_hold_270 (?_ : RR _ _ _ _ 271 _ _ _ _)
            try simp (disch := omega) only [rup_rup, rup_sort, rupS_def, rup_s, rup_n, fup_fup, fup_s, fup_n]
            first | rw [alF_yes hse (by assumption) rfl (by omega) rfl] | rw [Int.add_zero, fup_self, ← alF_no (V := V) (W := W) (Or.inr (by assumption))]
            rw [voF_s rfl, voF_s rfl]
            refine R_iinc dX10_hold_271 rfl (Nat.le_of_ble_eq_true rfl) (?_ : RR _ _ _ _ 274 [_, _, _, _, _, _, _, _, _] _ _ _)
            refine R_goto (t := 12) dX10_hold_274 rfl (?_ : RR _ _ _ _ 12 _ _ _ _)
            exact ih (i + 1) _ _ _ TH sk2 (by omega)
          · skip
            refine R_iconst dX10_hold_258 (?_ : RR _ _ _ _ 259 _ _ _ _)
            refine R_goto (t := 269) dX10_hold_259 rfl (?_ : RR _ _ _ _ 269 _ _ _ _)
            refine R_iadd dX10_hold_269 (?_ : RR _ _ _ _ 270 _ _ _ _)
            refine R_iast dX10_hold_270 (?_ : RR _ _ _ _ 271 _ _ _ _)
            try simp (disch := omega) only [rup_rup, rup_sort, rupS_def, rup_s, rup_n, fup_fup, fup_s, fup_n]
            first | rw [alF_yes hse (by assumption) rfl (by omega) rfl] | rw [Int.add_zero, fup_self, ← alF_no (V := V) (W := W) (Or.inr (by assumption))]
            rw [voF_s rfl, voF_s rfl]
            refine R_iinc dX10_hold_271 rfl (Nat.le_of_ble_eq_true rfl) (?_ : RR _ _ _ _ 274 [_, _, _, _, _, _, _, _, _] _ _ _)
            refine R_goto (t := 12) dX10_hold_274 rfl (?_ : RR _ _ _ _ 12 _ _ _ _)
            exact ih (i + 1) _ _ _ TH sk2 (by omega)
        have K157 : ∀ (w8 : PV) (TH sk : Int → Int) (z : Int), z = (if h (t + 2) (h (t + 4) i) = -1 then 9 else h (t + 2) (h (t + 4) i)) → r32 z → TH 0 = h 13 i → TH 1 = h (t + 4) i → TH 2 = cn (h (t + 4)) (h (t + 4) i) np → TH 3 = thd (h (n + 3)) (halS (h t 0) (h (t + 2)) (h (t + 3)) (h (t + 4) i)) (h 12 i) → RR mX10_hold 3 0 0 157 [pR 36, pR n, pR t, pR 11, pR r, pI i, pI (h (t + 4) i), pI (halS (h t 0) (h (t + 2)) (h (t + 3)) (h (t + 4) i)), w8] [pI z, pI 4, pR 43] (shp0, rf0, rup (rup (rup (rup (rup (rup (rup h (r + 2) sk) 37 (fup (voF V (h 37) i) i 0)) 38 (fup (voF W (h 38) i) i (-1))) 39 (suF (h (t + 4)) V W (h 39) i)) 40 (alF (h (t + 4)) (h (t + 2)) V W (h 40) i)) 41 (fuF (h (t + 4)) (h 41) np)) 43 TH) Q := by
          intro w8 TH sk z hz hzr e0 e1 e2 e3
          refine R_iast dX10_hold_157 (?_ : RR _ _ _ _ 158 _ _ _ _)
          try simp (disch := omega) only [rup_rup, rup_sort, rupS_def, rup_s, rup_n, fup_fup, fup_s, fup_n]
          refine R_aload_n dX10_hold_158 rfl (?_ : RR _ _ _ _ 159 _ _ _ _)
          refine R_getr dX10_hold_159 flX10_30 cok_10 rfl (by decide) (?_ : RR _ _ _ _ 162 _ _ _ _)
          refine R_iconst dX10_hold_162 (?_ : RR _ _ _ _ 163 _ _ _ _)
          refine R_aload_n dX10_hold_163 rfl (?_ : RR _ _ _ _ 164 _ _ _ _)
          refine R_geti (z := 1) dX10_hold_164 flX10_68 cok_9 rfl (by decide) rfl (fun q164 => (?_ : RR _ _ _ _ 167 _ _ _ _))
          try simp (disch := omega) only [rup_rup, rup_sort, rupS_def, rup_s, rup_n, fup_fup, fup_s, fup_n] at q164 ⊢
          refine R_bipush dX10_hold_167 rfl (?_ : RR _ _ _ _ 169 _ _ _ _)
          refine R_irem dX10_hold_169 (by omega) (by omega) (?_ : RR _ _ _ _ 170 _ _ _ _)
          rw [iRem_pos (by omega) (by omega) (by omega) (by omega)]
          refine R_iast dX10_hold_170 (?_ : RR _ _ _ _ 171 _ _ _ _)
          try simp (disch := omega) only [rup_rup, rup_sort, rupS_def, rup_s, rup_n, fup_fup, fup_s, fup_n]
          exact K171 _ _ sk (by simp (disch := omega) only [fup_n]; exact e0) (by simp (disch := omega) only [fup_n]; exact e1) (by simp (disch := omega) only [fup_n]; exact e2) (by simp (disch := omega) only [fup_n]; exact e3) (by simp (disch := omega) only [fup_n, fup_s]; exact hz) (by rw [fup_s])
        have K128 : ∀ (w8 : PV) (TH sk : Int → Int) (z : Int), z = thd (h (n + 3)) (halS (h t 0) (h (t + 2)) (h (t + 3)) (h (t + 4) i)) (h 12 i) → r32 z → TH 0 = h 13 i → TH 1 = h (t + 4) i → TH 2 = cn (h (t + 4)) (h (t + 4) i) np → RR mX10_hold 3 0 0 128 [pR 36, pR n, pR t, pR 11, pR r, pI i, pI (h (t + 4) i), pI (halS (h t 0) (h (t + 2)) (h (t + 3)) (h (t + 4) i)), w8] [pI z, pI 3, pR 43] (shp0, rf0, rup (rup (rup (rup (rup (rup (rup h (r + 2) sk) 37 (fup (voF V (h 37) i) i 0)) 38 (fup (voF W (h 38) i) i (-1))) 39 (suF (h (t + 4)) V W (h 39) i)) 40 (alF (h (t + 4)) (h (t + 2)) V W (h 40) i)) 41 (fuF (h (t + 4)) (h 41) np)) 43 TH) Q := by
          intro w8 TH sk z hz hzr e0 e1 e2
          refine R_iast dX10_hold_128 (?_ : RR _ _ _ _ 129 _ _ _ _)
          try simp (disch := omega) only [rup_rup, rup_sort, rupS_def, rup_s, rup_n, fup_fup, fup_s, fup_n]
          refine R_aload_n dX10_hold_129 rfl (?_ : RR _ _ _ _ 130 _ _ _ _)
          refine R_getr dX10_hold_130 flX10_30 cok_10 rfl (by decide) (?_ : RR _ _ _ _ 133 _ _ _ _)
          refine R_iconst dX10_hold_133 (?_ : RR _ _ _ _ 134 _ _ _ _)
          refine R_aload_n dX10_hold_134 rfl (?_ : RR _ _ _ _ 135 _ _ _ _)
          refine R_getr dX10_hold_135 flX10_65 cok_9 rfl (by decide) (?_ : RR _ _ _ _ 138 _ _ _ _)
          refine R_iload dX10_hold_138 rfl (?_ : RR _ _ _ _ 140 _ _ _ _)
          refine R_iald dX10_hold_140 (fun q140 => (?_ : RR _ _ _ _ 141 _ _ _ _))
          try simp (disch := omega) only [rup_rup, rup_sort, rupS_def, rup_s, rup_n, fup_fup, fup_s, fup_n] at q140 ⊢
          refine R_iconst dX10_hold_141 (?_ : RR _ _ _ _ 142 _ _ _ _)
          refine R_icmp_ne (t := 150) dX10_hold_142 rfl (fun c142 => ?_) (fun c142 => ?_)
          · refine R_aload_n dX10_hold_150 rfl (?_ : RR _ _ _ _ 151 _ _ _ _)
            refine R_getr dX10_hold_151 flX10_65 cok_9 rfl (by decide) (?_ : RR _ _ _ _ 154 _ _ _ _)
            refine R_iload dX10_hold_154 rfl (?_ : RR _ _ _ _ 156 _ _ _ _)
            refine R_iald dX10_hold_156 (fun q156 => (?_ : RR _ _ _ _ 157 _ _ _ _))
            try simp (disch := omega) only [rup_rup, rup_sort, rupS_def, rup_s, rup_n, fup_fup, fup_s, fup_n] at q156 ⊢
            exact K157 _ _ sk _ (by first | rw [if_pos (by assumption)] | rw [if_neg (by assumption)]) (by omega) (by simp (disch := omega) only [fup_n]; exact e0) (by simp (disch := omega) only [fup_n]; exact e1) (by simp (disch := omega) only [fup_n]; exact e2) (by rw [fup_s]; exact hz)
          · refine R_bipush dX10_hold_145 rfl (?_ : RR _ _ _ _ 147 _ _ _ _)
            refine R_goto (t := 157) dX10_hold_147 rfl (?_ : RR _ _ _ _ 157 _ _ _ _)
            exact K157 _ _ sk _ (by first | rw [if_pos (by assumption)] | rw [if_neg (by assumption)]) (by omega) (by simp (disch := omega) only [fup_n]; exact e0) (by simp (disch := omega) only [fup_n]; exact e1) (by simp (disch := omega) only [fup_n]; exact e2) (by rw [fup_s]; exact hz)
        refine R_iload dX10_hold_12 rfl (?_ : RR _ _ _ _ 14 _ _ _ _)
        refine R_aload_n dX10_hold_14 rfl (?_ : RR _ _ _ _ 15 _ _ _ _)
        refine R_geti (z := 0) dX10_hold_15 flX10_33 cok_2 rfl (by decide) rfl (fun q15 => (?_ : RR _ _ _ _ 18 _ _ _ _))
        try simp (disch := omega) only [rup_rup, rup_sort, rupS_def, rup_s, rup_n, fup_fup, fup_s, fup_n] at q15 ⊢
        rw [hnp] at q15 ⊢
        refine R_icmp_ge (t := 277) dX10_hold_18 rfl (fun c18 => ?_) (fun c18 => ?_)
        · exfalso; omega
        refine R_aload_n dX10_hold_21 rfl (?_ : RR _ _ _ _ 22 _ _ _ _)
        refine R_getr dX10_hold_22 flX10_43 cok_9 rfl (by decide) (?_ : RR _ _ _ _ 25 _ _ _ _)
        refine R_iload dX10_hold_25 rfl (?_ : RR _ _ _ _ 27 _ _ _ _)
        refine R_iald dX10_hold_27 (fun q27 => (?_ : RR _ _ _ _ 28 _ _ _ _))
        try simp (disch := omega) only [rup_rup, rup_sort, rupS_def, rup_s, rup_n, fup_fup, fup_s, fup_n] at q27 ⊢
        refine R_istore dX10_hold_28 (Nat.le_of_ble_eq_true rfl) (?_ : RR _ _ _ _ 30 [_, _, _, _, _, _, _, _, _] _ _ _)
        refine R_aload_n dX10_hold_30 rfl (?_ : RR _ _ _ _ 31 _ _ _ _)
        refine R_getr dX10_hold_31 flX10_9 cok_10 rfl (by decide) (?_ : RR _ _ _ _ 34 _ _ _ _)
        refine R_iload dX10_hold_34 rfl (?_ : RR _ _ _ _ 36 _ _ _ _)
        refine R_iconst dX10_hold_36 (?_ : RR _ _ _ _ 37 _ _ _ _)
        refine R_iast dX10_hold_37 (?_ : RR _ _ _ _ 38 _ _ _ _)
        try simp (disch := omega) only [rup_rup, rup_sort, rupS_def, rup_s, rup_n, fup_fup, fup_s, fup_n]
        refine R_aload_n dX10_hold_38 rfl (?_ : RR _ _ _ _ 39 _ _ _ _)
        refine R_getr dX10_hold_39 flX10_15 cok_10 rfl (by decide) (?_ : RR _ _ _ _ 42 _ _ _ _)
        refine R_iload dX10_hold_42 rfl (?_ : RR _ _ _ _ 44 _ _ _ _)
        refine R_iconst dX10_hold_44 (?_ : RR _ _ _ _ 45 _ _ _ _)
        refine R_iast dX10_hold_45 (?_ : RR _ _ _ _ 46 _ _ _ _)
        try simp (disch := omega) only [rup_rup, rup_sort, rupS_def, rup_s, rup_n, fup_fup, fup_s, fup_n]
        refine R_iload dX10_hold_46 rfl (?_ : RR _ _ _ _ 48 _ _ _ _)
        refine R_iconst dX10_hold_48 (?_ : RR _ _ _ _ 49 _ _ _ _)
        refine R_icmp_eq (t := 271) dX10_hold_49 rfl (fun c49 => ?_) (fun c49 => ?_)
        · exfalso; omega
        refine R_aload_n dX10_hold_52 rfl (?_ : RR _ _ _ _ 53 _ _ _ _)
        refine R_iload dX10_hold_53 rfl (?_ : RR _ _ _ _ 55 _ _ _ _)
        refine R_cVi1 dX10_hold_55 mvX9_haltOf mlX10_48 (by decide) (by decide) (Nat.le_of_ble_eq_true rfl) (Nat.le_of_ble_eq_true rfl) (T_X9_haltOf (hc := by omega)) (?_ : RR _ _ _ _ 58 _ _ _ _)
        try simp (disch := omega) only [rup_rup, rup_sort, rupS_def, rup_s, rup_n, fup_fup, fup_s, fup_n]
        show RR _ _ _ _ _ _ (pI (halS (h t 0) (h (t + 2)) (h (t + 3)) (h (t + 4) i)) :: _) _ _
        refine R_istore dX10_hold_58 (Nat.le_of_ble_eq_true rfl) (?_ : RR _ _ _ _ 60 [_, _, _, _, _, _, _, _, _] _ _ _)
        refine R_aload_n dX10_hold_60 rfl (?_ : RR _ _ _ _ 61 _ _ _ _)
        refine R_iload dX10_hold_61 rfl (?_ : RR _ _ _ _ 63 _ _ _ _)
        refine R_aload_n dX10_hold_63 rfl (?_ : RR _ _ _ _ 64 _ _ _ _)
        refine R_getr dX10_hold_64 flX10_52 cok_2 rfl (by decide) (?_ : RR _ _ _ _ 67 _ _ _ _)
        refine R_iload dX10_hold_67 rfl (?_ : RR _ _ _ _ 69 _ _ _ _)
        refine R_iald dX10_hold_69 (fun q69 => (?_ : RR _ _ _ _ 70 _ _ _ _))
        try simp (disch := omega) only [rup_rup, rup_sort, rupS_def, rup_s, rup_n, fup_fup, fup_s, fup_n] at q69 ⊢
        refine R_cVi2 dX10_hold_70 mvX0_between mlX10_55 (by decide) (by decide) (Nat.le_of_ble_eq_true rfl) (Nat.le_of_ble_eq_true rfl) (T_X0_between) (?_ : RR _ _ _ _ 73 _ _ _ _)
        try simp (disch := omega) only [rup_rup, rup_sort, rupS_def, rup_s, rup_n, fup_fup, fup_s, fup_n]
        refine R_istore dX10_hold_73 (Nat.le_of_ble_eq_true rfl) (?_ : RR _ _ _ _ 75 [_, _, _, _, _, _, _, _, _] _ _ _)
        refine R_aload_n dX10_hold_75 rfl (?_ : RR _ _ _ _ 76 _ _ _ _)
        refine R_getr dX10_hold_76 flX10_30 cok_10 rfl (by decide) (?_ : RR _ _ _ _ 79 _ _ _ _)
        refine R_iconst dX10_hold_79 (?_ : RR _ _ _ _ 80 _ _ _ _)
        refine R_aload_n dX10_hold_80 rfl (?_ : RR _ _ _ _ 81 _ _ _ _)
        refine R_getr dX10_hold_81 flX10_61 cok_2 rfl (by decide) (?_ : RR _ _ _ _ 84 _ _ _ _)
        refine R_iload dX10_hold_84 rfl (?_ : RR _ _ _ _ 86 _ _ _ _)
        refine R_iald dX10_hold_86 (fun q86 => (?_ : RR _ _ _ _ 87 _ _ _ _))
        try simp (disch := omega) only [rup_rup, rup_sort, rupS_def, rup_s, rup_n, fup_fup, fup_s, fup_n] at q86 ⊢
        refine R_iast dX10_hold_87 (?_ : RR _ _ _ _ 88 _ _ _ _)
        try simp (disch := omega) only [rup_rup, rup_sort, rupS_def, rup_s, rup_n, fup_fup, fup_s, fup_n]
        refine R_aload_n dX10_hold_88 rfl (?_ : RR _ _ _ _ 89 _ _ _ _)
        refine R_getr dX10_hold_89 flX10_30 cok_10 rfl (by decide) (?_ : RR _ _ _ _ 92 _ _ _ _)
        refine R_iconst dX10_hold_92 (?_ : RR _ _ _ _ 93 _ _ _ _)
        refine R_iload dX10_hold_93 rfl (?_ : RR _ _ _ _ 95 _ _ _ _)
        refine R_iast dX10_hold_95 (?_ : RR _ _ _ _ 96 _ _ _ _)
        try simp (disch := omega) only [rup_rup, rup_sort, rupS_def, rup_s, rup_n, fup_fup, fup_s, fup_n]
        refine R_aload_n dX10_hold_96 rfl (?_ : RR _ _ _ _ 97 _ _ _ _)
        refine R_getr dX10_hold_97 flX10_30 cok_10 rfl (by decide) (?_ : RR _ _ _ _ 100 _ _ _ _)
        refine R_iconst dX10_hold_100 (?_ : RR _ _ _ _ 101 _ _ _ _)
        refine R_aload_n dX10_hold_101 rfl (?_ : RR _ _ _ _ 102 _ _ _ _)
        refine R_getr dX10_hold_102 flX10_24 cok_10 rfl (by decide) (?_ : RR _ _ _ _ 105 _ _ _ _)
        refine R_iload dX10_hold_105 rfl (?_ : RR _ _ _ _ 107 _ _ _ _)
        refine R_iald dX10_hold_107 (fun q107 => (?_ : RR _ _ _ _ 108 _ _ _ _))
        try simp (disch := omega) only [rup_rup, rup_sort, rupS_def, rup_s, rup_n, fup_fup, fup_s, fup_n] at q107 ⊢
        rw [hfu] at q107 ⊢
        refine R_iast dX10_hold_108 (?_ : RR _ _ _ _ 109 _ _ _ _)
        try simp (disch := omega) only [rup_rup, rup_sort, rupS_def, rup_s, rup_n, fup_fup, fup_s, fup_n]
        refine R_aload_n dX10_hold_109 rfl (?_ : RR _ _ _ _ 110 _ _ _ _)
        refine R_getr dX10_hold_110 flX10_30 cok_10 rfl (by decide) (?_ : RR _ _ _ _ 113 _ _ _ _)
        refine R_iconst dX10_hold_113 (?_ : RR _ _ _ _ 114 _ _ _ _)
        refine R_iload dX10_hold_114 rfl (?_ : RR _ _ _ _ 116 _ _ _ _)
        refine R_ldc (z := 100000) dX10_hold_116 kwX10_64 (?_ : RR _ _ _ _ 118 _ _ _ _)
        refine R_icmp_ge (t := 126) dX10_hold_118 rfl (fun c118 => ?_) (fun c118 => ?_)
        · refine R_bipush dX10_hold_126 rfl (?_ : RR _ _ _ _ 128 _ _ _ _)
          exact K128 _ _ sk _ (by unfold thd; first | rw [if_pos (by omega)] | rw [if_neg (by omega)]) (by omega) (by simp (disch := omega) only [fup_n, fup_s]) (by simp (disch := omega) only [fup_n, fup_s]) (by rw [fup_s])
        · refine R_iload dX10_hold_121 rfl (?_ : RR _ _ _ _ 123 _ _ _ _)
          refine R_goto (t := 128) dX10_hold_123 rfl (?_ : RR _ _ _ _ 128 _ _ _ _)
          exact K128 _ _ sk _ (by unfold thd; first | rw [if_pos (by omega)] | rw [if_neg (by omega)]) (by omega) (by simp (disch := omega) only [fup_n, fup_s]) (by simp (disch := omega) only [fup_n, fup_s]) (by rw [fup_s])
  refine R_aload_n dX10_hold_0 rfl (?_ : RR _ _ _ _ 1 _ _ _ _)
  refine R_aload_n dX10_hold_1 rfl (?_ : RR _ _ _ _ 2 _ _ _ _)
  refine R_aload_n dX10_hold_2 rfl (?_ : RR _ _ _ _ 3 _ _ _ _)
  refine R_geti (z := 0) dX10_hold_3 flX10_33 cok_2 rfl (by decide) rfl (fun q3 => (?_ : RR _ _ _ _ 6 _ _ _ _))
  try simp (disch := omega) only [rup_rup, rup_sort, rupS_def, rup_s, rup_n, fup_fup, fup_s, fup_n] at q3 ⊢
  rw [hnp] at q3 ⊢
  refine R_cVv2 dX10_hold_6 mvX10_clear mlX10_39 (by decide) (by decide) (Nat.le_of_ble_eq_true rfl) (Nat.le_of_ble_eq_true rfl) (T_X10_clear hs) (?_ : RR _ _ _ _ 9 _ _ _ _)
  try simp (disch := omega) only [rup_rup, rup_sort, rupS_def, rup_s, rup_n, fup_fup, fup_s, fup_n]
  refine R_iconst dX10_hold_9 (?_ : RR _ _ _ _ 10 _ _ _ _)
  refine R_istore dX10_hold_10 (Nat.le_of_ble_eq_true rfl) (?_ : RR _ _ _ _ 12 [_, _, _, _, _, _, _, _, _] _ _ _)
  have L0 := L np 0 pU pU pU (h 43) (h (r + 2)) (by omega)
  rw [voF_0, voF_0, suF_0, alF_0, rup_self, rup_self, rup_self] at L0
  rw [rup_id (a := 43) (by simp (disch := omega) only [rup_n])] at L0
  exact L0
