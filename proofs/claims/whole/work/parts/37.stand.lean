/-! standing coaches are taken -/
def tkL (B : Nat → Bool) (l : Nat) : Nat → Nat
  | 0 => l
  | n + 1 => if B n then tkL B l n + 1 else tkL B l n
theorem tkL_b {B : Nat → Bool} {l : Nat} : ∀ {n : Nat}, l ≤ tkL B l n ∧ tkL B l n ≤ l + n
  | 0 => ⟨Nat.le_refl _, Nat.le_refl _⟩
  | n + 1 => by
    have := tkL_b (B := B) (l := l) (n := n)
    unfold tkL
    split <;> omega
theorem tkL_mono {B : Nat → Bool} {l : Nat} {n : Nat} : ∀ {k : Nat}, tkL B l n ≤ tkL B l (n + k)
  | 0 => Nat.le_refl _
  | k + 1 => by
    have := tkL_mono (B := B) (l := l) (n := n) (k := k)
    show tkL B l n ≤ if B (n + k) then tkL B l (n + k) + 1 else tkL B l (n + k)
    split <;> omega
/-- the class: places and order -/
def tkP (B : Nat → Bool) (l : Nat) (g : Int → Int) : Nat → Int → Int
  | 0 => g
  | n + 1 => if B n then fup (tkP B l g n) n (tkL B l n) else tkP B l g n
def tkO (B : Nat → Bool) (l : Nat) (g : Int → Int) : Nat → Int → Int
  | 0 => g
  | n + 1 => if B n then fup (tkO B l g n) (tkL B l n) n else tkO B l g n
theorem T_X9_takeStanding {t nc l : Nat} {h : Nat → Int → Int} (hnc : h t 2 = nc) (hl : h t 3 = l) (hl6 : ∀ k : Nat, k < nc → (h (t + 2) k = -1 ∧ h (t + 3) k = h t 0) → tkL (fun j => decide (h (t + 2) j = -1 ∧ h (t + 3) j = h t 0)) l k < 6) (hen : r32 (h t 0)) (ht : isTr t := by assumption) (h6 : nc ≤ 6 := by omega) : MT mX9_takeStanding 1 [pR t] h (some (pI (pop 12 (bset (fun j => decide (h (t + 2) j = -1 ∧ h (t + 3) j = h t 0)) nc) : Nat))) (rup (rup (rup h t (fup (h t) 3 (tkL (fun j => decide (h (t + 2) j = -1 ∧ h (t + 3) j = h t 0)) l nc))) (t + 1) (tkO (fun j => decide (h (t + 2) j = -1 ∧ h (t + 3) j = h t 0)) l (h (t + 1)) nc)) (t + 2) (tkP (fun j => decide (h (t + 2) j = -1 ∧ h (t + 3) j = h t 0)) l (h (t + 2)) nc)) := by
  obtain ⟨t0, t1, t2, t3, t4, t5, t6, t7, t8⟩ := id ht
  refine MT.of (fun Q hQ => (?_ : RR mX9_takeStanding _ _ _ _ [pR t, pU, pU] _ _ _))
  obtain ⟨B, hB⟩ : ∃ B : Nat → Bool, B = fun j : Nat => decide (h (t + 2) j = -1 ∧ h (t + 3) j = h t 0) := ⟨_, rfl⟩
  rw [← hB] at hQ hl6
  have hBb : bset B nc < 64 := Nat.lt_of_lt_of_le (bset_lt _ _) (show 2 ^ nc ≤ 2 ^ 6 from Nat.pow_le_pow_right (by omega) h6)
  have L : ∀ k i : Nat, i + k = nc → RR mX9_takeStanding 1 0 0 11 [pR t, pI (bset B nc), pI i] [] (shp0, rf0, rup (rup (rup h t (fup (h t) 3 (tkL B l i))) (t + 1) (tkO B l (h (t + 1)) i)) (t + 2) (tkP B l (h (t + 2)) i)) Q := by
    intro k
    induction k with
    | zero =>
      intro i hi
      obtain rfl : i = nc := by omega
      refine R_iload_n dX9_takeStanding_11 rfl (?_ : RR _ _ _ _ 12 _ _ _ _)
      refine R_aload_n dX9_takeStanding_12 rfl (?_ : RR _ _ _ _ 13 _ _ _ _)
      refine R_geti (z := 2) dX9_takeStanding_13 flX9_31 cok_9 rfl (by decide) rfl (fun q13 => (?_ : RR _ _ _ _ 16 _ _ _ _))
      try simp (disch := omega) only [rup_rup, rup_sort, rupS_def, rup_s, rup_n, fup_fup, fup_s, fup_n] at q13 ⊢
      rw [hnc] at q13 ⊢
      refine R_icmp_ge (t := 39) dX9_takeStanding_16 rfl (fun c16 => ?_) (fun c16 => ?_)
      rotate_left
      · exfalso; omega
      refine R_iload_n dX9_takeStanding_39 rfl (?_ : RR _ _ _ _ 40 _ _ _ _)
      refine R_cSi1 dX9_takeStanding_40 msJ6_bitCount_0f7a4 mlX9_74 (by decide) (Nat.le_of_ble_eq_true rfl) (Nat.le_of_ble_eq_true rfl) (T_J6_bitCount_0f7a4 (hs := by omega)) (?_ : RR _ _ _ _ 43 _ _ _ _)
      try simp (disch := omega) only [rup_rup, rup_sort, rupS_def, rup_s, rup_n, fup_fup, fup_s, fup_n]
      exact R_ireturn dX9_takeStanding_43 trivial hQ
    | succ k ih =>
      intro i hi
      have hbit := iBit (s := bset B nc) (i := i) (by omega) (by omega)
      rw [bset_bit, decide_eq_true (show i < nc by omega), Bool.true_and] at hbit
      have IH := ih (i + 1) (by omega)
      have e1 : tkL B l (i + 1) = if B i then tkL B l i + 1 else tkL B l i := rfl
      have e2 : tkO B l (h (t + 1)) (i + 1) = if B i then fup (tkO B l (h (t + 1)) i) (tkL B l i) i else tkO B l (h (t + 1)) i := rfl
      have e3 : tkP B l (h (t + 2)) (i + 1) = if B i then fup (tkP B l (h (t + 2)) i) i (tkL B l i) else tkP B l (h (t + 2)) i := rfl
      rw [e1, e2, e3] at IH
      by_cases hb : B i = true
      · rw [if_pos hb] at hbit
        rw [if_pos hb, if_pos hb, if_pos hb] at IH
        have h66 := hl6 i (by omega) (by rw [hB] at hb; exact of_decide_eq_true hb)
        refine R_iload_n dX9_takeStanding_11 rfl (?_ : RR _ _ _ _ 12 _ _ _ _)
        refine R_aload_n dX9_takeStanding_12 rfl (?_ : RR _ _ _ _ 13 _ _ _ _)
        refine R_geti (z := 2) dX9_takeStanding_13 flX9_31 cok_9 rfl (by decide) rfl (fun q13 => (?_ : RR _ _ _ _ 16 _ _ _ _))
        try simp (disch := omega) only [rup_rup, rup_sort, rupS_def, rup_s, rup_n, fup_fup, fup_s, fup_n] at q13 ⊢
        rw [hnc] at q13 ⊢
        refine R_icmp_ge (t := 39) dX9_takeStanding_16 rfl (fun c16 => ?_) (fun c16 => ?_)
        · exfalso; omega
        refine R_iload_n dX9_takeStanding_19 rfl (?_ : RR _ _ _ _ 20 _ _ _ _)
        refine R_iload_n dX9_takeStanding_20 rfl (?_ : RR _ _ _ _ 21 _ _ _ _)
        refine R_ishr dX9_takeStanding_21 (?_ : RR _ _ _ _ 22 _ _ _ _)
        refine R_iconst dX9_takeStanding_22 (?_ : RR _ _ _ _ 23 _ _ _ _)
        refine R_iand dX9_takeStanding_23 (?_ : RR _ _ _ _ 24 _ _ _ _)
        rw [hbit]
        refine R_iconst dX9_takeStanding_24 (?_ : RR _ _ _ _ 25 _ _ _ _)
        refine R_icmp_ne (t := 33) dX9_takeStanding_25 rfl (fun c25 => ?_) (fun c25 => ?_)
        · exfalso; omega
        refine R_aload_n dX9_takeStanding_28 rfl (?_ : RR _ _ _ _ 29 _ _ _ _)
        refine R_iload_n dX9_takeStanding_29 rfl (?_ : RR _ _ _ _ 30 _ _ _ _)
        refine R_cVv1 dX9_takeStanding_30 mvX9_append mlX9_43 (by decide) (by decide) (Nat.le_of_ble_eq_true rfl) (Nat.le_of_ble_eq_true rfl) (T_X9_append (n := tkL B l i) (by simp (disch := omega) only [rup_n, rup_s, fup_s])) (?_ : RR _ _ _ _ 33 _ _ _ _)
        try simp (disch := omega) only [rup_rup, rup_sort, rupS_def, rup_s, rup_n, fup_fup, fup_s, fup_n]
        refine R_iinc dX9_takeStanding_33 rfl (Nat.le_of_ble_eq_true rfl) (?_ : RR _ _ _ _ 36 [_, _, _] _ _ _)
        refine R_goto (t := 11) dX9_takeStanding_36 rfl (?_ : RR _ _ _ _ 11 _ _ _ _)
        exact IH
      · rw [if_neg hb] at hbit
        rw [if_neg hb, if_neg hb, if_neg hb] at IH
        refine R_iload_n dX9_takeStanding_11 rfl (?_ : RR _ _ _ _ 12 _ _ _ _)
        refine R_aload_n dX9_takeStanding_12 rfl (?_ : RR _ _ _ _ 13 _ _ _ _)
        refine R_geti (z := 2) dX9_takeStanding_13 flX9_31 cok_9 rfl (by decide) rfl (fun q13 => (?_ : RR _ _ _ _ 16 _ _ _ _))
        try simp (disch := omega) only [rup_rup, rup_sort, rupS_def, rup_s, rup_n, fup_fup, fup_s, fup_n] at q13 ⊢
        rw [hnc] at q13 ⊢
        refine R_icmp_ge (t := 39) dX9_takeStanding_16 rfl (fun c16 => ?_) (fun c16 => ?_)
        · exfalso; omega
        refine R_iload_n dX9_takeStanding_19 rfl (?_ : RR _ _ _ _ 20 _ _ _ _)
        refine R_iload_n dX9_takeStanding_20 rfl (?_ : RR _ _ _ _ 21 _ _ _ _)
        refine R_ishr dX9_takeStanding_21 (?_ : RR _ _ _ _ 22 _ _ _ _)
        refine R_iconst dX9_takeStanding_22 (?_ : RR _ _ _ _ 23 _ _ _ _)
        refine R_iand dX9_takeStanding_23 (?_ : RR _ _ _ _ 24 _ _ _ _)
        rw [hbit]
        refine R_iconst dX9_takeStanding_24 (?_ : RR _ _ _ _ 25 _ _ _ _)
        refine R_icmp_ne (t := 33) dX9_takeStanding_25 rfl (fun c25 => ?_) (fun c25 => ?_)
        rotate_left
        · exfalso; omega
        refine R_iinc dX9_takeStanding_33 rfl (Nat.le_of_ble_eq_true rfl) (?_ : RR _ _ _ _ 36 [_, _, _] _ _ _)
        refine R_goto (t := 11) dX9_takeStanding_36 rfl (?_ : RR _ _ _ _ 11 _ _ _ _)
        exact IH
  refine R_aload_n dX9_takeStanding_0 rfl (?_ : RR _ _ _ _ 1 _ _ _ _)
  refine R_aload_n dX9_takeStanding_1 rfl (?_ : RR _ _ _ _ 2 _ _ _ _)
  refine R_geti (z := 0) dX9_takeStanding_2 flX9_24 cok_9 rfl (by decide) rfl (fun q2 => (?_ : RR _ _ _ _ 5 _ _ _ _))
  refine R_cVi1 dX9_takeStanding_5 mvX9_standingAt mlX9_71 (by decide) (by decide) (Nat.le_of_ble_eq_true rfl) (Nat.le_of_ble_eq_true rfl) (T_X9_standingAt (n := nc) hnc) (?_ : RR _ _ _ _ 8 _ _ _ _)
  rw [← hB]
  refine R_istore_n dX9_takeStanding_8 (Nat.le_of_ble_eq_true rfl) (?_ : RR _ _ _ _ 9 [_, _, _] _ _ _)
  refine R_iconst dX9_takeStanding_9 (?_ : RR _ _ _ _ 10 _ _ _ _)
  refine R_istore_n dX9_takeStanding_10 (Nat.le_of_ble_eq_true rfl) (?_ : RR _ _ _ _ 11 [_, _, _] _ _ _)
  have L0 := L nc 0 (by omega)
  simp only [tkL, tkO, tkP] at L0
  rw [← hl, fup_self, rup_self, rup_self, rup_self] at L0
  exact L0
/-- the other -/
def mcF (B : Nat → Bool) (l : Nat) (f : Int → Int) : Nat → Int → Int
  | 0 => f
  | n + 1 => if B n then fup (mcF B l f n) (2 + 2 * n + 1) (tkL B l n) else mcF B l f n
theorem mcF_P {B : Nat → Bool} {l : Nat} {f : Int → Int} {c : Nat} : ∀ {n : Nat}, mP (mcF B l f n) c = if c < n ∧ B c = true then (tkL B l c : Int) else mP f c
  | 0 => by rw [if_neg (by omega)]; rfl
  | n + 1 => by
    unfold mcF
    by_cases hb : B n = true
    · rw [if_pos hb]
      unfold mP fup
      by_cases hc : c = n
      · subst hc
        rw [if_pos rfl, if_pos ⟨by omega, hb⟩]
      · rw [if_neg (by omega)]
        have := mcF_P (B := B) (l := l) (f := f) (c := c) (n := n)
        unfold mP at this
        rw [this]
        by_cases q : c < n ∧ B c = true
        · rw [if_pos q, if_pos ⟨by omega, q.2⟩]
        · rw [if_neg q, if_neg (fun z => q ⟨by omega, z.2⟩)]
    · rw [if_neg hb, mcF_P]
      by_cases q : c < n ∧ B c = true
      · rw [if_pos q, if_pos ⟨by omega, q.2⟩]
      · rw [if_neg q, if_neg (fun z => q ⟨by
          by_cases e : c = n
          · rw [e] at z; exact absurd z.2 hb
          · omega, z.2⟩)]
theorem mcF_o {B : Nat → Bool} {l : Nat} {f : Int → Int} {i : Int} (hi : ∀ c : Nat, i ≠ 2 + 2 * c + 1) : ∀ {n : Nat}, mcF B l f n i = f i
  | 0 => rfl
  | n + 1 => by
    unfold mcF
    split
    · rw [fup_n (hi n), mcF_o hi]
    · exact mcF_o hi
theorem mcF_len {B : Nat → Bool} {l nc : Nat} {f : Int → Int} (hB : ∀ c : Nat, c < nc → B c = true → mP f c < 0) (hl : sm (fun c => if 0 ≤ mP f c then 1 else 0) nc = l) : ∀ n : Nat, n ≤ nc → sm (fun c => if 0 ≤ mP (mcF B l f n) c then 1 else 0) nc = tkL B l n
  | 0, _ => hl
  | n + 1, hn => by
    have ih := mcF_len hB hl n (by omega)
    have e : sm (fun c : Nat => if 0 ≤ mP (mcF B l f (n + 1)) c then 1 else 0) nc = sm (fun c : Nat => (if 0 ≤ mP (mcF B l f n) c then 1 else 0) + (if c = n then (if B n then 1 else 0) else 0)) nc := sm_congr (fun c hc => by
      have p1 := mcF_P (B := B) (l := l) (f := f) (c := c) (n := n + 1)
      have p2 := mcF_P (B := B) (l := l) (f := f) (c := c) (n := n)
      by_cases hcn : c = n
      · subst hcn
        by_cases hb : B c = true
        · have := hB c hc hb
          rw [if_pos ⟨by omega, hb⟩] at p1
          rw [if_neg (fun z => absurd z.1 (by omega))] at p2
          rw [p1, p2, if_pos (show (0 : Int) ≤ (tkL B l c : Int) by omega), if_neg (show ¬ 0 ≤ mP f c by omega), if_pos rfl, if_pos hb]
          rfl
        · rw [if_neg (fun z => hb z.2)] at p1 p2
          rw [p1, p2, if_pos rfl, if_neg hb]
          omega
      · rw [if_neg hcn]
        by_cases q : c < n ∧ B c = true
        · rw [if_pos ⟨by omega, q.2⟩] at p1
          rw [if_pos q] at p2
          rw [p1, p2]
          omega
        · rw [if_neg (fun z => q ⟨by omega, z.2⟩)] at p1
          rw [if_neg q] at p2
          rw [p1, p2]
          omega)
    rw [e, sm_add, ih, sm_ptv (c0 := n) (v := if B n then 1 else 0) (by omega) (fun c hc => rfl)]
    show _ = ((if B n then tkL B l n + 1 else tkL B l n : Nat) : Int)
    split <;> omega
theorem T_X12_couples {r nc l : Nat} {h : Nat → Int → Int} (hnc : h 147 4 = nc) (hl : sm (fun c => if 0 ≤ mP (h r) c then 1 else 0) nc = l) (hen : r32 (h r 0)) (hr : isRw r := by assumption) (hrb : r = 154 ∨ r = 155 := by omega) (h6 : nc ≤ 6 := by omega) (hl6 : l ≤ 6 := by omega) : MT mX12_couples 2 [pR 147, pR r] h (some (pI (if bset (fun j => decide (mP (h r) j < 0 ∧ mA (h r) j = h r 0)) nc = 0 then -2 else (pop 12 (bset (fun j => decide (mP (h r) j < 0 ∧ mA (h r) j = h r 0)) nc) : Nat)))) (rup h r (mcF (fun j => decide (mP (h r) j < 0 ∧ mA (h r) j = h r 0)) l (h r) nc)) := by
  refine MT.of (fun Q hQ => (?_ : RR mX12_couples _ _ _ _ [pR 147, pR r, pU, pU] _ _ _))
  obtain ⟨B, hB⟩ : ∃ B : Nat → Bool, B = fun j : Nat => decide (mP (h r) j < 0 ∧ mA (h r) j = h r 0) := ⟨_, rfl⟩
  rw [← hB] at hQ
  have hBb : bset B nc < 64 := Nat.lt_of_lt_of_le (bset_lt _ _) (show 2 ^ nc ≤ 2 ^ 6 from Nat.pow_le_pow_right (by omega) h6)
  have hneg : ∀ c : Nat, c < nc → B c = true → mP (h r) c < 0 := fun c _ hb => by
    rw [hB] at hb
    exact (of_decide_eq_true hb).1
  have L : ∀ k i : Nat, i + k = nc → RR mX12_couples 2 0 0 11 [pR 147, pR r, pI (bset B nc), pI i] [] (shp0, rf0, rup h r (mcF B l (h r) i)) Q := by
    intro k
    induction k with
    | zero =>
      intro i hi
      obtain rfl : i = nc := by omega
      by_cases hz : bset B i = 0
      · rw [if_pos hz] at hQ
        refine R_iload_n dX12_couples_11 rfl (?_ : RR _ _ _ _ 12 _ _ _ _)
        refine R_aload_n dX12_couples_12 rfl (?_ : RR _ _ _ _ 13 _ _ _ _)
        refine R_geti (z := 4) dX12_couples_13 flX12_124 cok_12 rfl (by decide) rfl (fun q13 => (?_ : RR _ _ _ _ 16 _ _ _ _))
        try simp (disch := omega) only [rup_rup, rup_sort, rupS_def, rup_s, rup_n, fup_fup, fup_s, fup_n] at q13 ⊢
        rw [hnc] at q13 ⊢
        refine R_icmp_ge (t := 47) dX12_couples_16 rfl (fun c16 => ?_) (fun c16 => ?_)
        rotate_left
        · exfalso; omega
        refine R_iload_n dX12_couples_47 rfl (?_ : RR _ _ _ _ 48 _ _ _ _)
        refine R_if_ne (t := 56) dX12_couples_48 rfl (fun c48 => ?_) (fun c48 => ?_)
        · exfalso; omega
        refine R_bipush dX12_couples_51 rfl (?_ : RR _ _ _ _ 53 _ _ _ _)
        refine R_goto (t := 60) dX12_couples_53 rfl (?_ : RR _ _ _ _ 60 _ _ _ _)
        exact R_ireturn dX12_couples_60 trivial hQ
      · rw [if_neg hz] at hQ
        refine R_iload_n dX12_couples_11 rfl (?_ : RR _ _ _ _ 12 _ _ _ _)
        refine R_aload_n dX12_couples_12 rfl (?_ : RR _ _ _ _ 13 _ _ _ _)
        refine R_geti (z := 4) dX12_couples_13 flX12_124 cok_12 rfl (by decide) rfl (fun q13 => (?_ : RR _ _ _ _ 16 _ _ _ _))
        try simp (disch := omega) only [rup_rup, rup_sort, rupS_def, rup_s, rup_n, fup_fup, fup_s, fup_n] at q13 ⊢
        rw [hnc] at q13 ⊢
        refine R_icmp_ge (t := 47) dX12_couples_16 rfl (fun c16 => ?_) (fun c16 => ?_)
        rotate_left
        · exfalso; omega
        refine R_iload_n dX12_couples_47 rfl (?_ : RR _ _ _ _ 48 _ _ _ _)
        refine R_if_ne (t := 56) dX12_couples_48 rfl (fun c48 => ?_) (fun c48 => ?_)
        rotate_left
        · exfalso; omega
        refine R_iload_n dX12_couples_56 rfl (?_ : RR _ _ _ _ 57 _ _ _ _)
        refine R_cSi1 dX12_couples_57 msJ6_bitCount_0f7a4 mlX12_273 (by decide) (Nat.le_of_ble_eq_true rfl) (Nat.le_of_ble_eq_true rfl) (T_J6_bitCount_0f7a4 (hs := by omega)) (?_ : RR _ _ _ _ 60 _ _ _ _)
        try simp (disch := omega) only [rup_rup, rup_sort, rupS_def, rup_s, rup_n, fup_fup, fup_s, fup_n]
        exact R_ireturn dX12_couples_60 trivial hQ
    | succ k ih =>
      intro i hi
      have IH := ih (i + 1) (by omega)
      have e1 : mcF B l (h r) (i + 1) = if B i then fup (mcF B l (h r) i) (2 + 2 * i + 1) (tkL B l i) else mcF B l (h r) i := rfl
      rw [e1] at IH
      have hle := mcF_len (B := B) (l := l) hneg hl i (by omega)
      have htb := tkL_b (B := B) (l := l) (n := i)
      have hbit : (bset B nc).testBit i = B i := by rw [bset_bit, decide_eq_true (show i < nc by omega), Bool.true_and]
      by_cases hb : B i = true
      · rw [if_pos hb] at IH
        refine R_iload_n dX12_couples_11 rfl (?_ : RR _ _ _ _ 12 _ _ _ _)
        refine R_aload_n dX12_couples_12 rfl (?_ : RR _ _ _ _ 13 _ _ _ _)
        refine R_geti (z := 4) dX12_couples_13 flX12_124 cok_12 rfl (by decide) rfl (fun q13 => (?_ : RR _ _ _ _ 16 _ _ _ _))
        try simp (disch := omega) only [rup_rup, rup_sort, rupS_def, rup_s, rup_n, fup_fup, fup_s, fup_n] at q13 ⊢
        rw [hnc] at q13 ⊢
        refine R_icmp_ge (t := 47) dX12_couples_16 rfl (fun c16 => ?_) (fun c16 => ?_)
        · exfalso; omega
        refine R_iload_n dX12_couples_19 rfl (?_ : RR _ _ _ _ 20 _ _ _ _)
        refine R_iload_n dX12_couples_20 rfl (?_ : RR _ _ _ _ 21 _ _ _ _)
        refine R_cSi2 dX12_couples_21 msX12_has mlX12_288 (by decide) (Nat.le_of_ble_eq_true rfl) (Nat.le_of_ble_eq_true rfl) (T_X12_has (by omega)) (?_ : RR _ _ _ _ 24 _ _ _ _)
        try simp (disch := omega) only [rup_rup, rup_sort, rupS_def, rup_s, rup_n, fup_fup, fup_s, fup_n]
        rw [hbit, if_pos hb]
        refine R_if_eq (t := 41) dX12_couples_24 rfl (fun c24 => ?_) (fun c24 => ?_)
        · exfalso; omega
        refine R_aload_n dX12_couples_27 rfl (?_ : RR _ _ _ _ 28 _ _ _ _)
        refine R_iconst dX12_couples_28 (?_ : RR _ _ _ _ 29 _ _ _ _)
        refine R_iconst dX12_couples_29 (?_ : RR _ _ _ _ 30 _ _ _ _)
        refine R_iload_n dX12_couples_30 rfl (?_ : RR _ _ _ _ 31 _ _ _ _)
        refine R_imul dX12_couples_31 (?_ : RR _ _ _ _ 32 _ _ _ _)
        refine R_iadd dX12_couples_32 (?_ : RR _ _ _ _ 33 _ _ _ _)
        refine R_iconst dX12_couples_33 (?_ : RR _ _ _ _ 34 _ _ _ _)
        refine R_iadd dX12_couples_34 (?_ : RR _ _ _ _ 35 _ _ _ _)
        refine R_aload_n dX12_couples_35 rfl (?_ : RR _ _ _ _ 36 _ _ _ _)
        refine R_aload_n dX12_couples_36 rfl (?_ : RR _ _ _ _ 37 _ _ _ _)
        refine R_cVi1 dX12_couples_37 mvX12_trainLong mlX12_217 (by decide) (by decide) (Nat.le_of_ble_eq_true rfl) (Nat.le_of_ble_eq_true rfl) (T_X12_trainLong (nc := nc) (by simp (disch := omega) only [rup_n]; exact hnc)) (?_ : RR _ _ _ _ 40 _ _ _ _)
        try simp (disch := omega) only [rup_rup, rup_sort, rupS_def, rup_s, rup_n, fup_fup, fup_s, fup_n]
        rw [hle]
        refine R_iast dX12_couples_40 (?_ : RR _ _ _ _ 41 _ _ _ _)
        try simp (disch := omega) only [rup_rup, rup_sort, rupS_def, rup_s, rup_n, fup_fup, fup_s, fup_n]
        refine R_iinc dX12_couples_41 rfl (Nat.le_of_ble_eq_true rfl) (?_ : RR _ _ _ _ 44 [_, _, _, _] _ _ _)
        refine R_goto (t := 11) dX12_couples_44 rfl (?_ : RR _ _ _ _ 11 _ _ _ _)
        exact IH
      · rw [if_neg hb] at IH
        refine R_iload_n dX12_couples_11 rfl (?_ : RR _ _ _ _ 12 _ _ _ _)
        refine R_aload_n dX12_couples_12 rfl (?_ : RR _ _ _ _ 13 _ _ _ _)
        refine R_geti (z := 4) dX12_couples_13 flX12_124 cok_12 rfl (by decide) rfl (fun q13 => (?_ : RR _ _ _ _ 16 _ _ _ _))
        try simp (disch := omega) only [rup_rup, rup_sort, rupS_def, rup_s, rup_n, fup_fup, fup_s, fup_n] at q13 ⊢
        rw [hnc] at q13 ⊢
        refine R_icmp_ge (t := 47) dX12_couples_16 rfl (fun c16 => ?_) (fun c16 => ?_)
        · exfalso; omega
        refine R_iload_n dX12_couples_19 rfl (?_ : RR _ _ _ _ 20 _ _ _ _)
        refine R_iload_n dX12_couples_20 rfl (?_ : RR _ _ _ _ 21 _ _ _ _)
        refine R_cSi2 dX12_couples_21 msX12_has mlX12_288 (by decide) (Nat.le_of_ble_eq_true rfl) (Nat.le_of_ble_eq_true rfl) (T_X12_has (by omega)) (?_ : RR _ _ _ _ 24 _ _ _ _)
        try simp (disch := omega) only [rup_rup, rup_sort, rupS_def, rup_s, rup_n, fup_fup, fup_s, fup_n]
        rw [hbit, if_neg hb]
        refine R_if_eq (t := 41) dX12_couples_24 rfl (fun c24 => ?_) (fun c24 => ?_)
        rotate_left
        · exfalso; omega
        refine R_iinc dX12_couples_41 rfl (Nat.le_of_ble_eq_true rfl) (?_ : RR _ _ _ _ 44 [_, _, _, _] _ _ _)
        refine R_goto (t := 11) dX12_couples_44 rfl (?_ : RR _ _ _ _ 11 _ _ _ _)
        exact IH
  refine R_aload_n dX12_couples_0 rfl (?_ : RR _ _ _ _ 1 _ _ _ _)
  refine R_aload_n dX12_couples_1 rfl (?_ : RR _ _ _ _ 2 _ _ _ _)
  refine R_aload_n dX12_couples_2 rfl (?_ : RR _ _ _ _ 3 _ _ _ _)
  refine R_iconst dX12_couples_3 (?_ : RR _ _ _ _ 4 _ _ _ _)
  refine R_iald dX12_couples_4 (fun q4 => (?_ : RR _ _ _ _ 5 _ _ _ _))
  refine R_cVi2 dX12_couples_5 mvX12_standingAt mlX12_314 (by decide) (by decide) (Nat.le_of_ble_eq_true rfl) (Nat.le_of_ble_eq_true rfl) (T_X12_standingAt hnc) (?_ : RR _ _ _ _ 8 _ _ _ _)
  rw [← hB]
  refine R_istore_n dX12_couples_8 (Nat.le_of_ble_eq_true rfl) (?_ : RR _ _ _ _ 9 [_, _, _, _] _ _ _)
  refine R_iconst dX12_couples_9 (?_ : RR _ _ _ _ 10 _ _ _ _)
  refine R_istore_n dX12_couples_10 (Nat.le_of_ble_eq_true rfl) (?_ : RR _ _ _ _ 11 [_, _, _, _] _ _ _)
  have L0 := L nc 0 (by omega)
  simp only [mcF, rup_self] at L0
  exact L0
