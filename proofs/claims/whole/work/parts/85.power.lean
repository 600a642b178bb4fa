/-! how often one tips -/
def pwV (V : Int → Int) (np S : Nat) : Int := sm (fun o => if S.testBit o then V o else 0) np
def pwT (T own L : Int) : Int := if T ≤ 2 * L ∧ 2 * (L - own) < T then 1 else 0
def pwF (V : Int → Int) (np : Nat) (T own : Int) (x : Nat) (s : Int) : Int := s + pwT T own (pwV V np x)
def oth (a p : Nat) : Nat := bset (fun i => a.testBit i && !(2 ^ p).testBit i) 12
theorem oth_bit {a p i : Nat} (ha : a < 4096) : (oth a p).testBit i = (a.testBit i && decide (i ≠ p)) := by
  unfold oth
  rw [bset_bit, Nat.testBit_two_pow]
  by_cases q : i < 12
  · rw [decide_eq_true q, Bool.true_and]
    by_cases y : p = i
    · subst y; simp
    · rw [decide_eq_false y, decide_eq_true (show i ≠ p from fun e => y e.symm)]
      rfl
  · rw [Nat.testBit_lt_two_pow (Nat.lt_of_lt_of_le ha (show 2 ^ 12 ≤ 2 ^ i from Nat.pow_le_pow_right (by omega) (by omega)))]
    simp
theorem oth_lt {a p : Nat} : oth a p < 4096 := bset_lt _ 12
theorem or2 {x y b c : Nat} (hb : b < 2) (hc : c < 2) : (2 * x + b) ||| (2 * y + c) = 2 * (x ||| y) + (b ||| c) := by
  have hbc : b ||| c < 2 := Nat.or_lt_two_pow (n := 1) hb hc
  apply Nat.eq_of_testBit_eq
  intro i
  rw [Nat.testBit_or]
  cases i with
  | zero =>
    simp only [Nat.testBit_zero]
    have : b = 0 ∨ b = 1 := by omega
    have : c = 0 ∨ c = 1 := by omega
    rcases ‹b = 0 ∨ b = 1› with rfl | rfl <;> rcases ‹c = 0 ∨ c = 1› with rfl | rfl <;> simp
  | succ i =>
    rw [Nat.testBit_succ, Nat.testBit_succ, Nat.testBit_succ, show (2 * x + b) / 2 = x by omega, show (2 * y + c) / 2 = y by omega, show (2 * (x ||| y) + (b ||| c)) / 2 = (x ||| y) by omega, Nat.testBit_or]
theorem or_pw : ∀ (p d : Nat), d.testBit p = false → d ||| 2 ^ p = d + 2 ^ p
  | 0, d, h => by
    have h0 : d % 2 = 0 := by
      simp only [Nat.testBit_zero, decide_eq_false_iff_not] at h
      omega
    have := or2 (x := d / 2) (y := 0) (b := 0) (c := 1) (by omega) (by omega)
    rw [Nat.or_zero, show 2 * (d / 2) + 0 = d by omega] at this
    show d ||| 1 = d + 1
    rw [show (1 : Nat) = 2 * 0 + 1 from rfl, this]
    show 2 * (d / 2) + 1 = _
    omega
  | p + 1, d, h => by
    rw [Nat.testBit_succ] at h
    have ih := or_pw p (d / 2) h
    have := or2 (x := d / 2) (y := 2 ^ p) (b := d % 2) (c := 0) (by omega) (by omega)
    rw [show 2 * (d / 2) + d % 2 = d by omega, ih, Nat.or_zero] at this
    rw [Nat.pow_succ, show 2 ^ p * 2 = 2 * 2 ^ p + 0 by omega, this]
    omega
theorem pw_or {V : Int → Int} {p d : Nat} : ∀ {n : Nat}, p < n → d.testBit p = false → pwV V n (d ||| 2 ^ p) = V p + pwV V n d := by
  intro n hp hd
  unfold pwV
  have h1 : sm (fun o : Nat => if o = p then V p else 0) n = V p := sm_ptv hp (fun c _ => rfl)
  rw [← h1, ← sm_add]
  refine sm_congr (fun o _ => ?_)
  rw [Nat.testBit_or, Nat.testBit_two_pow]
  by_cases y : o = p
  · subst y
    rw [hd, if_pos rfl]
    simp
  · rw [if_neg y, decide_eq_false (show ¬ p = o from fun e => y e.symm), Bool.or_false, Int.zero_add]
theorem pw_up {V : Int → Int} {s t a b : Nat} (ha : ∀ i, a.testBit i = (t.testBit i && !s.testBit i)) (hb : ∀ i, b.testBit i = (s.testBit i && !t.testBit i)) : ∀ n : Nat, pwV V n s + (pwV V n a - pwV V n b) = pwV V n t
  | 0 => rfl
  | n + 1 => by
    have ih := pw_up (V := V) ha hb n
    unfold pwV at ih ⊢
    show (sm _ n + (if s.testBit n then V n else 0)) + ((sm _ n + (if a.testBit n then V n else 0)) - (sm _ n + (if b.testBit n then V n else 0))) = sm _ n + (if t.testBit n then V n else 0)
    rw [ha n, hb n]
    cases s.testBit n <;> cases t.testBit n <;> simp <;> omega
theorem sub_0 {x a : Nat} (hx : x < 4096) : (bset (fun i => x.testBit i && !a.testBit i) 12 = 0) ↔ sub2 x a := by
  constructor
  · intro h i hi
    have h12 : i < 12 := by
      by_cases q : i < 12
      · exact q
      · rw [Nat.testBit_lt_two_pow (Nat.lt_of_lt_of_le hx (show 2 ^ 12 ≤ 2 ^ i from Nat.pow_le_pow_right (by omega) (by omega)))] at hi
        cases hi
    have := bset_bit (fun i => x.testBit i && !a.testBit i) 12 i
    rw [h, Nat.zero_testBit, decide_eq_true h12, Bool.true_and, hi, Bool.true_and] at this
    cases hh : a.testBit i
    · rw [hh] at this; cases this
    · rfl
  · intro h
    apply Nat.eq_of_testBit_eq
    intro i
    rw [bset_bit, Nat.zero_testBit]
    by_cases q : x.testBit i = true
    · rw [h i q]; simp
    · rw [show x.testBit i = false by simpa using q]; simp
theorem pop_oth {a p : Nat} (ha : a < 4096) (hp : a.testBit p = true) : pop 12 a = pop 12 (oth a p) + 1 := by
  have hp12 : p < 12 := by
    by_cases q : p < 12
    · exact q
    · rw [Nat.testBit_lt_two_pow (Nat.lt_of_lt_of_le ha (show 2 ^ 12 ≤ 2 ^ p from Nat.pow_le_pow_right (by omega) (by omega)))] at hp
      cases hp
  have h1 := pop_bset (P := a.testBit) (n := 12) (Nat.le_refl _)
  have h2 := pop_bset (P := (oth a p).testBit) (n := 12) (Nat.le_refl _)
  rw [bset_tb (show a < 2 ^ 12 from ha)] at h1
  rw [bset_tb (show oth a p < 2 ^ 12 from oth_lt)] at h2
  have h3 : sm (fun o : Nat => if o = p then (1 : Int) else 0) 12 = 1 := sm_pt hp12 (fun c _ => rfl)
  have h4 : sm (fun q : Nat => if a.testBit q = true then (1 : Int) else 0) 12 = sm (fun q : Nat => if (oth a p).testBit q = true then (1 : Int) else 0) 12 + sm (fun o : Nat => if o = p then (1 : Int) else 0) 12 := by
    rw [← sm_add]
    refine sm_congr (fun q _ => ?_)
    rw [oth_bit ha]
    by_cases y : q = p
    · subst y
      rw [hp]
      simp
    · rw [if_neg y]
      simp [y]
  omega
/-- both ways of going through the sets -/
theorem pw_enum {V : Int → Int} {np a p : Nat} {T own : Int} {g : Nat → Int → Int} (ha : a < 4096) (hp : a.testBit p = true) (hpn : p < np) (hown : own = V p) (hg1 : ∀ x s, (sub2 x a ∧ x.testBit p = true) → g x s = pwF V np T own x s) (hg2 : ∀ x s, ¬ (sub2 x a ∧ x.testBit p = true) → g x s = s) : it g 0 (a + 1) = it (fun i s => s + pwT T own (own + pwV V np (dep 12 (oth a p) i))) 0 (2 ^ pop 12 (oth a p)) := by
  have hdp : ∀ i, (dep 12 (oth a p) i).testBit p = false := fun i => by
    cases hh : (dep 12 (oth a p) i).testBit p
    · rfl
    · have := dep_sub 12 (oth a p) i p hh
      rw [oth_bit ha] at this
      simp at this
  have e1 : (fun (i : Nat) (s : Int) => s + pwT T own (own + pwV V np (dep 12 (oth a p) i))) = fun i => pwF V np T own (dep 12 (oth a p) i ||| 2 ^ p) := by
    funext i s
    unfold pwF
    rw [pw_or hpn (hdp i), hown]
  rw [e1]
  refine it_enum (C := fun x => sub2 x a ∧ x.testBit p = true) (y := fun i => dep 12 (oth a p) i ||| 2 ^ p) (F := pwF V np T own) hg1 hg2 (fun i j h hj => ?_) (fun i hi => ?_) (fun x hx => ⟨fun hC => ?_, fun ⟨i, i1, i2⟩ => ?_⟩)
  · show dep 12 (oth a p) i ||| 2 ^ p < dep 12 (oth a p) j ||| 2 ^ p
    rw [or_pw p _ (hdp i), or_pw p _ (hdp j)]
    have := dep_lt 12 (oth a p) i j h hj
    omega
  · refine sub2_le (fun j hj => ?_)
    have hj : (dep 12 (oth a p) i ||| 2 ^ p).testBit j = true := hj
    rw [Nat.testBit_or, Nat.testBit_two_pow] at hj
    by_cases y : p = j
    · rw [← y]; exact hp
    · rw [decide_eq_false y, Bool.or_false] at hj
      have := dep_sub 12 (oth a p) i j hj
      rw [oth_bit ha] at this
      simp at this
      exact this.1
  · obtain ⟨i, i1, i2⟩ := dep_ex 12 (oth a p) (oth x p) (show oth a p < 2 ^ 12 from oth_lt) (fun j hj => by
      rw [oth_bit (by omega)] at hj
      simp only [Bool.and_eq_true] at hj
      rw [oth_bit ha, hC.1 j hj.1, hj.2]
      rfl)
    refine ⟨i, i1, ?_⟩
    show x = dep 12 (oth a p) i ||| 2 ^ p
    rw [i2]
    apply Nat.eq_of_testBit_eq
    intro j
    rw [Nat.testBit_or, Nat.testBit_two_pow, oth_bit (by omega)]
    by_cases y : p = j
    · rw [← y, hC.2]; simp
    · rw [decide_eq_false y, decide_eq_true (show j ≠ p from fun e => y e.symm)]; simp
  · rw [i2]
    refine ⟨fun j hj => ?_, ?_⟩
    · rw [Nat.testBit_or, Nat.testBit_two_pow] at hj
      by_cases y : p = j
      · rw [← y]; exact hp
      · rw [decide_eq_false y, Bool.or_false] at hj
        have := dep_sub 12 (oth a p) i j hj
        rw [oth_bit ha] at this
        simp at this
        exact this.1
    · rw [Nat.testBit_or, Nat.testBit_two_pow]
      simp
def pwN (V : Int → Int) (np a p : Nat) (T own : Int) : Nat → Int := it (fun i s => s + pwT T own (own + pwV V np (dep 12 (oth a p) i))) 0
theorem pwN_b {V : Int → Int} {np a p : Nat} {T own : Int} : ∀ i : Nat, 0 ≤ pwN V np a p T own i ∧ pwN V np a p T own i ≤ i
  | 0 => ⟨Int.le_refl _, Int.le_refl _⟩
  | i + 1 => by
    have ih := pwN_b (V := V) (np := np) (a := a) (p := p) (T := T) (own := own) i
    show 0 ≤ pwN V np a p T own i + pwT T own _ ∧ pwN V np a p T own i + pwT T own _ ≤ ((i + 1 : Nat) : Int)
    unfold pwT
    split <;> omega
