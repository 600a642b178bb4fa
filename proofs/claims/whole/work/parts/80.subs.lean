/-! sets of a set, one behind another -/
theorem and2 {x y b c : Nat} (hb : b < 2) (hc : c < 2) : (2 * x + b) &&& (2 * y + c) = 2 * (x &&& y) + (b &&& c) := by
  have hbc : b &&& c < 2 := Nat.lt_of_le_of_lt Nat.and_le_left hb
  apply Nat.eq_of_testBit_eq
  intro i
  rw [Nat.testBit_and]
  cases i with
  | zero =>
    simp only [Nat.testBit_zero]
    have : b = 0 ∨ b = 1 := by omega
    have : c = 0 ∨ c = 1 := by omega
    rcases ‹b = 0 ∨ b = 1› with rfl | rfl <;> rcases ‹c = 0 ∨ c = 1› with rfl | rfl <;> simp
  | succ i =>
    rw [Nat.testBit_succ, Nat.testBit_succ, Nat.testBit_succ, show (2 * x + b) / 2 = x by omega, show (2 * y + c) / 2 = y by omega, show (2 * (x &&& y) + (b &&& c)) / 2 = (x &&& y) by omega, Nat.testBit_and]
/-- bit by bit in another -/
def sub2 (x m : Nat) : Prop := ∀ i, x.testBit i = true → m.testBit i = true
theorem sub2_h {x m : Nat} (h : sub2 x m) : sub2 (x / 2) (m / 2) ∧ x % 2 ≤ m % 2 := by
  refine ⟨fun i hi => ?_, ?_⟩
  · rw [← Nat.testBit_succ] at hi ⊢
    exact h (i + 1) hi
  · have := h 0
    simp only [Nat.testBit_zero, decide_eq_true_eq] at this
    omega
theorem sub2_m {x m : Nat} (h1 : sub2 (x / 2) (m / 2)) (h2 : x % 2 ≤ m % 2) : sub2 x m := fun i hi => by
  cases i with
  | zero =>
    simp only [Nat.testBit_zero, decide_eq_true_eq] at hi ⊢
    omega
  | succ i =>
    rw [Nat.testBit_succ] at hi ⊢
    exact h1 i hi
/-- the i-th set of a set of n bits -/
def dep : Nat → Nat → Nat → Nat
  | 0, _, _ => 0
  | n + 1, m, i => if m % 2 = 1 then 2 * dep n (m / 2) (i / 2) + i % 2 else 2 * dep n (m / 2) i
theorem dep_sub : ∀ (n m i : Nat), sub2 (dep n m i) m
  | 0, m, i => fun j hj => by
    rw [show dep 0 m i = 0 from rfl, Nat.zero_testBit] at hj
    cases hj
  | n + 1, m, i => by
    unfold dep
    split
    · refine sub2_m ?_ (by omega)
      rw [show (2 * dep n (m / 2) (i / 2) + i % 2) / 2 = dep n (m / 2) (i / 2) by omega]
      exact dep_sub n _ _
    · refine sub2_m ?_ (by omega)
      rw [show (2 * dep n (m / 2) i) / 2 = dep n (m / 2) i by omega]
      exact dep_sub n _ _
theorem dep_lt : ∀ (n m i j : Nat), i < j → j < 2 ^ pop n m → dep n m i < dep n m j
  | 0, m, i, j, h, hj => by
    rw [show pop 0 m = 0 from rfl] at hj
    omega
  | n + 1, m, i, j, h, hj => by
    rw [show pop (n + 1) m = m % 2 + pop n (m / 2) from rfl] at hj
    unfold dep
    split
    · rename_i q
      rw [q, Nat.add_comm 1, Nat.pow_succ] at hj
      by_cases y : i / 2 < j / 2
      · have := dep_lt n (m / 2) (i / 2) (j / 2) y (by omega)
        omega
      · rw [show i / 2 = j / 2 by omega]
        omega
    · rename_i q
      rw [show m % 2 = 0 by omega, Nat.zero_add] at hj
      have := dep_lt n (m / 2) i j h hj
      omega
theorem dep_ex : ∀ (n m x : Nat), m < 2 ^ n → sub2 x m → ∃ i, i < 2 ^ pop n m ∧ dep n m i = x
  | 0, m, x, hm, hx => by
    have hm0 : m = 0 := by simpa using hm
    subst hm0
    have hx0 : x = 0 := by
      apply Nat.eq_of_testBit_eq
      intro i
      rw [Nat.zero_testBit]
      by_cases q : x.testBit i = true
      · have := hx i q
        rw [Nat.zero_testBit] at this
        cases this
      · simpa using q
    exact ⟨0, by show 0 < 2 ^ 0; omega, by rw [hx0]; rfl⟩
  | n + 1, m, x, hm, hx => by
    obtain ⟨h1, h2⟩ := sub2_h hx
    rw [Nat.pow_succ] at hm
    obtain ⟨i, i1, i2⟩ := dep_ex n (m / 2) (x / 2) (by omega) h1
    rw [show pop (n + 1) m = m % 2 + pop n (m / 2) from rfl]
    unfold dep
    by_cases q : m % 2 = 1
    · refine ⟨2 * i + x % 2, ?_, ?_⟩
      · rw [q, Nat.add_comm 1, Nat.pow_succ]
        omega
      · rw [if_pos q, show (2 * i + x % 2) / 2 = i by omega, i2]
        omega
    · refine ⟨i, ?_, ?_⟩
      · rw [show m % 2 = 0 by omega, Nat.zero_add]
        exact i1
      · rw [if_neg q, i2]
        omega
theorem dep_top : ∀ (n m : Nat), m < 2 ^ n → dep n m (2 ^ pop n m - 1) = m
  | 0, m, hm => by
    have hm0 : m = 0 := by simpa using hm
    subst hm0
    rfl
  | n + 1, m, hm => by
    rw [Nat.pow_succ] at hm
    have ih := dep_top n (m / 2) (by omega)
    rw [show pop (n + 1) m = m % 2 + pop n (m / 2) from rfl]
    unfold dep
    have hp : 1 ≤ 2 ^ pop n (m / 2) := Nat.pow_pos (by omega)
    by_cases q : m % 2 = 1
    · rw [if_pos q, q, Nat.add_comm 1, Nat.pow_succ, show (2 ^ pop n (m / 2) * 2 - 1) / 2 = 2 ^ pop n (m / 2) - 1 by omega, ih]
      omega
    · rw [if_neg q, show m % 2 = 0 by omega, Nat.zero_add, ih]
      omega
theorem dep_0 : ∀ (n m : Nat), dep n m 0 = 0
  | 0, _ => rfl
  | n + 1, m => by
    unfold dep
    rw [Nat.zero_div, dep_0 n]
    split <;> rfl
theorem sub2_le {x m : Nat} (h : sub2 x m) : x ≤ m := by
  have e : x &&& m = x := by
    apply Nat.eq_of_testBit_eq
    intro i
    rw [Nat.testBit_and]
    by_cases q : x.testBit i = true
    · rw [q, h i q]; rfl
    · rw [show x.testBit i = false by simpa using q, Bool.false_and]
  rw [← e]
  exact Nat.and_le_right
theorem cmp_and : ∀ (n a d : Nat), a < 2 ^ n → sub2 d a → (2 ^ n - 1 - (a - d)) &&& a = d
  | 0, a, d, ha, hd => by
    have h0 : a = 0 := by simpa using ha
    subst h0
    have := sub2_le hd
    rw [Nat.and_zero]
    omega
  | n + 1, a, d, ha, hd => by
    obtain ⟨h1, h2⟩ := sub2_h hd
    rw [Nat.pow_succ] at ha
    have hle := sub2_le hd
    have hle2 := sub2_le h1
    have ih := cmp_and n (a / 2) (d / 2) (by omega) h1
    rw [Nat.pow_succ]
    have e : (2 ^ n * 2 - 1 - (a - d)) = 2 * (2 ^ n - 1 - (a / 2 - d / 2)) + (1 - (a % 2 - d % 2)) := by omega
    have e2 : a = 2 * (a / 2) + a % 2 := by omega
    rw [e]
    have h3 : (2 * (2 ^ n - 1 - (a / 2 - d / 2)) + (1 - (a % 2 - d % 2))) &&& a = 2 * ((2 ^ n - 1 - (a / 2 - d / 2)) &&& (a / 2)) + ((1 - (a % 2 - d % 2)) &&& (a % 2)) := by
      have := and2 (x := 2 ^ n - 1 - (a / 2 - d / 2)) (y := a / 2) (b := 1 - (a % 2 - d % 2)) (c := a % 2) (by omega) (by omega)
      rw [← e2] at this
      exact this
    rw [h3, ih]
    have ca : a % 2 = 0 ∨ a % 2 = 1 := by omega
    have cd : d % 2 = 0 ∨ d % 2 = 1 := by omega
    rcases ca with ca | ca <;> rcases cd with cd | cd <;> rw [ca, cd] <;> simp <;> omega
theorem nxt_and : ∀ (n m i : Nat), m < 2 ^ n → i + 1 < 2 ^ pop n m → (2 ^ n - (m - dep n m i)) &&& m = dep n m (i + 1)
  | 0, m, i, hm, hi => by
    rw [show pop 0 m = 0 from rfl] at hi
    omega
  | n + 1, m, i, hm, hi => by
    rw [show pop (n + 1) m = m % 2 + pop n (m / 2) from rfl] at hi
    rw [Nat.pow_succ] at hm
    have e2 : m = 2 * (m / 2) + m % 2 := by omega
    by_cases q : m % 2 = 1
    · rw [q, Nat.add_comm 1, Nat.pow_succ] at hi
      have hd1 : dep (n + 1) m i = 2 * dep n (m / 2) (i / 2) + i % 2 := by
        show (if m % 2 = 1 then _ else _) = _
        rw [if_pos q]
      have hd2 : dep (n + 1) m (i + 1) = 2 * dep n (m / 2) ((i + 1) / 2) + (i + 1) % 2 := by
        show (if m % 2 = 1 then _ else _) = _
        rw [if_pos q]
      have hs := dep_sub n (m / 2) (i / 2)
      have hle := sub2_le hs
      rw [hd1, hd2, Nat.pow_succ]
      by_cases y : i % 2 = 0
      · have hc := cmp_and n (m / 2) (dep n (m / 2) (i / 2)) (by omega) hs
        have e : 2 ^ n * 2 - (m - (2 * dep n (m / 2) (i / 2) + i % 2)) = 2 * (2 ^ n - 1 - (m / 2 - dep n (m / 2) (i / 2))) + 1 := by omega
        have := and2 (x := 2 ^ n - 1 - (m / 2 - dep n (m / 2) (i / 2))) (y := m / 2) (b := 1) (c := m % 2) (by omega) (by omega)
        rw [← e2, ← e, hc, q] at this
        rw [this, show (i + 1) / 2 = i / 2 by omega, show (i + 1) % 2 = 1 by omega]
        rfl
      · have ih := nxt_and n (m / 2) (i / 2) (by omega) (by omega)
        have e : 2 ^ n * 2 - (m - (2 * dep n (m / 2) (i / 2) + i % 2)) = 2 * (2 ^ n - (m / 2 - dep n (m / 2) (i / 2))) + 0 := by omega
        have := and2 (x := 2 ^ n - (m / 2 - dep n (m / 2) (i / 2))) (y := m / 2) (b := 0) (c := m % 2) (by omega) (by omega)
        rw [← e2, ← e, ih, q] at this
        rw [this, show (i + 1) / 2 = i / 2 + 1 by omega, show (i + 1) % 2 = 0 by omega]
        rfl
    · rw [show m % 2 = 0 by omega, Nat.zero_add] at hi
      have hd1 : dep (n + 1) m i = 2 * dep n (m / 2) i := by
        show (if m % 2 = 1 then _ else _) = _
        rw [if_neg q]
      have hd2 : dep (n + 1) m (i + 1) = 2 * dep n (m / 2) (i + 1) := by
        show (if m % 2 = 1 then _ else _) = _
        rw [if_neg q]
      have hle := sub2_le (dep_sub n (m / 2) i)
      have ih := nxt_and n (m / 2) i (by omega) hi
      rw [hd1, hd2, Nat.pow_succ]
      have e : 2 ^ n * 2 - (m - 2 * dep n (m / 2) i) = 2 * (2 ^ n - (m / 2 - dep n (m / 2) i)) + 0 := by omega
      have := and2 (x := 2 ^ n - (m / 2 - dep n (m / 2) i)) (y := m / 2) (b := 0) (c := m % 2) (by omega) (by omega)
      rw [← e2, ← e, ih, show m % 2 = 0 by omega] at this
      rw [this]
      rfl
/-- a loop over all numbers that does something at some alone is one over these -/
theorem it_enum {α : Type} {F : Nat → α → α} {s0 : α} {y : Nat → Nat} {K T : Nat} {C : Nat → Prop} {g : Nat → α → α} (hg1 : ∀ x s, C x → g x s = F x s) (hg2 : ∀ x s, ¬ C x → g x s = s) (hmono : ∀ i j, i < j → j < K → y i < y j) (hle : ∀ i, i < K → y i ≤ T) (hC : ∀ x, x ≤ T → (C x ↔ ∃ i, i < K ∧ x = y i)) : it g s0 (T + 1) = it (fun i => F (y i)) s0 K := by
  have key : ∀ x, x ≤ T + 1 → ∃ i, i ≤ K ∧ it g s0 x = it (fun i => F (y i)) s0 i ∧ ∀ j, j < K → (y j < x ↔ j < i) := by
    intro x
    induction x with
    | zero => exact fun _ => ⟨0, Nat.zero_le _, rfl, fun j _ => by omega⟩
    | succ x ih =>
      intro hx
      obtain ⟨i, i1, i2, i3⟩ := ih (by omega)
      by_cases q : C x
      · obtain ⟨j, j1, j2⟩ := (hC x (by omega)).mp q
        have hji : j = i := by
          have h1 := i3 j j1
          by_cases z : i < j
          · have h2 := hmono i j z j1
            have h3 := i3 i (by omega)
            omega
          · omega
        subst hji
        refine ⟨j + 1, by omega, ?_, fun a ha => ?_⟩
        · show g x (it g s0 x) = F (y j) (it (fun i => F (y i)) s0 j)
          rw [hg1 x _ q, i2, j2]
        · by_cases z : a < j
          · have := hmono a j z j1
            omega
          · by_cases z2 : j < a
            · have := hmono j a z2 ha
              omega
            · have : a = j := by omega
              subst this
              omega
      · refine ⟨i, i1, ?_, fun a ha => ?_⟩
        · show g x (it g s0 x) = _
          rw [hg2 x _ q, i2]
        · have h1 := i3 a ha
          have : y a ≠ x := fun z => q ((hC x (by omega)).mpr ⟨a, ha, z.symm⟩)
          omega
  obtain ⟨i, i1, i2, i3⟩ := key (T + 1) (Nat.le_refl _)
  have : i = K := by
    by_cases q : i < K
    · have := (i3 i q).mp (by have := hle i q; omega)
      omega
    · omega
  rw [i2, this]
/-- over all sets of a set -/
theorem it_subs {α : Type} {F : Nat → α → α} {s0 : α} {m : Nat} {g : Nat → α → α} (hm : m < 4096) (hg1 : ∀ x s, sub2 x m → g x s = F x s) (hg2 : ∀ x s, ¬ sub2 x m → g x s = s) : it g s0 (m + 1) = it (fun i => F (dep 12 m i)) s0 (2 ^ pop 12 m) :=
  it_enum (C := fun x => sub2 x m) hg1 hg2 (fun i j h hj => dep_lt 12 m i j h hj) (fun i hi => sub2_le (dep_sub 12 m i)) (fun x _ => ⟨fun hx => by
    obtain ⟨i, i1, i2⟩ := dep_ex 12 m x hm hx
    exact ⟨i, i1, i2.symm⟩, fun ⟨i, _, e⟩ => by rw [e]; exact dep_sub 12 m i⟩)
/-- the machine's next set -/
theorem pop_le : ∀ (n m : Nat), pop n m ≤ n
  | 0, _ => Nat.le_refl _
  | n + 1, m => by
    show m % 2 + pop n (m / 2) ≤ n + 1
    have := pop_le n (m / 2)
    omega
theorem dep_w : ∀ (n m i : Nat), m < 2 ^ n → dep (n + 1) m i = dep n m i
  | 0, m, i, hm => by
    have h0 : m = 0 := by simpa using hm
    subst h0
    rfl
  | n + 1, m, i, hm => by
    rw [Nat.pow_succ] at hm
    show (if m % 2 = 1 then 2 * dep (n + 1) (m / 2) (i / 2) + i % 2 else 2 * dep (n + 1) (m / 2) i) = (if m % 2 = 1 then 2 * dep n (m / 2) (i / 2) + i % 2 else 2 * dep n (m / 2) i)
    rw [dep_w n _ _ (by omega), dep_w n _ _ (by omega)]
theorem pop_w : ∀ (n m : Nat), m < 2 ^ n → pop (n + 1) m = pop n m
  | 0, m, hm => by
    have h0 : m = 0 := by simpa using hm
    subst h0
    rfl
  | n + 1, m, hm => by
    rw [Nat.pow_succ] at hm
    show m % 2 + pop (n + 1) (m / 2) = m % 2 + pop n (m / 2)
    rw [pop_w n _ (by omega)]
theorem dep_32 {m i : Nat} (hm : m < 2 ^ 12) : ∀ k, dep (12 + k) m i = dep 12 m i ∧ pop (12 + k) m = pop 12 m
  | 0 => ⟨rfl, rfl⟩
  | k + 1 => by
    have hp : 2 ^ 12 ≤ 2 ^ (12 + k) := Nat.pow_le_pow_right (by omega) (by omega)
    obtain ⟨h1, h2⟩ := dep_32 (i := i) hm k
    exact ⟨by rw [show 12 + (k + 1) = (12 + k) + 1 by omega, dep_w _ _ _ (by omega), h1], by rw [show 12 + (k + 1) = (12 + k) + 1 by omega, pop_w _ _ (by omega), h2]⟩
theorem iAnd_neg {t m : Nat} (ht : 1 ≤ t ∧ t ≤ 4096) (hm : m < 4096) : iAnd (-(t : Int)) (m : Int) = (((2 ^ 32 - t) &&& m : Nat) : Int) := by
  have e1 : (Int32.ofInt (-(t : Int))).toBitVec = BitVec.ofNat 32 (2 ^ 32 - t) := by
    apply BitVec.eq_of_toNat_eq
    show (BitVec.ofInt 32 (-(t : Int))).toNat = _
    rw [BitVec.toNat_ofInt, BitVec.toNat_ofNat]
    omega
  have e2 : (Int32.ofInt (m : Int)).toBitVec = BitVec.ofNat 32 m := by
    apply BitVec.eq_of_toNat_eq
    show (BitVec.ofInt 32 (m : Int)).toNat = _
    rw [BitVec.toNat_ofInt, BitVec.toNat_ofNat]
    omega
  have hl : (2 ^ 32 - t) &&& m < 4096 := Nat.lt_of_le_of_lt Nat.and_le_right hm
  unfold iAnd
  show (Int32.ofInt (-(t : Int)) &&& Int32.ofInt (m : Int)).toBitVec.toInt = _
  rw [Int32.toBitVec_and, e1, e2]
  have e3 : (BitVec.ofNat 32 (2 ^ 32 - t) &&& BitVec.ofNat 32 m).toNat = (2 ^ 32 - t) &&& m := by
    rw [BitVec.toNat_and, BitVec.toNat_ofNat, BitVec.toNat_ofNat, Nat.mod_eq_of_lt (by omega), Nat.mod_eq_of_lt (by omega)]
  rw [BitVec.toInt_eq_toNat_of_lt (by rw [e3]; omega), e3]
/-- the machine's step from one set to the next -/
def sv (m i : Nat) : Nat := if i < 2 ^ pop 12 m then dep 12 m i else 0
theorem sv_nx {m i : Nat} (hm : m < 4096) (hi : i < 2 ^ pop 12 m) : iAnd ((sv m i : Int) - m) m = (sv m (i + 1) : Int) := by
  unfold sv
  rw [if_pos hi]
  have hle := sub2_le (dep_sub 12 m i)
  by_cases q : i + 1 < 2 ^ pop 12 m
  · rw [if_pos q]
    have h1 := dep_lt 12 m i (i + 1) (by omega) q
    have h2 := sub2_le (dep_sub 12 m (i + 1))
    obtain ⟨a1, a2⟩ := dep_32 (m := m) (i := i) hm 20
    obtain ⟨b1, -⟩ := dep_32 (m := m) (i := i + 1) hm 20
    have h3 := nxt_and 32 m i (Nat.lt_of_lt_of_le hm (by decide)) (by rw [show (32 : Nat) = 12 + 20 from rfl, a2]; exact q)
    rw [show (32 : Nat) = 12 + 20 from rfl, a1, b1] at h3
    rw [← h3, show (dep 12 m i : Int) - m = -((m - dep 12 m i : Nat) : Int) by omega, iAnd_neg (by omega) hm]
  · rw [if_neg q]
    have h1 := dep_top 12 m hm
    rw [show 2 ^ pop 12 m - 1 = i by omega] at h1
    rw [h1, Int.sub_self]
    have := iAnd_nat (a := 0) (b := m) (by omega) (by omega)
    rw [Nat.zero_and] at this
    exact this
theorem sv_0 {m : Nat} : sv m 0 = 0 := by
  unfold sv
  rw [if_pos (Nat.pow_pos (by omega)), dep_0]
theorem sv_lt {m i : Nat} (hm : m < 4096) : sv m i < 4096 := by
  unfold sv
  split
  · have := sub2_le (dep_sub 12 m i)
    omega
  · omega
