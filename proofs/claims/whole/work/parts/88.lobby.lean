/-! the fewest who must be won -/
def lbT (V W : Int → Int) (w j : Int) (p : Nat) : Int := (if j = w then V p else 0) - (if W p = j then V p else 0)
def wlS (b V W : Int → Int) (np : Nat) (w : Int) (S : Nat) (j : Int) : Int := b j + sm (fun p => if S.testBit p = true then lbT V W w j p else 0) np
def wlW (b V W : Int → Int) (np : Nat) (w : Int) (S : Nat) : Int := chS (wlS b V W np w S 0) (wlS b V W np w S 1) (wlS b V W np w S 2)
/-- one more set -/
def lbF (win : Nat → Bool) (x : Nat) (s : Int) : Int := if (s < 0 ∨ pop 12 x < pop 12 s.toNat) ∧ win x = true then (x : Int) else s
/-- the best of some sets -/
def lbC (win : Nat → Bool) (D : Nat → Prop) (s : Int) : Prop := (s = -1 ∧ ∀ x, D x → ¬ win x = true) ∨ (∃ b : Nat, s = b ∧ D b ∧ win b = true ∧ ∀ x, D x → win x = true → pop 12 b < pop 12 x ∨ (pop 12 b = pop 12 x ∧ b ≤ x))
theorem lbC_s {win : Nat → Bool} {D D' : Nat → Prop} {s : Int} {x : Nat} (h : lbC win D s) (hlt : ∀ y, D y → y < x) (hD : ∀ y, D' y ↔ (D y ∨ y = x)) : lbC win D' (lbF win x s) := by
  unfold lbF
  rcases h with ⟨h1, h2⟩ | ⟨b, h1, h2, h3, h4⟩
  · by_cases q : win x = true
    · rw [if_pos ⟨Or.inl (by omega), q⟩]
      refine Or.inr ⟨x, rfl, (hD x).mpr (Or.inr rfl), q, fun y hy hw => ?_⟩
      rcases (hD y).mp hy with z | z
      · exact absurd hw (h2 y z)
      · rw [z]; exact Or.inr ⟨rfl, Nat.le_refl _⟩
    · rw [if_neg (fun z => q z.2)]
      refine Or.inl ⟨h1, fun y hy => ?_⟩
      rcases (hD y).mp hy with z | z
      · exact h2 y z
      · rw [z]; exact q
  · have hs : s.toNat = b := by rw [h1]; exact Int.toNat_natCast b
    rw [hs]
    by_cases q : win x = true ∧ pop 12 x < pop 12 b
    · rw [if_pos ⟨Or.inr q.2, q.1⟩]
      refine Or.inr ⟨x, rfl, (hD x).mpr (Or.inr rfl), q.1, fun y hy hw => ?_⟩
      rcases (hD y).mp hy with z | z
      · have := h4 y z hw
        omega
      · rw [z]; exact Or.inr ⟨rfl, Nat.le_refl _⟩
    · rw [if_neg (fun z => q ⟨z.2, by omega⟩)]
      refine Or.inr ⟨b, h1, (hD b).mpr (Or.inl h2), h3, fun y hy hw => ?_⟩
      rcases (hD y).mp hy with z | z
      · exact h4 y z hw
      · subst z
        have := hlt b h2
        have hn : ¬ pop 12 y < pop 12 b := fun z => q ⟨hw, z⟩
        omega
theorem lbC_b {win : Nat → Bool} {D : Nat → Prop} {s : Int} (h : lbC win D s) (hD : ∀ y, D y → y < 4096) : -1 ≤ s ∧ s < 4096 := by
  rcases h with ⟨h1, h2⟩ | ⟨b, h1, h2, h3, h4⟩
  · omega
  · have := hD b h2
    omega
/-- those who needn't be won don't matter -/
theorem lbC_same {win : Nat → Bool} {D D' : Nat → Prop} {s s' : Int} (h : lbC win D s) (h' : lbC win D' s') (hsub : ∀ y, D' y → D y) (hred : ∀ y, D y → win y = true → ∃ z, D' z ∧ win z = true ∧ (pop 12 z < pop 12 y ∨ z = y)) : s = s' := by
  rcases h with ⟨h1, h2⟩ | ⟨b, h1, h2, h3, h4⟩
  · rcases h' with ⟨g1, g2⟩ | ⟨b', g1, g2, g3, g4⟩
    · omega
    · exact absurd g3 (h2 b' (hsub b' g2))
  · obtain ⟨z, z1, z2, z3⟩ := hred b h2 h3
    rcases h' with ⟨g1, g2⟩ | ⟨b', g1, g2, g3, g4⟩
    · exact absurd z2 (g2 z z1)
    · have a1 := g4 z z1 z2
      have a2 := h4 b' (hsub b' g2) g3
      have a3 := h4 z (hsub z z1) z2
      have : b = b' := by
        rcases z3 with z3 | z3
        · omega
        · subst z3
          omega
      omega
theorem pop_and {x o : Nat} : ∀ n : Nat, pop n (x &&& o) ≤ pop n x ∧ (pop n (x &&& o) = pop n x → x < 2 ^ n → x &&& o = x) := by
  intro n
  induction n generalizing x o with
  | zero => exact ⟨Nat.le_refl _, fun _ hx => by
      have h0 : x = 0 := by simpa using hx
      rw [h0, Nat.zero_and]⟩
  | succ n ih =>
    obtain ⟨i1, i2⟩ := ih (x := x / 2) (o := o / 2)
    have e := and2 (x := x / 2) (y := o / 2) (b := x % 2) (c := o % 2) (by omega) (by omega)
    rw [show 2 * (x / 2) + x % 2 = x by omega, show 2 * (o / 2) + o % 2 = o by omega] at e
    have hb : x % 2 &&& o % 2 ≤ x % 2 := Nat.and_le_left
    have e1 : (x &&& o) % 2 = x % 2 &&& o % 2 := by rw [e]; omega
    have e2 : (x &&& o) / 2 = x / 2 &&& o / 2 := by rw [e]; omega
    show (x &&& o) % 2 + pop n ((x &&& o) / 2) ≤ x % 2 + pop n (x / 2) ∧ ((x &&& o) % 2 + pop n ((x &&& o) / 2) = x % 2 + pop n (x / 2) → _)
    rw [e1, e2]
    refine ⟨by omega, fun h hx => ?_⟩
    rw [Nat.pow_succ] at hx
    have h2 := i2 (by omega) (by omega)
    rw [e, h2]
    omega
theorem wlS_red {b V W : Int → Int} {np : Nat} {w : Int} {x o : Nat} {j : Int} (h : ∀ p : Nat, p < np → x.testBit p = true → o.testBit p = false → W p = w ∨ V p = 0) : wlS b V W np w (x &&& o) j = wlS b V W np w x j := by
  unfold wlS
  congr 1
  refine sm_congr (fun p hp => ?_)
  rw [Nat.testBit_and]
  cases hx : x.testBit p
  · rfl
  · cases ho : o.testBit p
    · rw [if_neg (by simp), if_pos rfl]
      unfold lbT
      rcases h p hp hx ho with z | z
      · rw [z]
        by_cases y : j = w
        · rw [if_pos y, if_pos y.symm, Int.sub_self]
        · rw [if_neg y, if_neg (fun e => y e.symm), Int.sub_self]
      · rw [z]
        split <;> split <;> rfl
    · rfl
/-- the other's way of counting -/
theorem wlS_mod {V W : Int → Int} {w j : Int} {a S R : Nat} (hS : sub2 S a) (hR : ∀ i, R.testBit i = (a.testBit i && !S.testBit i)) : ∀ n : Nat, poS R.testBit V W n j + (if j = w then pwV V n S else 0) = poS a.testBit V W n j + sm (fun p => if S.testBit p = true then lbT V W w j p else 0) n
  | 0 => by
    show 0 + (if j = w then (0 : Int) else 0) = 0 + 0
    split <;> rfl
  | n + 1 => by
    have ih := wlS_mod (V := V) (W := W) (w := w) (j := j) hS hR n
    show (poS R.testBit V W n j + (if R.testBit n = true ∧ W n = j then V n else 0)) + (if j = w then pwV V n S + (if S.testBit n then V n else 0) else 0) = (poS a.testBit V W n j + (if a.testBit n = true ∧ W n = j then V n else 0)) + (sm _ n + (if S.testBit n = true then lbT V W w j n else 0))
    rw [hR n]
    have hsn := hS n
    unfold lbT at ih ⊢
    cases hs : S.testBit n
    · cases ha : a.testBit n
      · simp
        by_cases y : j = w
        · rw [if_pos y] at ih ⊢; omega
        · rw [if_neg y] at ih ⊢; omega
      · simp
        by_cases y : j = w
        · rw [if_pos y] at ih ⊢; omega
        · rw [if_neg y] at ih ⊢; omega
    · rw [hsn hs]
      simp
      by_cases y : j = w
      · rw [if_pos y] at ih ⊢
        rw [if_pos y]
        omega
      · rw [if_neg y] at ih ⊢
        rw [if_neg y]
        omega
theorem wlS_b {b V W : Int → Int} {np : Nat} {w j : Int} {S : Nat} (hV : ∀ p : Nat, 0 ≤ V p ∧ V p ≤ 99) (h12 : np ≤ 12) (hb : 0 ≤ b j ∧ b j ≤ 1200) : -4000 ≤ wlS b V W np w S j ∧ wlS b V W np w S j ≤ 4000 := by
  have := sm_abs (g := fun p : Nat => if S.testBit p = true then lbT V W w j p else 0) (B := 99) (by omega) (fun p => by
    have := hV p
    unfold lbT
    split
    · split <;> split <;> omega
    · omega) np
  unfold wlS
  omega
