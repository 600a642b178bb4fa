/-! the shortest round over all goals, the first of the shortest ones -/
def spF (D : Nat → Nat → Int) (M i : Nat) (q : Nat → Int × List Int) (y : Nat → Int) (g : Nat) (s : Int × List Int) : Int × List Int := if M.testBit g = true ∧ D i g + (q g).1 < s.1 then (D i g + (q g).1, y g :: (q g).2) else s
def sp (D : Nat → Nat → Int) (E : Nat → Int) (y : Nat → Int) (G : Nat) : Nat → Nat → Nat → Int × List Int
  | 0, _, i => (E i, [])
  | n + 1, M, i => it (spF D M i (fun g => sp D E y G n (oth M g) g) y) (100000, []) G
section SPP
variable {D : Nat → Nat → Int} {E : Nat → Int} {y : Nat → Int} {G : Nat}
theorem sp_b (hD : ∀ i g, i ≤ G → g < G → (0 ≤ D i g ∧ D i g < 1000) ∨ D i g = 100000) (hE : ∀ i, i ≤ G → (0 ≤ E i ∧ E i < 1000) ∨ E i = 100000) : ∀ (n M i : Nat), n ≤ 12 → i ≤ G → (0 ≤ (sp D E y G n M i).1 ∧ (sp D E y G n M i).1 < 1000 * (n + 1) ∧ (sp D E y G n M i).2.length = n) ∨ (sp D E y G n M i).1 = 100000
  | 0, M, i, _, hi => by
    have := hE i hi
    show (0 ≤ E i ∧ E i < 1000 * (((0 : Nat) : Int) + 1) ∧ 0 = 0) ∨ E i = 100000
    omega
  | n + 1, M, i, hn, hi => by
    have ih := sp_b hD hE n
    have key := it_inv (F := spF D M i (fun g => sp D E y G n (oth M g) g) y) (x := (100000, [])) (n := G) (fun _ s => (0 ≤ s.1 ∧ s.1 < 1000 * (((n + 1 : Nat) : Int) + 1) ∧ s.2.length = n + 1) ∨ s.1 = 100000) (Or.inr rfl) (fun g s hg hs => by
      have hq := ih (oth M g) g (by omega) (by omega)
      have hd := hD i g hi hg
      by_cases z : M.testBit g = true ∧ D i g + (sp D E y G n (oth M g) g).1 < s.1
      · have e : spF D M i (fun g => sp D E y G n (oth M g) g) y g s = (D i g + (sp D E y G n (oth M g) g).1, y g :: (sp D E y G n (oth M g) g).2) := if_pos z
        rw [e]
        have z2 := z.2
        rcases hq with u | u
        · rcases hd with w | w
          · exact Or.inl ⟨by dsimp only; omega, by dsimp only; omega, by simp; omega⟩
          · omega
        · omega
      · have e : spF D M i (fun g => sp D E y G n (oth M g) g) y g s = s := if_neg z
        rw [e]; exact hs) G (Nat.le_refl G)
    exact key
/-- what the loop over the goals has found so far -/
def spI (D : Nat → Nat → Int) (M i : Nat) (q : Nat → Int × List Int) (y : Nat → Int) (m : Nat) (s : Int × List Int) : Prop := (s = (100000, []) ∨ ∃ g, g < m ∧ M.testBit g = true ∧ s = (D i g + (q g).1, y g :: (q g).2) ∧ ∀ g', g' < g → M.testBit g' = true → s.1 < D i g' + (q g').1) ∧ s.1 ≤ 100000 ∧ ∀ g', g' < m → M.testBit g' = true → s.1 ≤ D i g' + (q g').1
theorem sp_I {M i : Nat} {q : Nat → Int × List Int} : ∀ m : Nat, spI D M i q y m (it (spF D M i q y) (100000, []) m)
  | 0 => ⟨Or.inl rfl, Int.le_refl _, fun g' hg _ => by omega⟩
  | m + 1 => by
    have ih := sp_I (M := M) (i := i) (q := q) m
    show spI D M i q y (m + 1) (spF D M i q y m (it (spF D M i q y) (100000, []) m))
    generalize it (spF D M i q y) (100000, []) m = s at ih ⊢
    obtain ⟨i1, i2, i3⟩ := ih
    unfold spF
    by_cases z : M.testBit m = true ∧ D i m + (q m).1 < s.1
    · rw [if_pos z]
      refine ⟨Or.inr ⟨m, by omega, z.1, rfl, fun g' hg hb => ?_⟩, by dsimp only; omega, fun g' hg hb => ?_⟩
      · have := i3 g' hg hb
        dsimp only; omega
      · by_cases w : g' = m
        · rw [w]; exact Int.le_refl _
        · have := i3 g' (by omega) hb
          dsimp only; omega
    · rw [if_neg z]
      refine ⟨?_, i2, fun g' hg hb => ?_⟩
      · rcases i1 with u | ⟨g, g1, g2, g3, g4⟩
        · exact Or.inl u
        · exact Or.inr ⟨g, by omega, g2, g3, g4⟩
      · by_cases w : g' = m
        · subst w
          have : ¬ D i g' + (q g').1 < s.1 := fun u => z ⟨hb, u⟩
          omega
        · exact i3 g' (by omega) hb
theorem sp_s {n M i : Nat} : sp D E y G (n + 1) M i = it (spF D M i (fun g => sp D E y G n (oth M g) g) y) (100000, []) G := rfl
end SPP
/-- the goals' numbers: halts where coaches stand -/
def cG (st : Nat → Bool) : Nat → Nat
  | 0 => 0
  | n + 1 => cG st n + (if st n then 1 else 0)
def ptR (st : Nat → Bool) (p0 : Int → Int) : Nat → Int → Int := it (fun c f => if st c then fup f (cG st c) c else f) p0
theorem cG_mono {st : Nat → Bool} {a : Nat} : ∀ {b : Nat}, a ≤ b → cG st a ≤ cG st b
  | 0, h => by obtain rfl : a = 0 := by omega
               exact Nat.le_refl _
  | b + 1, h => by
    by_cases q : a = b + 1
    · rw [q]; exact Nat.le_refl _
    · have := cG_mono (st := st) (a := a) (b := b) (by omega)
      show _ ≤ cG st b + _
      omega
theorem cG_t {st : Nat → Bool} {c b : Nat} (hc : st c = true) (h : c < b) : cG st c + 1 ≤ cG st b := by
  have := cG_mono (st := st) (show c + 1 ≤ b from h)
  have e : cG st (c + 1) = cG st c + 1 := by
    show cG st c + (if st c then 1 else 0) = _
    rw [hc]; rfl
  omega
theorem ptR_p {st : Nat → Bool} {p0 : Int → Int} : ∀ n : Nat, ∀ g, g < cG st n → ∃ c : Nat, c < n ∧ st c = true ∧ cG st c = g ∧ ptR st p0 n g = (c : Int)
  | 0, g, h => by
    have : g < 0 := h
    omega
  | n + 1, g, h => by
    have ih := ptR_p (st := st) (p0 := p0) n
    have h : g < cG st n + (if st n then 1 else 0) := h
    show ∃ c : Nat, c < n + 1 ∧ st c = true ∧ cG st c = g ∧ (if st n then fup (ptR st p0 n) (cG st n) n else ptR st p0 n) g = (c : Int)
    cases z : st n
    · rw [z] at h
      obtain ⟨c, c1, c2, c3, c4⟩ := ih g (by simpa using h)
      exact ⟨c, by omega, c2, c3, by simpa using c4⟩
    · rw [z] at h
      simp only [if_true] at h ⊢
      by_cases w : g = cG st n
      · subst w
        exact ⟨n, by omega, z, rfl, fup_s⟩
      · obtain ⟨c, c1, c2, c3, c4⟩ := ih g (by omega)
        exact ⟨c, by omega, c2, c3, by rw [fup_n (by omega)]; exact c4⟩
theorem bset_ne {P : Nat → Bool} {n : Nat} : bset P n ≠ 0 ↔ ∃ j, j < n ∧ P j = true := by
  constructor
  · intro h
    refine Decidable.byContradiction (fun z => h ?_)
    apply Nat.eq_of_testBit_eq
    intro i
    rw [bset_bit, Nat.zero_testBit]
    cases q : P i
    · simp
    · have : ¬ i < n := fun w => z ⟨i, w, q⟩
      simp [this]
  · intro ⟨j, j1, j2⟩ h
    have : (bset P n).testBit j = true := by rw [bset_bit, j2]; simpa using j1
    rw [h, Nat.zero_testBit] at this
    cases this
/-- where coaches stand -/
def stS (f : Int → Int) (nc : Nat) (c : Nat) : Bool := decide (bset (fun j : Nat => decide (mP f j < 0 ∧ mA f j = (c : Int))) nc ≠ 0)
theorem cG_le {f : Int → Int} {N : Nat} : ∀ nc : Nat, cG (stS f nc) N ≤ nc
  | 0 => by
    have : ∀ N, cG (stS f 0) N = 0 := fun N => by
      induction N with
      | zero => rfl
      | succ N ih =>
        show cG (stS f 0) N + (if stS f 0 N then 1 else 0) = 0
        rw [ih, show stS f 0 N = false from decide_eq_false (fun z => by obtain ⟨j, j1, j2⟩ := bset_ne.mp z; omega)]
        rfl
    rw [this]
    exact Nat.le_refl _
  | n + 1 => by
    have ih := cG_le (f := f) (N := N) n
    have key : ∀ N : Nat, cG (stS f (n + 1)) N ≤ cG (stS f n) N + (if 0 ≤ mA f n ∧ mA f n < N then 1 else 0) := fun N => by
      induction N with
      | zero => exact Nat.zero_le _
      | succ N ihN =>
        show cG (stS f (n + 1)) N + (if stS f (n + 1) N then 1 else 0) ≤ cG (stS f n) N + (if stS f n N then 1 else 0) + _
        have e : stS f (n + 1) N = true → stS f n N = true ∨ mA f n = N := fun h => by
          obtain ⟨j, j1, j2⟩ := bset_ne.mp (of_decide_eq_true h)
          by_cases w : j = n
          · subst w
            exact Or.inr (of_decide_eq_true j2).2
          · exact Or.inl (decide_eq_true (bset_ne.mpr ⟨j, by omega, j2⟩))
        cases z : stS f (n + 1) N
        · simp only [Bool.false_eq_true, if_false]
          split at ihN <;> split <;> (try split) <;> omega
        · rcases e z with w | w
          · rw [w]
            simp only [if_true]
            split at ihN <;> split <;> omega
          · rw [if_neg (by omega)] at ihN
            rw [if_pos rfl, if_pos (show 0 ≤ mA f n ∧ mA f n < ((N + 1 : Nat) : Int) by omega)]
            split <;> omega
    have := key N
    split at this <;> omega
