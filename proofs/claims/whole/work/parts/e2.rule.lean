/-! a rule's text: places, fits, meaning, whether it looks at n -/
section RU1
variable {N m d p b : Nat} {σ : Int → Int} {v : (Int → Int) → Int} {u : Bool}
abbrev RV : Type := Nat × Bool × ((Int → Int) → Int) × Bool
abbrev dgt (c : Int) : Prop := 48 ≤ c ∧ c ≤ 57
def nuL (σ : Int → Int) (p : Nat) : Nat := if dgt (σ (p + 1)) then (if dgt (σ (p + 2)) then 3 else 2) else 1
def nuV (σ : Int → Int) (p : Nat) : Int := if dgt (σ (p + 1)) then (if dgt (σ (p + 2)) then 100 * (σ p - 48) + 10 * (σ (p + 1) - 48) + (σ (p + 2) - 48) else 10 * (σ p - 48) + (σ (p + 1) - 48)) else σ p - 48
def rpn (x : RV) : RV := (x.1, x.2.1, fun th => w32 (-(x.2.2.1 th)), x.2.2.2)
def rpc (σ : Int → Int) (x : RV) : RV := if x.2.1 then (if σ x.1 = 41 then (x.1 + 1, true, x.2.2) else (x.1, false, x.2.2)) else x
/-- an operand behind a sign -/
def rpo (c : Int) (v : (Int → Int) → Int) (x : RV) : RV := (x.1, x.2.1, (fun th => w32 (rk c (v th) (x.2.2.1 th))), x.2.2.2)
def rp (σ : Int → Int) : Nat → Nat → Nat → Nat → ((Int → Int) → Int) → Bool → RV
  | 0, _, _, p, v, u => (p, false, v, u)
  | N + 1, m, d, p, v, u =>
    if m = 3 then
      (if σ p = 45 then rpn (rp σ N 3 d (p + 1) v u)
      else if dgt (σ p) then (p + nuL σ p, true, fun _ => nuV σ p, u)
      else if 0 ≤ amI 0 (σ p) then (p + 1, true, fun th => th (amI 0 (σ p)), u || decide (σ p = 110))
      else if σ p = 40 ∧ d < 4 then rpc σ (rp σ N 0 (d + 1) (p + 1) v u)
      else (p, false, v, u))
    else if m < 3 then
      (if (rp σ N (m + 1) d p v u).2.1 then rp σ N (m + 4) d (rp σ N (m + 1) d p v u).1 (rp σ N (m + 1) d p v u).2.2.1 (rp σ N (m + 1) d p v u).2.2.2 else rp σ N (m + 1) d p v u)
    else if 0 ≤ amI (m - 3) (σ p) then
      (if (rp σ N (m - 3) d (p + 1) v u).2.1 ∧ m ≠ 4 then rp σ N m d (rp σ N (m - 3) d (p + 1) v u).1 (rpo (σ p) v (rp σ N (m - 3) d (p + 1) v u)).2.2.1 (rp σ N (m - 3) d (p + 1) v u).2.2.2 else rpo (σ p) v (rp σ N (m - 3) d (p + 1) v u))
    else (p, true, v, u)
theorem stE0 : stN 0 = 6 ∧ stC 0 0 = 114 ∧ stC 0 1 = 99 ∧ stC 0 2 = 107 ∧ stC 0 3 = 100 ∧ stC 0 4 = 112 ∧ stC 0 5 = 110 := by decide +kernel
theorem stE123 : (stN 1 = 3 ∧ stC 1 0 = 60 ∧ stC 1 1 = 62 ∧ stC 1 2 = 61) ∧ (stN 2 = 2 ∧ stC 2 0 = 43 ∧ stC 2 1 = 45) ∧ (stN 3 = 2 ∧ stC 3 0 = 42 ∧ stC 3 1 = 47) := by decide +kernel
theorem amI_0 {c : Int} : amI 0 c = if c = 114 then 0 else if c = 99 then 1 else if c = 107 then 2 else if c = 100 then 3 else if c = 112 then 4 else if c = 110 then 5 else -1 := by
  obtain ⟨e, e0, e1, e2, e3, e4, e5⟩ := stE0
  unfold amI
  rw [e]
  unfold amgG amgG amgG amgG amgG amgG amgG
  rw [e0, e1, e2, e3, e4, e5]
  repeat' split
  all_goals omega
theorem amI_1 {c : Int} : amI 1 c = if c = 60 then 0 else if c = 62 then 1 else if c = 61 then 2 else -1 := by
  obtain ⟨⟨e, e0, e1, e2⟩, -, -⟩ := stE123
  unfold amI
  rw [e]
  unfold amgG amgG amgG amgG
  rw [e0, e1, e2]
  repeat' split
  all_goals omega
theorem amI_2 {c : Int} : amI 2 c = if c = 43 then 0 else if c = 45 then 1 else -1 := by
  obtain ⟨-, ⟨e, e0, e1⟩, -⟩ := stE123
  unfold amI
  rw [e]
  unfold amgG amgG amgG
  rw [e0, e1]
  repeat' split
  all_goals omega
theorem amI_3 {c : Int} : amI 3 c = if c = 42 then 0 else if c = 47 then 1 else -1 := by
  obtain ⟨-, -, ⟨e, e0, e1⟩⟩ := stE123
  unfold amI
  rw [e]
  unfold amgG amgG amgG
  rw [e0, e1]
  repeat' split
  all_goals omega
theorem am_no : ∀ i : Nat, i < 6 → amI i (-1) = -1 := by decide +kernel
/-- the worth of a place, in steps -/
abbrev rpM (m p : Nat) : Nat := 6 * (41 - p) + (if m ≤ 3 then 4 - m else 6)
theorem nuL_b (hσn : ∀ p : Nat, b ≤ p → σ p = -1) (hp : dgt (σ p)) : 1 ≤ nuL σ p ∧ p + nuL σ p ≤ b ∧ nuL σ p ≤ 3 := by
  have f : ∀ j : Nat, σ ((p : Int) + j) ≠ -1 → p + j < b := fun j hj => by
    by_cases z : p + j < b
    · exact z
    · exact absurd (hσn (p + j) (by omega)) (by rw [show ((p + j : Nat) : Int) = (p : Int) + j by omega]; exact hj)
  have f0 : p < b := by have := f 0 (by rw [show (p : Int) + ((0 : Nat) : Int) = p by omega]; unfold dgt at hp; omega); omega
  have f1 : σ ((p : Int) + 1) ≠ -1 → p + 1 < b := f 1
  have f2 : σ ((p : Int) + 2) ≠ -1 → p + 2 < b := f 2
  unfold nuL
  split
  · rename_i q
    have := f1 (by unfold dgt at q; omega)
    split
    · rename_i q2
      have := f2 (by unfold dgt at q2; omega)
      omega
    · omega
  · omega
theorem nuV_b (hp : dgt (σ p)) : 0 ≤ nuV σ p ∧ nuV σ p ≤ 999 := by
  unfold nuV dgt at *
  split
  · split <;> omega
  · omega
theorem rp_b (hσn : ∀ p : Nat, b ≤ p → σ p = -1) (hb : b ≤ 40) : ∀ (N m d p : Nat) (v : (Int → Int) → Int) (u : Bool), m ≤ 6 → p ≤ b → rpM m p ≤ N → p ≤ (rp σ N m d p v u).1 ∧ (rp σ N m d p v u).1 ≤ b ∧ ((rp σ N m d p v u).2.1 = true → m ≤ 3 → p + 1 ≤ (rp σ N m d p v u).1)
  | 0, m, d, p, v, u, hm, hp, hN => by exfalso; unfold rpM at hN; split at hN <;> omega
  | N + 1, m, d, p, v, u, hm, hp, hN => by
    have lt : σ p ≠ -1 → p < b := fun q => by
      by_cases z : p < b
      · exact z
      · exact absurd (hσn p (by omega)) q
    unfold rpM at hN
    unfold rp
    by_cases q3 : m = 3
    · subst q3
      rw [if_pos (by omega)] at hN
      rw [if_pos rfl]
      by_cases c1 : σ p = 45
      · rw [if_pos c1]
        have := lt (by omega)
        obtain ⟨a1, a2, a3⟩ := rp_b hσn hb N 3 d (p + 1) v u (by omega) (by omega) (by unfold rpM; rw [if_pos (by omega)]; omega)
        refine ⟨?_, a2, fun w _ => ?_⟩
        · show p ≤ (rp σ N 3 d (p + 1) v u).1; omega
        · show p + 1 ≤ (rp σ N 3 d (p + 1) v u).1; omega
      · rw [if_neg c1]
        by_cases c2 : dgt (σ p)
        · rw [if_pos c2]
          have := nuL_b hσn c2
          exact ⟨by show p ≤ p + nuL σ p; omega, this.2.1, fun _ _ => by show p + 1 ≤ p + nuL σ p; omega⟩
        · rw [if_neg c2]
          by_cases c3 : 0 ≤ amI 0 (σ p)
          · rw [if_pos c3]
            have := lt (fun w => by rw [w, am_no 0 (by omega)] at c3; omega)
            exact ⟨by show p ≤ p + 1; omega, this, fun _ _ => Nat.le_refl _⟩
          · rw [if_neg c3]
            by_cases c4 : σ p = 40 ∧ d < 4
            · rw [if_pos c4]
              have := lt (by omega)
              obtain ⟨a1, a2, a3⟩ := rp_b hσn hb N 0 (d + 1) (p + 1) v u (by omega) (by omega) (by unfold rpM; rw [if_pos (by omega)]; omega)
              generalize rp σ N 0 (d + 1) (p + 1) v u = x at *
              unfold rpc
              split
              · split
                · rename_i w1 w2
                  have : x.1 < b := by
                    by_cases z : x.1 < b
                    · exact z
                    · have := hσn x.1 (by omega); omega
                  exact ⟨by show p ≤ x.1 + 1; omega, this, fun _ _ => by show p + 1 ≤ x.1 + 1; omega⟩
                · exact ⟨by show p ≤ x.1; omega, a2, fun w => by cases w⟩
              · exact ⟨by omega, a2, fun w _ => by omega⟩
            · rw [if_neg c4]
              exact ⟨Nat.le_refl _, hp, fun w => by cases w⟩
    · rw [if_neg q3]
      by_cases q4 : m < 3
      · rw [if_pos (by omega)] at hN
        rw [if_pos q4]
        obtain ⟨a1, a2, a3⟩ := rp_b hσn hb N (m + 1) d p v u (by omega) hp (by unfold rpM; rw [if_pos (by omega)]; omega)
        generalize rp σ N (m + 1) d p v u = x at *
        split
        · rename_i w
          have a3 := a3 w (by omega)
          obtain ⟨e1, e2, e3⟩ := rp_b hσn hb N (m + 4) d x.1 x.2.2.1 x.2.2.2 (by omega) a2 (by unfold rpM; rw [if_neg (by omega)]; omega)
          exact ⟨by omega, e2, fun _ _ => by omega⟩
        · rename_i w
          exact ⟨a1, a2, fun z => absurd z w⟩
      · rw [if_neg (by omega)] at hN
        rw [if_neg q4]
        by_cases c1 : 0 ≤ amI (m - 3) (σ p)
        · rw [if_pos c1]
          have := lt (fun w => by rw [w, am_no (m - 3) (by omega)] at c1; omega)
          obtain ⟨a1, a2, a3⟩ := rp_b hσn hb N (m - 3) d (p + 1) v u (by omega) (by omega) (by unfold rpM; rw [if_pos (by omega)]; omega)
          generalize rp σ N (m - 3) d (p + 1) v u = x at *
          split
          · rename_i w
            have a3 := a3 w.1 (by omega)
            obtain ⟨e1, e2, e3⟩ := rp_b hσn hb N m d x.1 (rpo (σ p) v x).2.2.1 x.2.2.2 (by omega) a2 (by unfold rpM; rw [if_neg (by omega)]; omega)
            exact ⟨by omega, e2, fun _ z => by omega⟩
          · exact ⟨by show p ≤ x.1; omega, a2, fun _ z => by omega⟩
        · rw [if_neg c1]
          exact ⟨Nat.le_refl _, hp, fun _ z => by omega⟩
abbrev thR (th : Int → Int) : Prop := ∀ j : Int, r32 (th j)
/-- the meaning is a number; it does not look at n where the sign n was not read -/
def gd (v : (Int → Int) → Int) (u : Bool) : Prop := (∀ th, thR th → r32 (v th)) ∧ (u = false → ∀ th th' : Int → Int, (∀ j : Int, 0 ≤ j → j < 5 → th j = th' j) → v th = v th') ∧ ∀ th th' : Int → Int, (∀ j : Int, 0 ≤ j → j < 6 → th j = th' j) → v th = v th'
theorem rp_v : ∀ (N m d p : Nat) (v : (Int → Int) → Int) (u : Bool), m ≤ 6 → gd v u → gd (rp σ N m d p v u).2.2.1 (rp σ N m d p v u).2.2.2 ∧ ((rp σ N m d p v u).2.2.2 = false → u = false)
  | 0, m, d, p, v, u, hm, hv => ⟨hv, id⟩
  | N + 1, m, d, p, v, u, hm, hv => by
    unfold rp
    by_cases q3 : m = 3
    · subst q3
      rw [if_pos rfl]
      by_cases c1 : σ p = 45
      · rw [if_pos c1]
        obtain ⟨a1, a2⟩ := rp_v N 3 d (p + 1) v u (by omega) hv
        generalize rp σ N 3 d (p + 1) v u = x at *
        exact ⟨⟨fun th _ => w32_r _, fun z th th' w => by show w32 (-(x.2.2.1 th)) = w32 (-(x.2.2.1 th')); rw [a1.2.1 z th th' w], fun th th' w => by show w32 (-(x.2.2.1 th)) = w32 (-(x.2.2.1 th')); rw [a1.2.2 th th' w]⟩, a2⟩
      · rw [if_neg c1]
        by_cases c2 : dgt (σ p)
        · rw [if_pos c2]
          have := nuV_b c2
          exact ⟨⟨fun th _ => by show r32 (nuV σ p); omega, fun _ th th' _ => rfl, fun th th' _ => rfl⟩, id⟩
        · rw [if_neg c2]
          by_cases c3 : 0 ≤ amI 0 (σ p)
          · rw [if_pos c3]
            have e := amI_0 (c := σ p)
            refine ⟨⟨fun th z => z _, fun w th th' z => ?_, fun th th' z => ?_⟩, fun w => (Bool.or_eq_false_iff.mp w).1⟩
            · have w := of_decide_eq_false (Bool.or_eq_false_iff.mp w).2
              refine z _ c3 ?_
              rw [e]
              repeat' split
              all_goals omega
            · refine z _ c3 ?_
              rw [e]
              repeat' split
              all_goals omega
          · rw [if_neg c3]
            by_cases c4 : σ p = 40 ∧ d < 4
            · rw [if_pos c4]
              have a := rp_v N 0 (d + 1) (p + 1) v u (by omega) hv
              generalize rp σ N 0 (d + 1) (p + 1) v u = x at *
              unfold rpc
              split
              · split
                · exact a
                · exact a
              · exact a
            · rw [if_neg c4]
              exact ⟨hv, id⟩
    · rw [if_neg q3]
      by_cases q4 : m < 3
      · rw [if_pos q4]
        obtain ⟨a1, a2⟩ := rp_v N (m + 1) d p v u (by omega) hv
        generalize rp σ N (m + 1) d p v u = x at *
        split
        · obtain ⟨g1, g2⟩ := rp_v N (m + 4) d x.1 x.2.2.1 x.2.2.2 (by omega) a1
          exact ⟨g1, fun w => a2 (g2 w)⟩
        · exact ⟨a1, a2⟩
      · rw [if_neg q4]
        by_cases c1 : 0 ≤ amI (m - 3) (σ p)
        · rw [if_pos c1]
          obtain ⟨a1, a2⟩ := rp_v N (m - 3) d (p + 1) v u (by omega) hv
          generalize rp σ N (m - 3) d (p + 1) v u = x at *
          have o : gd (rpo (σ p) v x).2.2.1 x.2.2.2 := ⟨fun th _ => w32_r _, fun z th th' w => by show w32 (rk (σ p) (v th) (x.2.2.1 th)) = w32 (rk (σ p) (v th') (x.2.2.1 th')); rw [a1.2.1 z th th' w, hv.2.1 (a2 z) th th' w], fun th th' w => by show w32 (rk (σ p) (v th) (x.2.2.1 th)) = w32 (rk (σ p) (v th') (x.2.2.1 th')); rw [a1.2.2 th th' w, hv.2.2 th th' w]⟩
          split
          · obtain ⟨g1, g2⟩ := rp_v N m d x.1 (rpo (σ p) v x).2.2.1 x.2.2.2 hm o
            exact ⟨g1, fun w => a2 (g2 w)⟩
          · exact ⟨o, a2⟩
        · rw [if_neg c1]
          exact ⟨hv, id⟩
/-! what rows of codes do -/
theorem it_shift {α : Type} {F : Nat → α → α} : ∀ (n m : Nat) (s : α), it F s (m + n) = it (fun i => F (m + i)) (it F s m) n
  | 0, m, s => rfl
  | n + 1, m, s => by
    show F (m + n) (it F s (m + n)) = F (m + n) (it (fun i => F (m + i)) (it F s m) n)
    rw [it_shift n m s]
/-- the class's codes from l on, k of them, put v upon the stack -/
def SgC (C : Int → Int) (l k : Nat) (v : (Int → Int) → Int) : Prop := (∀ i : Nat, i < k → -1000 ≤ C ((l + i : Nat) : Int) ∧ C ((l + i : Nat) : Int) < 1006) ∧ ∀ (th : Int → Int) (s : (Int → Int) × Int), thR th → 0 ≤ s.2 → s.2 + k ≤ 40 → (it (fun i => vbR C th (l + i)) s k).2 = s.2 + 1 ∧ (it (fun i => vbR C th (l + i)) s k).1 s.2 = v th ∧ ∀ j : Int, j < s.2 → (it (fun i => vbR C th (l + i)) s k).1 j = s.1 j
theorem vbR_cg {C C' : Int → Int} {th : Int → Int} {l : Nat} (h : C' (l : Int) = C (l : Int)) (s : (Int → Int) × Int) : vbR C' th l s = vbR C th l s := by unfold vbR; rw [h]
theorem it_cg {α : Type} {F G : Nat → α → α} {s : α} : ∀ {n : Nat}, (∀ i, i < n → ∀ x, F i x = G i x) → it F s n = it G s n
  | 0, _ => rfl
  | n + 1, h => by
    show F n (it F s n) = G n (it G s n)
    rw [it_cg (fun i hi => h i (by omega)), h n (by omega)]
theorem SgC_cg {C C' : Int → Int} {l k : Nat} (h : SgC C l k v) (e : ∀ i : Nat, i < k → C' ((l + i : Nat) : Int) = C ((l + i : Nat) : Int)) : SgC C' l k v := by
  refine ⟨fun i hi => by rw [e i hi]; exact h.1 i hi, fun th s a b c => ?_⟩
  rw [it_cg (F := fun i => vbR C' th (l + i)) (G := fun i => vbR C th (l + i)) (fun i hi x => vbR_cg (e i hi) x)]
  exact h.2 th s a b c
theorem SgC_v {C : Int → Int} {l k : Nat} {w : (Int → Int) → Int} (h : SgC C l k v) (e : ∀ th, thR th → v th = w th) : SgC C l k w := ⟨h.1, fun th s a b c => by
  obtain ⟨x1, x2, x3⟩ := h.2 th s a b c
  exact ⟨x1, by rw [x2]; exact e th a, x3⟩⟩
theorem SgC_push {C : Int → Int} {l : Nat} {c : Int} (hc : C (l : Int) = c) (h0 : 0 ≤ c) (h1 : c < 1006) : SgC C l 1 (fun th => if c < 1000 then c else th (c - 1000)) := by
  refine ⟨fun i hi => ?_, fun th s _ s0 s1 => ?_⟩
  · rw [show l + i = l by omega, hc]; omega
  · have e : it (fun i => vbR C th (l + i)) s 1 = (fup s.1 s.2 (if c < 1000 then c else th (c - 1000)), s.2 + 1) := by
      show vbR C th (l + 0) s = _
      unfold vbR
      rw [Nat.add_zero, hc, if_pos (by omega)]
    rw [e]
    exact ⟨rfl, fup_s, fun j hj => fup_n (by omega)⟩
theorem SgC_neg {C : Int → Int} {l k : Nat} (h : SgC C l k v) (hc : C ((l + k : Nat) : Int) = -1) : SgC C l (k + 1) (fun th => w32 (-(v th))) := by
  refine ⟨fun i hi => ?_, fun th s hr s0 s1 => ?_⟩
  · by_cases z : i = k
    · rw [z, hc]; omega
    · exact h.1 i (by omega)
  · obtain ⟨x1, x2, x3⟩ := h.2 th s hr s0 (by omega)
    have e : it (fun i => vbR C th (l + i)) s (k + 1) = vbR C th (l + k) (it (fun i => vbR C th (l + i)) s k) := rfl
    rw [e]
    generalize it (fun i => vbR C th (l + i)) s k = y at *
    have e2 : vbR C th (l + k) y = (fup y.1 (y.2 - 1) (w32 (-(y.1 (y.2 - 1)))), y.2) := by
      unfold vbR
      rw [hc, if_neg (by omega), if_pos (by omega)]
    rw [e2, x1, show s.2 + 1 - 1 = s.2 by omega, x2]
    exact ⟨rfl, fup_s, fun j hj => by rw [← x3 j hj]; exact fup_n (by omega)⟩
theorem SgC_op {C : Int → Int} {l k1 k2 : Nat} {v2 : (Int → Int) → Int} {c : Int} (h : SgC C l k1 v) (h2 : SgC C (l + k1) k2 v2) (hc : C ((l + (k1 + k2) : Nat) : Int) = -c) (hcb : 2 ≤ c ∧ c ≤ 100) : SgC C l (k1 + k2 + 1) (fun th => w32 (rk c (v th) (v2 th))) := by
  refine ⟨fun i hi => ?_, fun th s hr s0 s1 => ?_⟩
  · by_cases z : i = k1 + k2
    · rw [z, hc]; omega
    · by_cases z2 : i < k1
      · exact h.1 i z2
      · have := h2.1 (i - k1) (by omega)
        rw [show l + k1 + (i - k1) = l + i by omega] at this
        exact this
  · obtain ⟨x1, x2, x3⟩ := h.2 th s hr s0 (by omega)
    have e : it (fun i => vbR C th (l + i)) s (k1 + k2 + 1) = vbR C th (l + (k1 + k2)) (it (fun i => vbR C th (l + i)) s (k1 + k2)) := rfl
    have e1 : it (fun i => vbR C th (l + i)) s (k1 + k2) = it (fun i => vbR C th (l + k1 + i)) (it (fun i => vbR C th (l + i)) s k1) k2 := by
      rw [it_shift k2 k1 s]
      exact it_cg (fun i _ x => by rw [Nat.add_assoc])
    rw [e, e1]
    obtain ⟨y1, y2, y3⟩ := h2.2 th (it (fun i => vbR C th (l + i)) s k1) hr (by omega) (by omega)
    generalize it (fun i => vbR C th (l + i)) s k1 = x at *
    generalize it (fun i => vbR C th (l + k1 + i)) x k2 = y at *
    have e2 : vbR C th (l + (k1 + k2)) y = (fup y.1 (y.2 + -1 - 1) (w32 (rk c (y.1 (y.2 + -1 - 1)) (y.1 (y.2 + -1)))), y.2 + -1) := by
      unfold vbR
      rw [hc, if_neg (by omega), if_neg (by omega), if_pos (by omega), Int.neg_neg]
    have i1 : y.2 + -1 - 1 = s.2 := by omega
    have i2 : y.2 + -1 = x.2 := by omega
    rw [e2, i1, i2, y2, y3 s.2 (by omega), x2]
    exact ⟨x1, fup_s, fun j hj => by rw [← x3 j hj, ← y3 j (by omega)]; exact fup_n (by omega)⟩
/-- the reference's codes -/
def SgM (C : Int → Int) (l k : Nat) (v : (Int → Int) → Int) : Prop := (∀ i : Nat, i < k → 0 ≤ C ((l + i : Nat) : Int) ∧ (C ((l + i : Nat) : Int) < 1006 ∨ (2000 ≤ C ((l + i : Nat) : Int) ∧ C ((l + i : Nat) : Int) ≤ 2006) ∨ C ((l + i : Nat) : Int) = 3000)) ∧ ∀ (th : Int → Int) (s : (Int → Int) × Int), 0 ≤ s.2 → s.2 + k ≤ 80 → (it (fun i => mrR C th (l + i)) s k).2 = s.2 + 1 ∧ (thR th → (it (fun i => mrR C th (l + i)) s k).1 s.2 = v th) ∧ (∀ j : Int, j < s.2 → (it (fun i => mrR C th (l + i)) s k).1 j = s.1 j) ∧ ∀ i : Nat, i < k → s.2 ≤ (it (fun i => mrR C th (l + i)) s i).2 ∧ (C ((l + i : Nat) : Int) = 3000 → s.2 + 1 ≤ (it (fun i => mrR C th (l + i)) s i).2) ∧ (2000 ≤ C ((l + i : Nat) : Int) → C ((l + i : Nat) : Int) < 3000 → s.2 + 2 ≤ (it (fun i => mrR C th (l + i)) s i).2)
theorem mrR_cg {C C' : Int → Int} {th : Int → Int} {l : Nat} (h : C' (l : Int) = C (l : Int)) (s : (Int → Int) × Int) : mrR C' th l s = mrR C th l s := by unfold mrR; rw [h]
theorem SgM_cg {C C' : Int → Int} {l k : Nat} (h : SgM C l k v) (e : ∀ i : Nat, i < k → C' ((l + i : Nat) : Int) = C ((l + i : Nat) : Int)) : SgM C' l k v := by
  refine ⟨fun i hi => by rw [e i hi]; exact h.1 i hi, fun th s a b => ?_⟩
  have g : ∀ n, n ≤ k → it (fun i => mrR C' th (l + i)) s n = it (fun i => mrR C th (l + i)) s n := fun n hn => it_cg (fun i hi x => mrR_cg (e i (by omega)) x)
  rw [g k (Nat.le_refl k)]
  obtain ⟨x1, x2, x3, x4⟩ := h.2 th s a b
  exact ⟨x1, x2, x3, fun i hi => by rw [g i (by omega), e i hi]; exact x4 i hi⟩
theorem SgM_push {C : Int → Int} {l : Nat} {c : Int} (hc : C (l : Int) = c) (h0 : 0 ≤ c) (h1 : c < 1006) : SgM C l 1 (fun th => if c < 1000 then c else th (c - 1000)) := by
  refine ⟨fun i hi => ?_, fun th s s0 s1 => ?_⟩
  · rw [show l + i = l by omega, hc]; omega
  · have e : it (fun i => mrR C th (l + i)) s 1 = (fup s.1 s.2 (if c < 1000 then c else th (c - 1000)), s.2 + 1) := by
      show mrR C th (l + 0) s = _
      unfold mrR
      rw [Nat.add_zero, hc, if_neg (by omega), if_neg (by omega)]
    rw [e]
    refine ⟨rfl, fun _ => fup_s, fun j hj => fup_n (by omega), fun i hi => ?_⟩
    obtain rfl : i = 0 := by omega
    rw [Nat.add_zero, hc]
    show s.2 ≤ s.2 ∧ _ ∧ _
    exact ⟨by omega, fun w => by omega, fun w => by omega⟩
theorem SgM_neg {C : Int → Int} {l k : Nat} (h : SgM C l k v) (hc : C ((l + k : Nat) : Int) = 3000) : SgM C l (k + 1) (fun th => w32 (-(v th))) := by
  refine ⟨fun i hi => ?_, fun th s s0 s1 => ?_⟩
  · by_cases z : i = k
    · rw [z, hc]; omega
    · exact h.1 i (by omega)
  · obtain ⟨x1, x2, x3, x4⟩ := h.2 th s s0 (by omega)
    have e : it (fun i => mrR C th (l + i)) s (k + 1) = mrR C th (l + k) (it (fun i => mrR C th (l + i)) s k) := rfl
    rw [e]
    refine ⟨?_, ?_, ?_, fun i hi => ?_⟩
    · generalize it (fun i => mrR C th (l + i)) s k = y at *
      unfold mrR
      rw [if_pos hc]
      exact x1
    · intro hr
      have x2 := x2 hr
      generalize it (fun i => mrR C th (l + i)) s k = y at *
      unfold mrR
      rw [if_pos hc, x1, show s.2 + 1 - 1 = s.2 by omega, x2]
      exact fup_s
    · intro j hj
      rw [← x3 j hj]
      generalize it (fun i => mrR C th (l + i)) s k = y at *
      unfold mrR
      rw [if_pos hc, x1, show s.2 + 1 - 1 = s.2 by omega]
      exact fup_n (by omega)
    · by_cases z : i = k
      · rw [z, x1]; exact ⟨by omega, fun _ => by omega, fun _ w => by omega⟩
      · exact x4 i (by omega)
theorem SgM_op {C : Int → Int} {l k1 k2 : Nat} {v2 : (Int → Int) → Int} {c : Int} (h : SgM C l k1 v) (h2 : SgM C (l + k1) k2 v2) (hc : C ((l + (k1 + k2) : Nat) : Int) = 2000 + c) (hcb : 0 ≤ c ∧ c ≤ 6) : SgM C l (k1 + k2 + 1) (fun th => w32 (wkS c (v th) (v2 th))) := by
  refine ⟨fun i hi => ?_, fun th s s0 s1 => ?_⟩
  · by_cases z : i = k1 + k2
    · rw [z, hc]; omega
    · by_cases z2 : i < k1
      · exact h.1 i z2
      · have := h2.1 (i - k1) (by omega)
        rw [show l + k1 + (i - k1) = l + i by omega] at this
        exact this
  · obtain ⟨x1, x2, x3, x4⟩ := h.2 th s s0 (by omega)
    have e : it (fun i => mrR C th (l + i)) s (k1 + k2 + 1) = mrR C th (l + (k1 + k2)) (it (fun i => mrR C th (l + i)) s (k1 + k2)) := rfl
    have e1 : ∀ n, it (fun i => mrR C th (l + i)) s (k1 + n) = it (fun i => mrR C th (l + k1 + i)) (it (fun i => mrR C th (l + i)) s k1) n := fun n => by
      rw [it_shift n k1 s]
      exact it_cg (fun i _ x => by rw [Nat.add_assoc])
    obtain ⟨y1, y2, y3, y4⟩ := h2.2 th (it (fun i => mrR C th (l + i)) s k1) (by omega) (by omega)
    have e5 : ∀ y : (Int → Int) × Int, mrR C th (l + (k1 + k2)) y = (fup y.1 (y.2 + -1 - 1) (w32 (wkS c (y.1 (y.2 + -1 - 1)) (y.1 (y.2 + -1)))), y.2 + -1) := fun y => by
      unfold mrR
      rw [hc, if_neg (by omega), if_pos (by omega), show 2000 + c - 2000 = c by omega]
    rw [e, e5]
    refine ⟨?_, fun hr => ?_, fun j hj => ?_, fun i hi => ?_⟩
    · show (it (fun i => mrR C th (l + i)) s (k1 + k2)).2 + -1 = _
      rw [e1 k2]; omega
    · have x2 := x2 hr
      have y2 := y2 hr
      rw [e1 k2]
      generalize it (fun i => mrR C th (l + i)) s k1 = x at *
      generalize it (fun i => mrR C th (l + k1 + i)) x k2 = y at *
      have i1 : y.2 + -1 - 1 = s.2 := by omega
      have i2 : y.2 + -1 = x.2 := by omega
      show fup y.1 (y.2 + -1 - 1) (w32 (wkS c (y.1 (y.2 + -1 - 1)) (y.1 (y.2 + -1)))) s.2 = _
      rw [i1, i2, y2, y3 s.2 (by omega), x2]
      exact fup_s
    · rw [e1 k2]
      have y3 := y3 j (by omega)
      rw [← x3 j hj, ← y3]
      generalize it (fun i => mrR C th (l + i)) s k1 = x at *
      generalize it (fun i => mrR C th (l + k1 + i)) x k2 = y at *
      exact fup_n (by omega)
    · by_cases z2 : i < k1
      · exact x4 i z2
      · by_cases z : i = k1 + k2
        · rw [z, e1 k2, y1, x1]
          exact ⟨by omega, fun w => by omega, fun _ _ => by omega⟩
        · have y4 := y4 (i - k1) (by omega)
          rw [show i = k1 + (i - k1) by omega, e1 (i - k1), show l + (k1 + (i - k1)) = l + k1 + (i - k1) by omega]
          exact ⟨by omega, fun w => by have := y4.2.1 w; omega, fun w1 w2 => by have := y4.2.2 w1 w2; omega⟩
theorem mr_top {C th : Int → Int} {s : (Int → Int) × Int} {l : Nat} : ∀ n : Nat, (it (fun i => mrR C th (l + i)) s n).2 ≤ s.2 + n
  | 0 => by show s.2 ≤ s.2 + ((0 : Nat) : Int); omega
  | n + 1 => by
    have ih := mr_top (C := C) (th := th) (s := s) (l := l) n
    show (mrR C th (l + n) (it (fun i => mrR C th (l + i)) s n)).2 ≤ _
    generalize it (fun i => mrR C th (l + i)) s n = y at *
    unfold mrR
    split
    · show y.2 ≤ _; omega
    · split
      · show y.2 + -1 ≤ _; omega
      · show y.2 + 1 ≤ _; omega
theorem SgM_v {C : Int → Int} {l k : Nat} {w : (Int → Int) → Int} (h : SgM C l k v) (e : ∀ th, thR th → v th = w th) : SgM C l k w := ⟨h.1, fun th s b c => by
  obtain ⟨x1, x2, x3, x4⟩ := h.2 th s b c
  exact ⟨x1, fun a => by rw [x2 a]; exact e th a, x3, x4⟩⟩
/-- the meaning as both are asked for it -/
def smV (v : (Int → Int) → Int) : Sem := fun a b c d e f => v (fun j => if j = 0 then a else if j = 1 then b else if j = 2 then c else if j = 3 then d else if j = 4 then e else if j = 5 then f else 0)
theorem smV_e {th : Int → Int} (hv : gd v u) : v th = smV v (th 0) (th 1) (th 2) (th 3) (th 4) (th 5) := by
  refine hv.2.2 _ _ (fun j j0 j1 => ?_)
  have : j = 0 ∨ j = 1 ∨ j = 2 ∨ j = 3 ∨ j = 4 ∨ j = 5 := by omega
  rcases this with rfl | rfl | rfl | rfl | rfl | rfl <;> rfl
theorem smV_n (hv : gd v u) (hu : u = false) : noN (smV v) := fun a b c d e x y => by
  refine hv.2.1 hu _ _ (fun j j0 j1 => ?_)
  have : j = 0 ∨ j = 1 ∨ j = 2 ∨ j = 3 ∨ j = 4 := by omega
  rcases this with rfl | rfl | rfl | rfl | rfl <;> rfl
end RU1
