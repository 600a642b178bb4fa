/-! what runs do, on the other's row f of a train; X: the rule's meaning, exits, minutes, distances, wishes, ranks, how many passengers, coaches -/
abbrev Cx : Type := Sem × (Int → Int) × (Int → Int) × (Int → Int) × (Int → Int) × (Int → Int) × Nat × Nat
abbrev xS (X : Cx) : Sem := X.1
abbrev xE (X : Cx) : Int → Int := X.2.1
abbrev xM (X : Cx) : Int → Int := X.2.2.1
abbrev xF (X : Cx) : Int → Int := X.2.2.2.1
abbrev xW (X : Cx) : Int → Int := X.2.2.2.2.1
abbrev xR (X : Cx) : Int → Int := X.2.2.2.2.2.1
abbrev xP (X : Cx) : Nat := X.2.2.2.2.2.2.1
abbrev xC (X : Cx) : Nat := X.2.2.2.2.2.2.2
def cxM (sem : Sem) (h : Nat → Int → Int) (np nc : Nat) : Cx := (sem, h 149, h 150, h 151, h 152, h 153, np, nc)
def xV (X : Cx) (f : Int → Int) (p : Int) : Int := vtS (xS X) (xR X) (xW X) (nds (xF X)) (mS f) (mP f) (mA f) (f 0) (f 1) (xP X) p
def xWi (X : Cx) (f : Int → Int) (p : Int) : Int := wiS (xE X) (xM X) (nds (xF X)) (xW X) (mS f) (mP f) (mA f) (f 0) p
def xVote (X : Cx) (f : Int → Int) (P : Nat → Bool) : Int := chS (poS P (xV X f) (xWi X f) (xP X) 0) (poS P (xV X f) (xWi X f) (xP X) 1) (poS P (xV X f) (xWi X f) (xP X) 2)
def xAl (X : Cx) (f : Int → Int) (len : Nat) (c : Int) : Nat := algS (fun i => decide (xVote X f (fun p => decide (mS f p = caS f i (xC X))) = c)) len 0
def xRun (X : Cx) (f : Int → Int) (len : Nat) (c : Int) : Int → Int := if c ≠ 2 ∧ 0 ≤ xE X (2 * f 0 + c) then moF (xW X) (fup (fup (mlF f (xAl X f len c) (xC X)) 1 (f 1 + xM X (2 * f 0 + c))) 0 (xE X (2 * f 0 + c))) (xP X) else fup f 1 (f 1 + 1)
theorem mvS_x {sem : Sem} {h : Nat → Int → Int} {r np nc : Nat} {P : Nat → Bool} : mvS sem h r np P = xVote (cxM sem h np nc) (h r) P := rfl
theorem mgA_x {sem : Sem} {h : Nat → Int → Int} {r np nc len : Nat} {c : Int} : mgA sem h r np nc len c = xAl (cxM sem h np nc) (h r) len c := rfl
/-- a row of a train that is one: order ord of len coaches, H halts -/
def fOK (X : Cx) (H : Nat) (f : Int → Int) (ord : Int → Int) (len : Nat) : Prop :=
  (0 ≤ f 0 ∧ f 0 < H) ∧ 0 ≤ f 1 ∧ (len ≤ xC X) ∧
  (∀ j : Nat, j < len → 0 ≤ ord j ∧ ord j < xC X ∧ mP f (ord j) = j) ∧
  (∀ c : Nat, c < xC X → (mP f c = -1 ∧ 0 ≤ mA f c ∧ mA f c < H) ∨ (0 ≤ mP f c ∧ mP f c < len ∧ ord (mP f c) = c)) ∧
  (∀ p : Nat, p < xP X → mS f p = -1 ∨ (0 ≤ mS f p ∧ mS f p < xC X ∧ halS (f 0) (mP f) (mA f) (mS f p) ≠ xW X p))
/-- what a context must be -/
def xOK (X : Cx) (H : Nat) : Prop := 1 ≤ H ∧ H ≤ 9 ∧ xP X ≤ 12 ∧ xC X ≤ 6 ∧ exB (xE X) ∧ miB (xM X) ∧ farB (xF X) ∧ (∀ e : Nat, e < 2 * H → xE X e < H) ∧ (∀ p : Nat, p < xP X → 0 ≤ xW X p ∧ xW X p < H)
theorem fOK_pl {X : Cx} {H : Nat} {f ord : Int → Int} {len : Nat} (hf : fOK X H f ord len) {c : Int} (h0 : 0 ≤ c) (h1 : c < xC X) : (mP f c = -1 ∧ 0 ≤ mA f c ∧ mA f c < H) ∨ (0 ≤ mP f c ∧ mP f c < len ∧ ord (mP f c) = c) := by
  have := hf.2.2.2.2.1 c.toNat (by omega)
  rw [show ((c.toNat : Nat) : Int) = c by omega] at this
  exact this
theorem fOK_hal {X : Cx} {H : Nat} {f ord : Int → Int} {len : Nat} (hf : fOK X H f ord len) {c : Int} (h0 : 0 ≤ c) (h1 : c < xC X) : 0 ≤ halS (f 0) (mP f) (mA f) c ∧ halS (f 0) (mP f) (mA f) c < H := by
  have := fOK_pl hf h0 h1
  have h2 := hf.1
  unfold halS
  split <;> omega
theorem caS_eq {f : Int → Int} {i : Int} {c : Nat} : ∀ {n : Nat}, c < n → mP f c = i → (∀ c' : Nat, c' < n → mP f c' = i → c' = c) → caS f i n = c
  | n + 1, hc, h1, h2 => by
    unfold caS
    by_cases hn : mP f n = i
    · rw [if_pos hn]
      have := h2 n (by omega) hn
      omega
    · rw [if_neg hn]
      exact caS_eq (by by_cases q : c = n; (· subst q; exact absurd h1 hn); (· omega)) h1 (fun c' hc' e => h2 c' (by omega) e)
theorem fOK_ca {X : Cx} {H : Nat} {f ord : Int → Int} {len : Nat} (hf : fOK X H f ord len) {i : Nat} (hi : i < len) : caS f i (xC X) = ord i := by
  obtain ⟨-, -, -, ho, hp, -⟩ := hf
  have h1 := ho i hi
  have e : caS f i (xC X) = ((ord i).toNat : Nat) := by
    refine caS_eq (c := (ord i).toNat) (by omega) (by rw [show (((ord i).toNat : Nat) : Int) = ord i by omega]; exact h1.2.2) (fun c' hc' e' => ?_)
    have h2 := hp c' hc'
    rw [e'] at h2
    omega
  rw [e]
  omega
/-- one point in a sum -/
theorem sm_pt {g : Nat → Int} {c0 : Nat} : ∀ {n : Nat}, c0 < n → (∀ c, c < n → g c = if c = c0 then 1 else 0) → sm g n = 1
  | n + 1, h0, h => by
    show sm g n + g n = 1
    by_cases hn : c0 = n
    · have e : sm g n = sm (fun _ => 0) n := sm_congr (fun p hp => by rw [h p (by omega), if_neg (by omega)])
      have z : ∀ m : Nat, sm (fun _ => 0) m = 0 := by
        intro m
        induction m with
        | zero => rfl
        | succ m ih => show sm _ m + 0 = 0; rw [ih]; rfl
      rw [e, z, h n (by omega), if_pos hn.symm]
      rfl
    · rw [sm_pt (c0 := c0) (by omega) (fun c hc => h c (by omega)), h n (by omega), if_neg (fun e => hn e.symm)]
      rfl
theorem sm_add {g g' : Nat → Int} : ∀ {n : Nat}, sm (fun p => g p + g' p) n = sm g n + sm g' n
  | 0 => rfl
  | n + 1 => by
    show sm (fun p => g p + g' p) n + (g n + g' n) = sm g n + g n + (sm g' n + g' n)
    rw [sm_add]
    omega
theorem sm_zero : ∀ {n : Nat}, sm (fun _ => 0) n = 0
  | 0 => rfl
  | n + 1 => by
    show sm _ n + 0 = 0
    rw [sm_zero]
    rfl
theorem fOK_len {X : Cx} {H : Nat} {f ord : Int → Int} {len : Nat} (hf : fOK X H f ord len) : sm (fun c => if 0 ≤ mP f c then 1 else 0) (xC X) = len := by
  obtain ⟨-, -, -, ho, hp, -⟩ := hf
  have key : ∀ L : Nat, L ≤ len → sm (fun c : Nat => if 0 ≤ mP f c ∧ mP f c < L then 1 else 0) (xC X) = L := by
    intro L
    induction L with
    | zero =>
      intro _
      rw [sm_congr (g' := fun _ => 0) (fun p _ => by rw [if_neg (by omega)]), sm_zero]
      rfl
    | succ L ih =>
      intro hL
      have e : sm (fun c : Nat => if 0 ≤ mP f c ∧ mP f c < ((L + 1 : Nat) : Int) then 1 else 0) (xC X) = sm (fun c : Nat => (if 0 ≤ mP f c ∧ mP f c < L then 1 else 0) + (if mP f c = L then 1 else 0)) (xC X) := sm_congr (fun c _ => by
        by_cases q : mP f c = L
        · rw [if_pos (by omega), if_neg (by omega), if_pos q]; rfl
        · by_cases q2 : 0 ≤ mP f c ∧ mP f c < L
          · rw [if_pos (by omega), if_pos q2, if_neg q]; rfl
          · rw [if_neg (by omega), if_neg q2, if_neg q]; rfl)
      rw [e, sm_add, ih (by omega)]
      have h1 := ho L (by omega)
      rw [sm_pt (c0 := (ord L).toNat) (by omega) (fun c hc => ?_)]
      · rfl
      · by_cases q : c = (ord L).toNat
        · rw [if_pos q, q, show (((ord L).toNat : Nat) : Int) = ord L by omega, if_pos h1.2.2]
        · have h2 := hp c hc
          rw [if_neg q, if_neg (fun z => by rw [z] at h2; omega)]
  rw [← key len (by omega)]
  refine sm_congr (fun c hc => ?_)
  have h2 := hp c hc
  by_cases q : 0 ≤ mP f c
  · rw [if_pos q, if_pos (by omega)]
  · rw [if_neg q, if_neg (by omega)]
