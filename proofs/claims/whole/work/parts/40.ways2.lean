section WZ
variable {H : Nat} {ex mi : Int → Int}
theorem sm_le {g g' : Nat → Int} : ∀ {n : Nat}, (∀ p, p < n → g p ≤ g' p) → sm g n ≤ sm g' n
  | 0, _ => Int.le_refl _
  | n + 1, h => by
    show sm g n + g n ≤ sm g' n + g' n
    have := sm_le (n := n) (fun p hp => h p (by omega))
    have := h n (by omega)
    omega
theorem sm_lt {g g' : Nat → Int} {c : Nat} : ∀ {n : Nat}, c < n → g c < g' c → (∀ p, p < n → g p ≤ g' p) → sm g n < sm g' n
  | n + 1, hc, hl, h => by
    show sm g n + g n < sm g' n + g' n
    have h2 := h n (by omega)
    by_cases q : c = n
    · subst q
      have := sm_le (n := c) (fun p hp => h p (by omega))
      omega
    · have := sm_lt (n := n) (by omega) hl (fun p hp => h p (by omega))
      omega
/-- how many halts are nearer -/
def wyK (H : Nat) (D : Int → Int) (b a : Int) : Int := sm (fun c => if D (c * 9 + b) < D (a * 9 + b) then 1 else 0) H
theorem wyK_b {D : Int → Int} {a b : Int} : 0 ≤ wyK H D b a ∧ wyK H D b a ≤ H := by
  have := sm_b (g := fun c : Nat => if D (c * 9 + b) < D (a * 9 + b) then 1 else 0) (B := 1) (by omega) (fun p => by split <;> omega) H
  unfold wyK
  omega
theorem wyK_lt {D : Int → Int} {a b c : Int} (hc : 0 ≤ c ∧ c < H) (h : D (c * 9 + b) < D (a * 9 + b)) : wyK H D b c < wyK H D b a := by
  unfold wyK
  refine sm_lt (c := c.toNat) (by omega) ?_ (fun p hp => ?_)
  · rw [show ((c.toNat : Nat) : Int) = c by omega, if_neg (by omega), if_pos h]
    omega
  · by_cases q : D ((p : Int) * 9 + b) < D (c * 9 + b)
    · rw [if_pos q, if_pos (by omega)]
      omega
    · rw [if_neg q]
      split <;> omega
theorem wy_81 {D : Int → Int} (hE : exK H ex mi) (hD : wyG H ex mi D) {b : Int} (b0 : 0 ≤ b) (b1 : b < H) : ∀ (k : Nat) (a : Int), 0 ≤ a → a < H → D (a * 9 + b) < 100000 → wyK H D b a ≤ k → D (a * 9 + b) ≤ 9 * wyK H D b a
  | 0, a, a0, a1, hl, hk => by
    have h1 := wyK_b (H := H) (D := D) (a := a) (b := b)
    by_cases q : a = b
    · subst q
      rw [hD.2.1 a a0 a1]
      omega
    · obtain ⟨e, e0, e1, e2, e3, e4⟩ := hD.2.2.1 a b a0 a1 b0 b1 q hl
      have hx := hE e e0 e1
      have h3 := wyK_lt (H := H) (D := D) (a := a) (b := b) (c := ex e) (by omega) (by omega)
      have := wyK_b (H := H) (D := D) (a := ex e) (b := b)
      omega
  | k + 1, a, a0, a1, hl, hk => by
    have h1 := wyK_b (H := H) (D := D) (a := a) (b := b)
    by_cases q : a = b
    · subst q
      rw [hD.2.1 a a0 a1]
      omega
    · obtain ⟨e, e0, e1, e2, e3, e4⟩ := hD.2.2.1 a b a0 a1 b0 b1 q hl
      have hx := hE e e0 e1
      have h3 := wyK_lt (H := H) (D := D) (a := a) (b := b) (c := ex e) (by omega) (by omega)
      have := wy_81 hE hD b0 b1 k (ex e) (by omega) (by omega) (by omega) (by omega)
      have e5 := hD.2.2.2 e e0 e1 e3 b b0 b1
      rw [e2] at e5
      omega
def fP (D : Int → Int) (a b : Int) : Int := if D (a * 9 + b) < 100000 then D (a * 9 + b) else 1000000
theorem fP_81 {D : Int → Int} (hH : H ≤ 9) (hE : exK H ex mi) (hD : wyG H ex mi D) : wyA H (fun a b => (0 ≤ fP D a b ∧ fP D a b ≤ 81) ∨ fP D a b = 1000000) := fun a b a0 a1 b0 b1 => by
  dsimp only
  unfold fP
  by_cases q : D (a * 9 + b) < 100000
  · rw [if_pos q]
    have h1 := wyK_b (H := H) (D := D) (a := a) (b := b)
    have := wy_81 hE hD b0 b1 H a a0 a1 q (by omega)
    have := hD.1 (a * 9 + b) (by omega) (by omega)
    omega
  · rw [if_neg q]
    omega
theorem fP_x {D : Int → Int} (hH : H ≤ 9) (hE : exK H ex mi) (hD : wyG H ex mi D) {e b : Int} (e0 : 0 ≤ e) (e1 : e < 2 * H) (e2 : 0 ≤ ex e) (b0 : 0 ≤ b) (b1 : b < H) : fP D (e / 2) b ≤ mi e + fP D (ex e) b := by
  have hx := hE e e0 e1
  have h1 := hD.2.2.2 e e0 e1 (by omega) b b0 b1
  have h2 := fP_81 hH hE hD (ex e) b (by omega) (by omega) b0 b1
  have h3 := fP_81 hH hE hD (e / 2) b (by omega) (by omega) b0 b1
  dsimp only at h2 h3
  unfold fP at h2 h3 ⊢
  by_cases q : D (ex e * 9 + b) < 100000
  · rw [if_pos q] at h2 ⊢
    rw [if_pos (by omega)]
    exact h1
  · rw [if_neg q] at h2 ⊢
    omega
theorem ly_1 {f : Int → Int} (hH : H ≤ 9) : wyA H (fun a b => it (l1 H) f H (9 * a + b) = if a = b then 0 else 1000000) := by
  have key : ∀ n : Nat, n ≤ H → wyA H (fun a b => a < n → it (l1 H) f n (9 * a + b) = if a = b then 0 else 1000000) :=
    it_inv (fun (n : Nat) (g : Int → Int) => wyA H (fun a b => a < n → g (9 * a + b) = if a = b then 0 else 1000000)) (fun a b _ _ _ _ z => by omega) (fun n g hn hg a b a0 a1 b0 b1 z => by
      show it (l1R n) g H (9 * a + b) = _
      have k2 : ∀ m : Nat, m ≤ H → wyA H (fun a b => it (l1R n) g m (9 * a + b) = if a = n ∧ b < m then (if a = b then 0 else 1000000) else g (9 * a + b)) :=
        it_inv (fun (m : Nat) (f : Int → Int) => wyA H (fun a b => f (9 * a + b) = if a = n ∧ b < m then (if a = b then 0 else 1000000) else g (9 * a + b))) (fun a b _ _ _ _ => by dsimp only; rw [if_neg (by omega)]) (fun m f hm hf a b a0 a1 b0 b1 => by
          show l1R n m f (9 * a + b) = _
          unfold l1R
          have hfab := hf a b a0 a1 b0 b1
          dsimp only at hfab
          by_cases q : a = n ∧ b = m
          · obtain ⟨rfl, rfl⟩ := q
            rw [fup_s, if_pos (show (n : Int) = n ∧ (m : Int) < (m + 1 : Nat) by omega)]
          · rw [fup_n (by omega), hfab]
            by_cases q2 : a = n ∧ b < m
            · rw [if_pos q2, if_pos (show a = n ∧ b < (m + 1 : Nat) by omega)]
            · rw [if_neg q2, if_neg (show ¬ (a = n ∧ b < (m + 1 : Nat)) by omega)])
      have h1 := k2 H (by omega) a b a0 a1 b0 b1
      dsimp only at h1
      rw [h1]
      by_cases q : a = n
      · rw [if_pos (show a = n ∧ b < H by omega)]
      · rw [if_neg (show ¬ (a = n ∧ b < H) by omega)]
        exact hg a b a0 a1 b0 b1 (by omega))
  intro a b a0 a1 b0 b1
  exact key H (by omega) a b a0 a1 b0 b1 a1
/-- never below -/
theorem ly_lo {D f : Int → Int} (hH : H ≤ 9) (hE : exK H ex mi) (hD : wyG H ex mi D) (hf : wyA H (fun a b => fP D a b ≤ f (9 * a + b))) : ∀ k : Nat, wyA H (fun a b => fP D a b ≤ it (l2 ex mi H) f k (9 * a + b)) := fun k =>
  it_inv (n := k) (fun (_ : Nat) (g : Int → Int) => wyA H (fun a b => fP D a b ≤ g (9 * a + b))) hf (fun k g _ hg =>
    it_inv (n := 2 * H) (fun (_ : Nat) (g : Int → Int) => wyA H (fun a b => fP D a b ≤ g (9 * a + b))) hg (fun e g he hg => by
      unfold l2E
      split
      · exact hg
      · rename_i q
        refine it_inv (n := H) (fun (_ : Nat) (g : Int → Int) => wyA H (fun a b => fP D a b ≤ g (9 * a + b))) hg (fun m g hm hg a b a0 a1 b0 b1 => ?_) H (Nat.le_refl H)
        have hx := hE e (by omega) (by omega)
        have h1 := hg a b a0 a1 b0 b1
        have h2 := hg (ex e) m (by omega) (by omega) (by omega) (by omega)
        have h3 := fP_x hH hE hD (e := e) (b := m) (by omega) (by omega) (by omega) (by omega) (by omega)
        dsimp only at h1 h2 ⊢
        unfold l2B
        by_cases z : 9 * a + b = 9 * ((e : Int) / 2) + m
        · have ea : a = (e : Int) / 2 := by omega
          have eb : b = m := by omega
          rw [z, fup_s]
          rw [ea, eb] at h1 ⊢
          omega
        · rw [fup_n z]
          exact h1) (2 * H) (Nat.le_refl _)) k (Nat.le_refl k)
/-- one round -/
theorem ly_rd {f : Int → Int} : ∀ n : Nat, n ≤ 2 * H → (∀ z, it (l2E ex mi H) f n z ≤ f z) ∧ ∀ e : Nat, e < n → 0 ≤ ex e → ∀ b : Nat, b < H → it (l2E ex mi H) f n (9 * ((e : Int) / 2) + b) ≤ mi e + f (9 * ex e + b) :=
  it_inv (fun (n : Nat) (g : Int → Int) => (∀ z, g z ≤ f z) ∧ ∀ e : Nat, e < n → 0 ≤ ex e → ∀ b : Nat, b < H → g (9 * ((e : Int) / 2) + b) ≤ mi e + f (9 * ex e + b)) ⟨fun z => Int.le_refl _, fun e he => by omega⟩ (fun n g hn hg => by
    obtain ⟨g1, g2⟩ := hg
    unfold l2E
    by_cases q : ex n < 0
    · rw [if_pos q]
      refine ⟨g1, fun e he h0 b hb => g2 e ?_ h0 b hb⟩
      by_cases z : e = n
      · subst z; omega
      · omega
    · rw [if_neg q]
      have k2 : ∀ m : Nat, m ≤ H → (∀ z, it (l2B ex mi n) g m z ≤ g z) ∧ ∀ b : Nat, b < m → it (l2B ex mi n) g m (9 * ((n : Int) / 2) + b) ≤ mi n + g (9 * ex n + b) :=
        it_inv (fun (m : Nat) (g' : Int → Int) => (∀ z, g' z ≤ g z) ∧ ∀ b : Nat, b < m → g' (9 * ((n : Int) / 2) + b) ≤ mi n + g (9 * ex n + b)) ⟨fun z => Int.le_refl _, fun b hb => by omega⟩ (fun m g' hm hg' => by
          obtain ⟨k1, k2⟩ := hg'
          have kk := k1 (9 * ex n + m)
          have hle : ∀ z, l2B ex mi n m g' z ≤ g' z := fun z => by
            unfold l2B fup
            split
            · rename_i e; rw [e]; omega
            · omega
          refine ⟨fun z => Int.le_trans (hle z) (k1 z), fun b hb => ?_⟩
          by_cases z : b = m
          · subst z
            unfold l2B
            rw [fup_s]
            omega
          · exact Int.le_trans (hle _) (k2 b (by omega)))
      obtain ⟨k3, k4⟩ := k2 H (Nat.le_refl H)
      refine ⟨fun z => Int.le_trans (k3 z) (g1 z), fun e he h0 b hb => ?_⟩
      by_cases z : e = n
      · subst z
        have := k4 b hb
        have := g1 (9 * ex e + b)
        omega
      · exact Int.le_trans (k3 _) (g2 e (by omega) h0 b hb))
theorem ly_up {D f : Int → Int} (hE : exK H ex mi) (hD : wyG H ex mi D) (hf : ∀ a : Int, 0 ≤ a → a < H → f (9 * a + a) ≤ 0) : ∀ k : Nat, (∀ a : Int, 0 ≤ a → a < H → it (l2 ex mi H) f k (9 * a + a) ≤ 0) ∧ wyA H (fun a b => D (a * 9 + b) < 100000 → wyK H D b a ≤ k → it (l2 ex mi H) f k (9 * a + b) ≤ D (a * 9 + b)) := fun k =>
  it_inv (n := k) (fun (k : Nat) (g : Int → Int) => (∀ a : Int, 0 ≤ a → a < H → g (9 * a + a) ≤ 0) ∧ wyA H (fun a b => D (a * 9 + b) < 100000 → wyK H D b a ≤ k → g (9 * a + b) ≤ D (a * 9 + b))) ⟨hf, fun a b a0 a1 b0 b1 hl hk => by
      by_cases q : a = b
      · subst q
        have := hf a a0 a1
        rw [hD.2.1 a a0 a1]
        exact this
      · obtain ⟨e, e0, e1, e2, e3, e4⟩ := hD.2.2.1 a b a0 a1 b0 b1 q hl
        have hx := hE e e0 e1
        have h3 := wyK_lt (H := H) (D := D) (a := a) (b := b) (c := ex e) (by omega) (by omega)
        have := wyK_b (H := H) (D := D) (a := ex e) (b := b)
        omega⟩ (fun k g _ hg => by
    obtain ⟨g1, g2⟩ := hg
    obtain ⟨r1, r2⟩ := ly_rd (ex := ex) (mi := mi) (H := H) (f := g) (2 * H) (Nat.le_refl _)
    refine ⟨fun a a0 a1 => Int.le_trans (r1 _) (g1 a a0 a1), fun a b a0 a1 b0 b1 hl hk => ?_⟩
    show it (l2E ex mi H) g (2 * H) (9 * a + b) ≤ _
    by_cases q : a = b
    · subst q
      rw [hD.2.1 a a0 a1]
      exact Int.le_trans (r1 _) (g1 a a0 a1)
    · obtain ⟨e, e0, e1, e2, e3, e4⟩ := hD.2.2.1 a b a0 a1 b0 b1 q hl
      have hx := hE e e0 e1
      have h3 := wyK_lt (H := H) (D := D) (a := a) (b := b) (c := ex e) (by omega) (by omega)
      have h4 := g2 (ex e) b (by omega) (by omega) b0 b1 (by omega) (by omega)
      have h5 := r2 e.toNat (by omega) (by rw [show ((e.toNat : Nat) : Int) = e by omega]; omega) b.toNat (by omega)
      rw [show ((e.toNat : Nat) : Int) = e by omega, show ((b.toNat : Nat) : Int) = b by omega, e2] at h5
      omega) k (Nat.le_refl k)
theorem lAll_eq {D f : Int → Int} (hH : H ≤ 9) (hE : exK H ex mi) (hD : wyG H ex mi D) : wyA H (fun a b => lAll H ex mi f (9 * a + b) = fP D a b) := fun a b a0 a1 b0 b1 => by
  have i1 := ly_1 (f := f) hH
  have lo := ly_lo (f := it (l1 H) f H) hH hE hD (fun a b a0 a1 b0 b1 => by
    have h1 := i1 a b a0 a1 b0 b1
    dsimp only at h1 ⊢
    rw [h1]
    have h2 := fP_81 hH hE hD a b a0 a1 b0 b1
    dsimp only at h2
    by_cases q : a = b
    · subst q
      rw [if_pos rfl]
      unfold fP
      rw [hD.2.1 a a0 a1, if_pos (by omega)]
      omega
    · rw [if_neg q]
      omega) H a b a0 a1 b0 b1
  have up := (ly_up (f := it (l1 H) f H) hE hD (fun a a0 a1 => by
    have h1 := i1 a a a0 a1 a0 a1
    dsimp only at h1
    rw [h1, if_pos rfl]
    omega) H).2 a b a0 a1 b0 b1
  have b1' := wyK_b (H := H) (D := D) (a := a) (b := b)
  dsimp only at lo up ⊢
  show it (l2 ex mi H) (it (l1 H) f H) H (9 * a + b) = _
  unfold fP at lo ⊢
  by_cases q : D (a * 9 + b) < 100000
  · rw [if_pos q] at lo ⊢
    have := up q (by omega)
    omega
  · rw [if_neg q] at lo ⊢
    have m1 : it (l1 H) f H (9 * a + b) ≤ 1000000 := by
      have h1 := i1 a b a0 a1 b0 b1
      dsimp only at h1
      rw [h1]
      split <;> omega
    have m2 : ∀ k : Nat, it (l2 ex mi H) (it (l1 H) f H) k (9 * a + b) ≤ 1000000 := fun k =>
      it_inv (n := k) (fun (_ : Nat) (g : Int → Int) => g (9 * a + b) ≤ 1000000) m1 (fun k g _ hg => Int.le_trans ((ly_rd (ex := ex) (mi := mi) (H := H) (f := g) (2 * H) (Nat.le_refl _)).1 _) hg) k (Nat.le_refl k)
    have := m2 H
    omega
theorem lAll_out {f : Int → Int} {i : Int} (hH : H ≤ 9) (hi : ¬ (0 ≤ i ∧ i / 9 < H ∧ i % 9 < H)) : lAll H ex mi f i = f i := by
  have k1 : it (l1 H) f H i = f i := it_inv (n := H) (fun (_ : Nat) (g : Int → Int) => g i = f i) rfl (fun a g ha hg => it_inv (n := H) (fun (_ : Nat) (g : Int → Int) => g i = f i) hg (fun b g hb hg => by
    show l1R a b g i = _
    unfold l1R
    rw [fup_n (by omega)]
    exact hg) H (Nat.le_refl H)) H (Nat.le_refl H)
  show it (l2 ex mi H) (it (l1 H) f H) H i = f i
  refine it_inv (n := H) (fun (_ : Nat) (g : Int → Int) => g i = f i) k1 (fun k g hk hg => it_inv (n := 2 * H) (fun (_ : Nat) (g : Int → Int) => g i = f i) hg (fun e g he hg => ?_) (2 * H) (Nat.le_refl _)) H (Nat.le_refl H)
  unfold l2E
  split
  · exact hg
  · exact it_inv (n := H) (fun (_ : Nat) (g : Int → Int) => g i = f i) hg (fun b g hb hg => by
      show l2B ex mi e b g i = _
      unfold l2B
      rw [fup_n (by omega)]
      exact hg) H (Nat.le_refl H)
theorem lAll_farB {f f' : Int → Int} (hH : H ≤ 9) (hE : exK H ex mi) (hxb : exB ex) (hmb : miB mi) (hb : bnd f') (hf : farB f) : farB (lAll H ex mi f) := fun i i0 i1 => by
  by_cases q : i / 9 < H ∧ i % 9 < H
  · have hD := wAll_G (f := f') hH hE hb hxb hmb
    have h1 := lAll_eq (f := f) hH hE hD (i / 9) (i % 9) (by omega) q.1 (by omega) q.2
    have h2 := fP_81 hH hE hD (i / 9) (i % 9) (by omega) q.1 (by omega) q.2
    dsimp only at h1 h2
    rw [show 9 * (i / 9) + i % 9 = i by omega] at h1
    rw [h1]
    omega
  · rw [lAll_out hH (fun z => q z.2)]
    exact hf i i0 i1
theorem lAll_nds {f f' : Int → Int} (hH : H ≤ 9) (hE : exK H ex mi) (hxb : exB ex) (hmb : miB mi) (hb : bnd f') : wyA H (fun a b => wAll H ex mi f' (a * 9 + b) = nds (lAll H ex mi f) (a * 9 + b)) := fun a b a0 a1 b0 b1 => by
  have hD := wAll_G (f := f') hH hE hb hxb hmb
  have h1 := lAll_eq (f := f) hH hE hD a b a0 a1 b0 b1
  dsimp only at h1 ⊢
  unfold nds
  rw [show a * 9 + b = 9 * a + b by omega, h1]
  have h3 := hD.1 (9 * a + b) (by omega) (by omega)
  have h4 := fP_81 hH hE hD a b a0 a1 b0 b1
  dsimp only at h4
  unfold fP at h4 ⊢
  rw [show a * 9 + b = 9 * a + b by omega] at h4 ⊢
  by_cases q : wAll H ex mi f' (9 * a + b) < 100000
  · rw [if_pos q] at h4 ⊢
    rw [if_neg (by omega)]
  · rw [if_neg q, if_pos (by omega)]
    omega
theorem farB_bnM {f : Int → Int} (h : farB f) : bnM f := fun z z0 z1 => by
  have := h z z0 z1
  omega
end WZ
