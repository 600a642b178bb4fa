/-! both ways of finding the shortest ways find the same -/
def exK (H : Nat) (ex mi : Int → Int) : Prop := ∀ e : Int, 0 ≤ e → e < 2 * H → ex e = -1 ∨ (0 ≤ ex e ∧ ex e < H ∧ 1 ≤ mi e ∧ mi e ≤ 9)
/-- at every pair of halts -/
def wyA (H : Nat) (P : Int → Int → Prop) : Prop := ∀ a b : Int, 0 ≤ a → a < H → 0 ≤ b → b < H → P a b
section WY
variable {H : Nat} {ex mi : Int → Int}
theorem wy_sh {k n : Int} {D g : Int → Int} (hH : H ≤ 9) (hk : 0 ≤ k ∧ k < H) (hn : 0 ≤ n ∧ n < H) (h0 : D (k * 9 + k) = 0) (hg : wyA H (fun a b => g (a * 9 + b) = if a < n then min (D (a * 9 + b)) (D (a * 9 + k) + D (k * 9 + b)) else D (a * 9 + b))) (hb : bnd D) : ∀ m : Nat, m ≤ H → wyA H (fun a b => it (shR n k (D (n * 9 + k))) g m (a * 9 + b) = if a = n ∧ b < m then min (D (n * 9 + b)) (D (n * 9 + k) + D (k * 9 + b)) else g (a * 9 + b)) :=
  it_inv (fun (m : Nat) (f : Int → Int) => wyA H (fun a b => f (a * 9 + b) = if a = n ∧ b < m then min (D (n * 9 + b)) (D (n * 9 + k) + D (k * 9 + b)) else g (a * 9 + b))) (fun a b _ _ _ _ => by dsimp only; rw [if_neg (by omega)]) (fun m f hm hf a b a0 a1 b0 b1 => by
    show shR n k (D (n * 9 + k)) m f (a * 9 + b) = _
    unfold shR
    have e1 : f (n * 9 + m) = D (n * 9 + m) := by
      have := hf n m (by omega) (by omega) (by omega) (by omega)
      have h2 := hg n m (by omega) (by omega) (by omega) (by omega)
      dsimp only at this h2
      rw [if_neg (by omega)] at this h2
      rw [this, h2]
    have e2 : f (k * 9 + m) = D (k * 9 + m) := by
      have := hf k m (by omega) (by omega) (by omega) (by omega)
      have h2 := hg k m (by omega) (by omega) (by omega) (by omega)
      dsimp only at this h2
      rw [if_neg (by omega)] at this
      rw [this, h2]
      split <;> omega
    rw [e1, e2]
    by_cases q : a = n ∧ b = m
    · obtain ⟨rfl, rfl⟩ := q
      rw [fup_s, if_pos (by omega)]
    · rw [fup_n (by omega)]
      have hfab := hf a b a0 a1 b0 b1
      dsimp only at hfab
      rw [hfab]
      by_cases q2 : a = n ∧ b < m
      · rw [if_pos q2, if_pos (by omega)]
      · rw [if_neg q2, if_neg (by omega)])
theorem wy_w3 {k : Nat} {D : Int → Int} (hH : H ≤ 9) (hk : k < H) (h0 : D (k * 9 + k) = 0) (hb : bnd D) : wyA H (fun a b => w3 H k D (a * 9 + b) = min (D (a * 9 + b)) (D (a * 9 + k) + D (k * 9 + b))) := by
  have key : ∀ n : Nat, n ≤ H → wyA H (fun a b => it (w3R H k) D n (a * 9 + b) = if a < n then min (D (a * 9 + b)) (D (a * 9 + k) + D (k * 9 + b)) else D (a * 9 + b)) :=
    it_inv (fun (n : Nat) (f : Int → Int) => wyA H (fun a b => f (a * 9 + b) = if a < n then min (D (a * 9 + b)) (D (a * 9 + k) + D (k * 9 + b)) else D (a * 9 + b))) (fun a b _ _ _ _ => by dsimp only; rw [if_neg (by omega)]) (fun n f hn hf a b a0 a1 b0 b1 => by
      show w3R H k n f (a * 9 + b) = _
      unfold w3R
      have e1 : f (n * 9 + k) = D (n * 9 + k) := by
        have := hf n k (by omega) (by omega) (by omega) (by omega)
        dsimp only at this
        rw [if_neg (by omega)] at this
        exact this
      rw [e1]
      have hab := hf a b a0 a1 b0 b1
      dsimp only at hab
      by_cases q : D (n * 9 + k) < 100000
      · rw [if_pos q]
        have h1 := wy_sh (D := D) (g := f) (k := k) (n := n) hH (by omega) (by omega) h0 hf hb H (by omega) a b a0 a1 b0 b1
        dsimp only at h1
        rw [h1]
        by_cases q2 : a = n
        · subst q2
          rw [if_pos (by omega), if_pos (by omega)]
        · rw [if_neg (by omega), hab]
          by_cases q3 : a < n
          · rw [if_pos q3, if_pos (by omega)]
          · rw [if_neg q3, if_neg (by omega)]
      · rw [if_neg q, hab]
        by_cases q2 : a = n
        · subst q2
          have b1' := hb (n * 9 + b) (by omega) (by omega)
          have b2' := hb (k * 9 + b) (by omega) (by omega)
          rw [if_neg (by omega), if_pos (by omega)]
          omega
        · by_cases q3 : a < n
          · rw [if_pos q3, if_pos (by omega)]
          · rw [if_neg q3, if_neg (by omega)])
  intro a b a0 a1 b0 b1
  have := key H (by omega) a b a0 a1 b0 b1
  dsimp only at this
  rw [if_pos a1] at this
  exact this
/-- what distances must be -/
def wyT (H : Nat) (ex mi D : Int → Int) : Prop := wyA H (fun a b => a ≠ b → D (a * 9 + b) < 100000 → ∃ e : Int, 0 ≤ e ∧ e < 2 * H ∧ e / 2 = a ∧ ex e ≠ -1 ∧ mi e + D (ex e * 9 + b) ≤ D (a * 9 + b))
def wyU (H : Nat) (ex mi D : Int → Int) (n : Int) : Prop := ∀ e : Int, 0 ≤ e → e < n → ex e ≠ -1 → D (e / 2 * 9 + ex e) ≤ mi e
def wyZ (H : Nat) (D : Int → Int) : Prop := ∀ a : Int, 0 ≤ a → a < H → D (a * 9 + a) = 0
theorem wy_w1 {f : Int → Int} (hH : H ≤ 9) : wyA H (fun a b => it (w1 H) f H (a * 9 + b) = if a = b then 0 else 100000) := by
  have key : ∀ n : Nat, n ≤ H → wyA H (fun a b => a < n → it (w1 H) f n (a * 9 + b) = if a = b then 0 else 100000) :=
    it_inv (fun (n : Nat) (g : Int → Int) => wyA H (fun a b => a < n → g (a * 9 + b) = if a = b then 0 else 100000)) (fun a b _ _ _ _ z => by omega) (fun n g hn hg a b a0 a1 b0 b1 z => by
      show it (w1R n) g H (a * 9 + b) = _
      have k2 : ∀ m : Nat, m ≤ H → wyA H (fun a b => it (w1R n) g m (a * 9 + b) = if a = n ∧ b < m then (if a = b then 0 else 100000) else g (a * 9 + b)) :=
        it_inv (fun (m : Nat) (f : Int → Int) => wyA H (fun a b => f (a * 9 + b) = if a = n ∧ b < m then (if a = b then 0 else 100000) else g (a * 9 + b))) (fun a b _ _ _ _ => by dsimp only; rw [if_neg (by omega)]) (fun m f hm hf a b a0 a1 b0 b1 => by
          show w1R n m f (a * 9 + b) = _
          unfold w1R
          by_cases q : a = n ∧ b = m
          · obtain ⟨rfl, rfl⟩ := q
            rw [fup_s, if_pos (show (n : Int) = n ∧ (m : Int) < (m + 1 : Nat) by omega)]
          · rw [fup_n (by omega)]
            have hfab := hf a b a0 a1 b0 b1
            dsimp only at hfab
            rw [hfab]
            by_cases q2 : a = n ∧ b < m
            · rw [if_pos q2, if_pos (show a = n ∧ b < (m + 1 : Nat) by omega)]
            · rw [if_neg q2, if_neg (show ¬ (a = n ∧ b < (m + 1 : Nat)) by omega)])
      have h1 := k2 H (by omega) a b a0 a1 b0 b1
      dsimp only at h1
      rw [h1]
      by_cases q : a = n
      · rw [if_pos (show a = n ∧ b < H by omega)]
      · rw [if_neg (show ¬ (a = n ∧ b < H) by omega)]
        exact hg a b a0 a1 b0 b1 (by omega))
  intro a b a0 a1 b0 b1
  exact key H (by omega) a b a0 a1 b0 b1 a1
theorem wy_w2 {f : Int → Int} (hH : H ≤ 9) (hE : exK H ex mi) (hf : wyA H (fun a b => f (a * 9 + b) = if a = b then 0 else 100000)) : ∀ n : Nat, n ≤ 2 * H → wyZ H (it (w2R ex mi) f n) ∧ wyT H ex mi (it (w2R ex mi) f n) ∧ wyU H ex mi (it (w2R ex mi) f n) n :=
  it_inv (fun (n : Nat) (g : Int → Int) => wyZ H g ∧ wyT H ex mi g ∧ wyU H ex mi g n) ⟨fun a a0 a1 => by
      have := hf a a a0 a1 a0 a1
      dsimp only at this
      rw [this, if_pos rfl], fun a b a0 a1 b0 b1 hab hl => by
      have := hf a b a0 a1 b0 b1
      dsimp only at this
      rw [this, if_neg hab] at hl
      omega, fun e _ he _ => by omega⟩ (fun n g hn hg => by
    obtain ⟨gz, gt, gu⟩ := hg
    unfold w2R
    have hx := hE n (by omega) (by omega)
    by_cases q : ex n = -1
    · rw [if_pos q]
      refine ⟨gz, gt, fun e e0 e1 e2 => gu e e0 ?_ e2⟩
      by_cases z : e = n
      · rw [z] at e2; exact absurd q e2
      · omega
    · rw [if_neg q]
      have hle : ∀ z, fup g ((n : Int) / 2 * 9 + ex n) (min (g ((n : Int) / 2 * 9 + ex n)) (mi n)) z ≤ g z := fun z => by
        unfold fup
        split
        · rename_i e; rw [e]; omega
        · omega
      generalize hG : fup g ((n : Int) / 2 * 9 + ex n) (min (g ((n : Int) / 2 * 9 + ex n)) (mi n)) = G at hle
      have hGat : G ((n : Int) / 2 * 9 + ex n) = min (g ((n : Int) / 2 * 9 + ex n)) (mi n) := by rw [← hG, fup_s]
      have hGo : ∀ z, z ≠ (n : Int) / 2 * 9 + ex n → G z = g z := fun z hz => by rw [← hG, fup_n hz]
      have GZ : wyZ H G := fun a a0 a1 => by
        have := gz a a0 a1
        by_cases z : a * 9 + a = (n : Int) / 2 * 9 + ex n
        · rw [z, hGat, ← z]; omega
        · rw [hGo _ z]; exact this
      refine ⟨GZ, fun a b a0 a1 b0 b1 hab hl => ?_, fun e e0 e1 e2 => ?_⟩
      · by_cases z : a * 9 + b = (n : Int) / 2 * 9 + ex n
        · have ea : a = (n : Int) / 2 := by omega
          have eb : b = ex n := by omega
          rw [z] at hl ⊢
          by_cases q2 : g ((n : Int) / 2 * 9 + ex n) ≤ mi n
          · have e3 : G ((n : Int) / 2 * 9 + ex n) = g ((n : Int) / 2 * 9 + ex n) := by rw [hGat]; omega
            rw [e3] at hl ⊢
            rw [← z] at hl ⊢
            obtain ⟨e, e0, e1, e2, e3, e4⟩ := gt a b a0 a1 b0 b1 hab hl
            exact ⟨e, e0, e1, e2, e3, Int.le_trans (by have := hle (ex e * 9 + b); omega) e4⟩
          · refine ⟨n, by omega, by omega, by omega, q, ?_⟩
            have := GZ b b0 b1
            rw [← eb, this, eb, hGat]
            omega
        · rw [hGo _ z] at hl ⊢
          obtain ⟨e, e0, e1, e2, e3, e4⟩ := gt a b a0 a1 b0 b1 hab hl
          exact ⟨e, e0, e1, e2, e3, Int.le_trans (by have := hle (ex e * 9 + b); omega) e4⟩
      · by_cases z : e = n
        · subst z
          rw [hGat]
          omega
        · exact Int.le_trans (hle _) (gu e e0 (by omega) e2))
def wyR (H : Nat) (D : Int → Int) (n : Int) : Prop := ∀ l : Int, 0 ≤ l → l < n → wyA H (fun a b => D (a * 9 + b) ≤ D (a * 9 + l) + D (l * 9 + b))
theorem wy_fl {f : Int → Int} (hH : H ≤ 9) (hE : exK H ex mi) (hb : bnd f) (hz : wyZ H f) (ht : wyT H ex mi f) (hu : wyU H ex mi f (2 * H)) : ∀ n : Nat, n ≤ H → bnd (it (w3 H) f n) ∧ wyZ H (it (w3 H) f n) ∧ wyT H ex mi (it (w3 H) f n) ∧ wyU H ex mi (it (w3 H) f n) (2 * H) ∧ wyR H (it (w3 H) f n) n :=
  it_inv (fun (n : Nat) (g : Int → Int) => bnd g ∧ wyZ H g ∧ wyT H ex mi g ∧ wyU H ex mi g (2 * H) ∧ wyR H g n) ⟨hb, hz, ht, hu, fun l _ hl => by omega⟩ (fun n g hn hg => by
    obtain ⟨gb, gz, gt, gu, gr⟩ := hg
    have hzn := gz n (by omega) (by omega)
    have hst := wy_w3 (k := n) hH hn hzn gb
    have hGb : bnd (w3 H n g) := w3R_bnd hH (by omega) gb H (by omega)
    generalize w3 H n g = G at hst hGb
    have st : ∀ a b : Int, 0 ≤ a → a < H → 0 ≤ b → b < H → G (a * 9 + b) = min (g (a * 9 + b)) (g (a * 9 + n) + g (n * 9 + b)) := hst
    have nn : ∀ a b : Int, 0 ≤ a → a < H → 0 ≤ b → b < H → 0 ≤ g (a * 9 + b) := fun a b a0 a1 b0 b1 => (gb _ (by omega) (by omega)).1
    refine ⟨hGb, fun a a0 a1 => ?_, fun a b a0 a1 b0 b1 hab hl => ?_, fun e e0 e1 e2 => ?_, fun l l0 l1 a b a0 a1 b0 b1 => ?_⟩
    · rw [st a a a0 a1 a0 a1, gz a a0 a1]
      have := nn a n a0 a1 (by omega) (by omega)
      have := nn n a (by omega) (by omega) a0 a1
      omega
    · have s1 := st a b a0 a1 b0 b1
      have N2 := nn n b (by omega) (by omega) b0 b1
      by_cases q : g (a * 9 + b) ≤ g (a * 9 + n) + g (n * 9 + b)
      · obtain ⟨e, e0, e1, e2, e3, e4⟩ := gt a b a0 a1 b0 b1 hab (by omega)
        have hx := hE e e0 e1
        have s2 := st (ex e) b (by omega) (by omega) b0 b1
        exact ⟨e, e0, e1, e2, e3, by omega⟩
      · by_cases qa : a = n
        · subst qa; omega
        · obtain ⟨e, e0, e1, e2, e3, e4⟩ := gt a n a0 a1 (by omega) (by omega) qa (by omega)
          have hx := hE e e0 e1
          have s2 := st (ex e) b (by omega) (by omega) b0 b1
          exact ⟨e, e0, e1, e2, e3, by omega⟩
    · have hx := hE e e0 e1
      have s1 := st (e / 2) (ex e) (by omega) (by omega) (by omega) (by omega)
      have := gu e e0 e1 e2
      omega
    · have s1 := st a b a0 a1 b0 b1
      have N1 := nn a n a0 a1 (by omega) (by omega)
      have N2 := nn n b (by omega) (by omega) b0 b1
      by_cases q : l = n
      · subst q
        have s2 := st a n a0 a1 (by omega) (by omega)
        have s3 := st n b (by omega) (by omega) b0 b1
        show G (a * 9 + b) ≤ G (a * 9 + n) + G (n * 9 + b)
        omega
      · have l2 : l < H := by omega
        have s2 := st a l a0 a1 l0 l2
        have s3 := st l b l0 l2 b0 b1
        have t1 : g (a * 9 + b) ≤ g (a * 9 + l) + g (l * 9 + b) := gr l l0 (by omega) a b a0 a1 b0 b1
        have t2 : g (n * 9 + b) ≤ g (n * 9 + l) + g (l * 9 + b) := gr l l0 (by omega) n b (by omega) (by omega) b0 b1
        have t3 : g (a * 9 + n) ≤ g (a * 9 + l) + g (l * 9 + n) := gr l l0 (by omega) a n a0 a1 (by omega) (by omega)
        have N3 := nn n l (by omega) (by omega) l0 l2
        have N4 := nn l n l0 l2 (by omega) (by omega)
        show G (a * 9 + b) ≤ G (a * 9 + l) + G (l * 9 + b)
        omega)
/-- the class's distances -/
def wyG (H : Nat) (ex mi D : Int → Int) : Prop := bnd D ∧ wyZ H D ∧ wyT H ex mi D ∧ ∀ e : Int, 0 ≤ e → e < 2 * H → ex e ≠ -1 → ∀ b : Int, 0 ≤ b → b < H → D (e / 2 * 9 + b) ≤ mi e + D (ex e * 9 + b)
theorem wAll_G {f : Int → Int} (hH : H ≤ 9) (hE : exK H ex mi) (hb : bnd f) (hxb : exB ex) (hmb : miB mi) : wyG H ex mi (wAll H ex mi f) := by
  have h1 := wy_w1 (f := f) hH
  obtain ⟨h2, h3, h4⟩ := wy_w2 hH hE h1 (2 * H) (by omega)
  have b2 := w2_bnd hH hxb hmb (w1_bnd hH hb H (by omega)) (2 * H) (by omega)
  obtain ⟨k1, k2, k3, k4, k5⟩ := wy_fl hH hE b2 h2 h3 h4 H (by omega)
  refine ⟨k1, k2, k3, fun e e0 e1 e2 b b0 b1 => ?_⟩
  have hx := hE e e0 e1
  have t1 := k5 (ex e) (by omega) (by omega) (e / 2) b (by omega) (by omega) b0 b1
  have t2 := k4 e e0 e1 e2
  have t1' : wAll H ex mi f (e / 2 * 9 + b) ≤ wAll H ex mi f (e / 2 * 9 + ex e) + wAll H ex mi f (ex e * 9 + b) := t1
  have t2' : wAll H ex mi f (e / 2 * 9 + ex e) ≤ mi e := t2
  omega
end WY
