section NE3
variable {k : Nat} {h h1 h2 h3 h4 : Nat → Int → Int} {sem : Sem} {H n b : Nat} {σ : Int → Int}
def nrF (h h1 : Nat → Int → Int) (H : Nat) : Prop := (∀ a, a ≠ 7 → a ≠ 8 → a ≠ 9 → h1 a = h a) ∧ h1 7 0 = H ∧ exB (h1 8) ∧ miB (h1 9)
def nrE (σ : Int → Int) (H : Nat) (m : Nat) (h1 : Nat → Int → Int) : Prop := ∀ e : Nat, e < m → h1 8 e = (neT σ H (neS σ e (neR σ H e).1).1).1 ∧ h1 9 e = (neT σ H (neS σ e (neR σ H e).1).1).2
theorem neT_b {p : Nat} (hH : H ≤ 9) : (-1 ≤ (neT σ H p).1 ∧ (neT σ H p).1 ≤ 8 ∧ (neT σ H p).1 < H) ∧ 0 ≤ (neT σ H p).2 ∧ (neT σ H p).2 ≤ 9 := by
  unfold neT
  split
  · dsimp only; omega
  · dsimp only; omega
theorem RD_71 {e p : Nat} {Q : Option PV → PH → Prop} (hσ : ∀ p : Int, 0 ≤ p → signAt h p = σ p) (hσb : ∀ p : Int, -1 ≤ σ p ∧ σ p ≤ 255) (hH9 : 1 ≤ H ∧ H ≤ 9) (he : e < 2 * H) (hp : p ≤ 70) (hf : nrF h h1 H) (hfl : ∀ h2, nrF h h2 H → (neX σ H p).2 = false → Q (some (pI (-1 - ((neX σ H p).1 : Int)))) (shp0, rf0, h2)) (hon : ∀ h2, nrF h h2 H → (neX σ H p).2 = true → (h2 8 = fup (h1 8) e (neT σ H p).1 ∧ h2 9 = fup (h1 9) e (neT σ H p).2) → RR mX0_read 3 0 0 29 [pR 7, pR 1, pI H, pI ((neX σ H p).1 : Nat), pI ((e : Int) + 1)] [] (shp0, rf0, h2) Q) : RR mX0_read 3 0 0 71 [pR 7, pR 1, pI H, pI p, pI e] [] (shp0, rf0, h1) Q := by
  have hσ1 : ∀ p : Int, 0 ≤ p → signAt h1 p = σ p := fun p p0 => by
    rw [← hσ p p0]
    unfold signAt
    rw [hf.1 1 (by omega) (by omega) (by omega), hf.1 2 (by omega) (by omega) (by omega)]
  have hT := T_X0_readX (h := h1) (p := p) (e := e) hσ1 hσb hf.2.1 hH9 (by omega) (by omega)
  have hb := neT_b (σ := σ) (H := H) (p := p) hH9.2
  obtain ⟨h5, h5e⟩ : ∃ h5, h5 = rup (rup h1 8 (fup (h1 8) e (neT σ H p).1)) 9 (fup (h1 9) e (neT σ H p).2) := ⟨_, rfl⟩
  have f5 : nrF h h5 H := by
    refine ⟨fun a a1 a2 a3 => by rw [h5e, rup_n a3, rup_n a2]; exact hf.1 a a1 a2 a3, by rw [h5e, rup_n (by omega), rup_n (by omega)]; exact hf.2.1, ?_, ?_⟩
    · rw [h5e, rup_n (by omega), rup_s]
      intro z z0 z1
      unfold fup
      split
      · omega
      · exact hf.2.2.1 z z0 z1
    · rw [h5e, rup_s]
      intro z z0 z1
      unfold fup
      split
      · omega
      · exact hf.2.2.2 z z0 z1
  have e8 : h5 8 = fup (h1 8) e (neT σ H p).1 ∧ h5 9 = fup (h1 9) e (neT σ H p).2 := ⟨by rw [h5e, rup_n (by omega), rup_s], by rw [h5e, rup_s]⟩
  rw [← h5e] at hT
  have hxb : (neX σ H p).1 ≤ p + 2 := by
    unfold neX
    split
    · dsimp only; omega
    · split
      · split
        · dsimp only; omega
        · dsimp only; omega
      · dsimp only; omega
  have K1 := hfl h5 f5
  have K2 := hon h5 f5
  generalize neX σ H p = x at hT hxb K1 K2
  cases y : x.2
  · rw [y] at hT
    simp only [Bool.false_eq_true, if_false] at hT
    have K := K1 y
    refine R_aload_n dX0_read_71 rfl (?_ : RR _ _ _ _ 72 _ _ _ _)
    refine R_aload_n dX0_read_72 rfl (?_ : RR _ _ _ _ 73 _ _ _ _)
    refine R_iload_n dX0_read_73 rfl (?_ : RR _ _ _ _ 74 _ _ _ _)
    refine R_iload dX0_read_74 rfl (?_ : RR _ _ _ _ 76 _ _ _ _)
    refine R_cVi3 dX0_read_76 mvX0_readExit mlX0_41 (by decide) (by decide) (Nat.le_of_ble_eq_true rfl) (Nat.le_of_ble_eq_true rfl) (hT) (?_ : RR _ _ _ _ 79 _ _ _ _)
    refine R_istore_n dX0_read_79 (Nat.le_of_ble_eq_true rfl) (?_ : RR _ _ _ _ 80 [_, _, _, _, _] _ _ _)
    refine R_iload_n dX0_read_80 rfl (?_ : RR _ _ _ _ 81 _ _ _ _)
    refine R_if_ge (t := 86) dX0_read_81 rfl (fun c81 => ?_) (fun c81 => ?_)
    · exfalso; omega
    refine R_iload_n dX0_read_84 rfl (?_ : RR _ _ _ _ 85 _ _ _ _)
    exact R_ireturn dX0_read_85 trivial K
  · rw [y] at hT
    simp only [if_true] at hT
    have K := K2 y e8
    refine R_aload_n dX0_read_71 rfl (?_ : RR _ _ _ _ 72 _ _ _ _)
    refine R_aload_n dX0_read_72 rfl (?_ : RR _ _ _ _ 73 _ _ _ _)
    refine R_iload_n dX0_read_73 rfl (?_ : RR _ _ _ _ 74 _ _ _ _)
    refine R_iload dX0_read_74 rfl (?_ : RR _ _ _ _ 76 _ _ _ _)
    refine R_cVi3 dX0_read_76 mvX0_readExit mlX0_41 (by decide) (by decide) (Nat.le_of_ble_eq_true rfl) (Nat.le_of_ble_eq_true rfl) (hT) (?_ : RR _ _ _ _ 79 _ _ _ _)
    refine R_istore_n dX0_read_79 (Nat.le_of_ble_eq_true rfl) (?_ : RR _ _ _ _ 80 [_, _, _, _, _] _ _ _)
    refine R_iload_n dX0_read_80 rfl (?_ : RR _ _ _ _ 81 _ _ _ _)
    refine R_if_ge (t := 86) dX0_read_81 rfl (fun c81 => ?_) (fun c81 => ?_)
    rotate_left
    · exfalso; omega
    refine R_iinc dX0_read_86 rfl (Nat.le_of_ble_eq_true rfl) (?_ : RR _ _ _ _ 89 [_, _, _, _, _] _ _ _)
    refine R_goto (t := 29) dX0_read_89 rfl (?_ : RR _ _ _ _ 29 _ _ _ _)
    exact K
end NE3
