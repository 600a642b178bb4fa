/-! a night's acts -/
section NI3
variable {k : Nat} {h h1 h2 h3 h4 : Nat → Int → Int} {sem : Sem} {H np nc len n b i : Nat} {σ : Int → Int} {X : Cx} {f : Int → Int}
def naA (X : Cx) (σ : Int → Int) (f : Int → Int) (p : Nat) : Int × (Int → Int) := if σ p = 114 then aRu X f else if σ p = 99 then aCo X f else if σ p = 120 then aCu X f (σ (p + 1) - 48) else if σ p = 115 then aSt f (σ (p + 1) - 48) else if σ p = 103 then aGo X f (σ (p + 1) - 48) (σ (p + 2) - 48) else aWa X f (σ (p + 1) - 97) (σ (p + 2) - 48)
theorem aGo_p {x m : Int} (hX : xOK X H) (hf : okF X H f) : (aGo X f x m).2 1 ≤ f 1 + 9 ∧ oor (aGo X f x m).2 f ∧ ∀ p : Nat, p < xP X → mS f p < 0 → mS (aGo X f x m).2 p < 0 := by
  obtain ⟨x1, x2, x3, x4, x5, x6, x7, x8, x9⟩ := id hX
  obtain ⟨ord, len, hf'⟩ := id hf
  unfold aGo
  split
  · exact ⟨by dsimp only; omega, fun _ _ => rfl, fun p _ q => q⟩
  · rename_i q
    have q := Decidable.not_not.mp q
    split
    · exact ⟨by dsimp only; omega, fun _ _ => rfl, fun p _ q => q⟩
    · have hM := x6 (2 * f 0 + x) (by have := hf'.1; omega) (by have := hf'.1; omega)
      refine ⟨?_, xGo_oor x4 x3, fun p hp ho => ?_⟩
      · show xGo X f m.toNat (2 * f 0 + x) 1 ≤ _
        rw [xGo_1]; omega
      · have := hf'.2.2.2.2.2 p hp
        show mS (xGo X f m.toNat (2 * f 0 + x)) p < 0
        rw [xGo_S x4 hp (by omega) (fun c hc => by have := hf'.2.2.2.2.1 c hc; omega), if_neg (by omega)]
        exact ho
theorem aRu_p (hX : xOK X H) (hf : okF X H f) : (aRu X f).2 1 ≤ f 1 + 9 ∧ oor (aRu X f).2 f ∧ ∀ p : Nat, p < xP X → mS f p < 0 → mS (aRu X f).2 p < 0 := by
  obtain ⟨x1, x2, x3, x4, x5, x6, x7, x8, x9⟩ := id hX
  obtain ⟨ord, len, hf'⟩ := id hf
  exact ⟨(xStep_1 hX hf').2, xStep_oor x4 x3, fun p hp ho => out_step x4 hp ho⟩
theorem aCo_p (hX : xOK X H) : (aCo X f).2 1 ≤ f 1 + 9 ∧ oor (aCo X f).2 f ∧ ∀ p : Nat, p < xP X → mS f p < 0 → mS (aCo X f).2 p < 0 := by
  obtain ⟨x1, x2, x3, x4, x5, x6, x7, x8, x9⟩ := id hX
  refine ⟨?_, mcF_oor x4, fun p hp ho => ?_⟩
  · show mcF (stB f) _ f (xC X) 1 ≤ _
    rw [mcF_0 (Or.inr rfl)]; omega
  · show mS (mcF (stB f) _ f (xC X)) p < 0
    rw [mcF_S x4]; exact ho
theorem aCu_p {m : Int} (hX : xOK X H) : (aCu X f m).2 1 ≤ f 1 + 9 ∧ oor (aCu X f m).2 f ∧ ∀ p : Nat, p < xP X → mS f p < 0 → mS (aCu X f m).2 p < 0 := by
  obtain ⟨x1, x2, x3, x4, x5, x6, x7, x8, x9⟩ := id hX
  unfold aCu
  split
  · exact ⟨by dsimp only; omega, fun _ _ => rfl, fun p _ q => q⟩
  · refine ⟨?_, mlF_oor x4, fun p hp ho => ?_⟩
    · show mlF f (xLn X f - m) (xC X) 1 ≤ _
      rw [mlF_1]; omega
    · show mS (mlF f (xLn X f - m) (xC X)) p < 0
      rw [mlF_mS x4]; exact ho
theorem aSt_p {m : Int} (hm : m ≤ 9) : (aSt f m).2 1 ≤ f 1 + 9 ∧ oor (aSt f m).2 f ∧ ∀ p : Nat, mS f p < 0 → mS (aSt f m).2 p < 0 := by
  unfold aSt
  split
  · exact ⟨by dsimp only; omega, fun _ _ => rfl, fun p q => q⟩
  · refine ⟨?_, fup_oor (by omega), fun p ho => ?_⟩
    · show fup f 1 (f 1 + m) 1 ≤ _
      rw [fup_s]; omega
    · show mS (fup f 1 (f 1 + m)) p < 0
      rw [fup_mS (by omega)]; exact ho
theorem aWa_p {p' c : Int} (hX : xOK X H) (hf : okF X H f) : (aWa X f p' c).2 1 ≤ f 1 + 9 ∧ oor (aWa X f p' c).2 f ∧ ∀ p : Nat, mS f p < 0 → mS (aWa X f p' c).2 p < 0 := by
  obtain ⟨x1, x2, x3, x4, x5, x6, x7, x8, x9⟩ := id hX
  unfold aWa
  split
  · exact ⟨by dsimp only; omega, fun _ _ => rfl, fun p q => q⟩
  · rename_i q
    have q := Decidable.not_not.mp q
    split
    · exact ⟨by dsimp only; omega, fun _ _ => rfl, fun p q => q⟩
    · split
      · exact ⟨by dsimp only; omega, fun _ _ => rfl, fun p q => q⟩
      · rename_i q2 q3
        have q3 := Decidable.not_not.mp q3
        refine ⟨?_, oor_tr (fup_oor (by omega)) (fup_oor (by omega)), fun p ho => ?_⟩
        · show fup (fup f (14 + p') c) 1 (f 1 + 1) 1 ≤ _
          rw [fup_s]; omega
        · show mS (fup (fup f (14 + p') c) 1 (f 1 + 1)) p < 0
          rw [fup_mS (by omega)]
          show fup f (14 + p') c (14 + (p : Int)) < 0
          by_cases z : (p : Int) = p'
          · exfalso
            obtain ⟨ord, len, hf'⟩ := hf
            have := hf'.2.2.2.2.2 p (by omega)
            rw [← z] at q2
            omega
          · rw [fup_n (by omega)]; exact ho
theorem naA_p {p : Nat} (hX : xOK X H) (hf : okF X H f) (hok : (naE σ p).2 = true) : okF X H (naA X σ f p).2 ∧ (naA X σ f p).2 1 ≤ f 1 + 9 ∧ oor (naA X σ f p).2 f ∧ ∀ q : Nat, q < xP X → mS f q < 0 → mS (naA X σ f p).2 q < 0 := by
  unfold naA
  by_cases q1 : σ p = 114
  · rw [if_pos q1]; exact ⟨ok_run hX hf, aRu_p hX hf⟩
  · rw [if_neg q1]
    by_cases q2 : σ p = 99
    · rw [if_pos q2]; exact ⟨ok_tk hX hf, aCo_p hX⟩
    · rw [if_neg q2]
      by_cases q3 : σ p = 120
      · rw [if_pos q3]; exact ⟨ok_cut hX hf, aCu_p hX⟩
      · rw [if_neg q3]
        by_cases q4 : σ p = 115
        · rw [if_pos q4]
          have hd : σ (p + 1) - 48 ≤ 9 := by
            unfold naE at hok
            rw [if_neg (by omega), if_pos (by omega)] at hok
            by_cases y : 48 ≤ σ (p + 1) ∧ σ (p + 1) ≤ 57
            · omega
            · rw [if_neg y] at hok; cases hok
          obtain ⟨a1, a2, a3⟩ := aSt_p (f := f) hd
          exact ⟨ok_st hf, a1, a2, fun q _ => a3 q⟩
        · rw [if_neg q4]
          by_cases q5 : σ p = 103
          · rw [if_pos q5]; exact ⟨ok_go hX hf, aGo_p hX hf⟩
          · rw [if_neg q5]
            obtain ⟨a1, a2, a3⟩ := aWa_p (X := X) (f := f) (p' := σ (p + 1) - 97) (c := σ (p + 2) - 48) hX hf
            exact ⟨ok_wa hX hf, a1, a2, fun q _ => a3 q⟩
end NI3
