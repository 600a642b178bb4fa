section NE7
variable {k : Nat} {h h1 h2 h3 h4 : Nat → Int → Int} {sem : Sem} {H0 H np nc len n b : Nat} {σ : Int → Int}
def reF (h h1 : Nat → Int → Int) (e : Nat) : Prop := (∀ a, a ≠ 147 → a ≠ 157 → h1 a = h a) ∧ (∀ j : Int, j ≠ 16 → h1 147 j = h 147 j) ∧ ∀ j : Int, j ≠ 2 * e → j ≠ 2 * e + 1 → h1 157 j = h 157 j
theorem M_readsExit {p e : Nat} (he : e < 18) (hH9 : 1 ≤ H ∧ H ≤ 9) (hi : h 147 16 = p) (hb : h 147 17 = b) (hib : p ≤ b) (hb80 : b ≤ 46) (hσ : ∀ p : Nat, p < b → h 156 p = σ p ∧ 0 ≤ σ p ∧ σ p ≤ 255) (hσn : ∀ p : Nat, b ≤ p → σ p = -1) : RR mX12_readsExit 2 0 0 0 (pm_ent [pR 147, pI e, pI H] 3) [] (shp0, rf0, h) (fun r' g' => r' = some (pI (if (neX σ H p).2 then 1 else 0)) ∧ ∃ h2, g' = (shp0, rf0, h2) ∧ reF h h2 e ∧ h2 147 16 = ((neX σ H p).1 : Int) ∧ (neX σ H p).1 ≤ b ∧ ((neX σ H p).2 = true → h2 157 (2 * e) = (neT σ H p).1 ∧ h2 157 (2 * e + 1) = (neT σ H p).2)) := by
  show RR _ _ _ _ _ [pR 147, pI e, pI H] _ _ _
  suffices hS : ∀ Q : Option PV → PH → Prop, (∀ h2, reF h h2 e → h2 147 16 = ((neX σ H p).1 : Int) → (neX σ H p).1 ≤ b → ((neX σ H p).2 = true → h2 157 (2 * e) = (neT σ H p).1 ∧ h2 157 (2 * e + 1) = (neT σ H p).2) → Q (some (pI (if (neX σ H p).2 then 1 else 0))) (shp0, rf0, h2)) → RR mX12_readsExit 2 0 0 0 [pR 147, pI e, pI H] [] (shp0, rf0, h) Q from hS _ (fun h2 q1 q2 q3 q4 => ⟨rfl, h2, rfl, q1, q2, q3, q4⟩)
  intro Q hQ
  obtain ⟨h5, h5e⟩ : ∃ h5, h5 = rup (rup h 157 (fup (h 157) (2 * e) (-1))) 157 (fup (rup h 157 (fup (h 157) (2 * e) (-1)) 157) (2 * e + 1) 0) := ⟨_, rfl⟩
  have f5 : reF h h5 e := ⟨fun a a1 a2 => by rw [h5e, rup_n a2, rup_n a2], fun j j1 => by rw [h5e, rup_n (by omega), rup_n (by omega)], fun j j1 j2 => by rw [h5e, rup_s, fup_n j2, rup_s, fup_n j1]⟩
  have fr : ∀ h1, reF h h1 e → (∀ p : Nat, p < b → h1 156 p = σ p ∧ 0 ≤ σ p ∧ σ p ≤ 255) ∧ h1 147 17 = b := fun h1 f1 => ⟨fun p hp => by rw [f1.1 156 (by omega) (by omega)]; exact hσ p hp, by rw [f1.2.1 17 (by omega)]; exact hb⟩
  have i5 : h5 147 16 = p := by rw [h5e, rup_n (by omega), rup_n (by omega)]; exact hi
  have v0 : h5 157 (2 * e) = -1 := by rw [h5e, rup_s, fup_n (by omega), rup_s, fup_s]
  have v1 : h5 157 (2 * e + 1) = 0 := by rw [h5e, rup_s, fup_s]
  have sg : ∀ q : Nat, q < b ∨ σ q = -1 := fun q => by
    by_cases z : q < b
    · exact Or.inl z
    · exact Or.inr (hσn q (by omega))
  /- the end -/
  have S83 : ∀ (h1 : Nat → Int → Int) (y : Int), h1 157 (2 * e + 1) = y → (-1 ≤ y ∧ y ≤ 9) → Q (some (pI (if 0 < y then 1 else 0))) (shp0, rf0, h1) → RR mX12_readsExit 2 0 0 83 [pR 147, pI e, pI H] [] (shp0, rf0, h1) Q := by
    intro h1 y ey hy hq
    by_cases z : 0 < y
    · rw [if_pos z] at hq
      refine R_aload_n dX12_readsExit_83 rfl (?_ : RR _ _ _ _ 84 _ _ _ _)
      refine R_getr dX12_readsExit_84 flX12_42 cok_12 rfl (by decide) (?_ : RR _ _ _ _ 87 _ _ _ _)
      refine R_iconst dX12_readsExit_87 (?_ : RR _ _ _ _ 88 _ _ _ _)
      refine R_iload_n dX12_readsExit_88 rfl (?_ : RR _ _ _ _ 89 _ _ _ _)
      refine R_imul dX12_readsExit_89 (?_ : RR _ _ _ _ 90 _ _ _ _)
      refine R_iconst dX12_readsExit_90 (?_ : RR _ _ _ _ 91 _ _ _ _)
      refine R_iadd dX12_readsExit_91 (?_ : RR _ _ _ _ 92 _ _ _ _)
      refine R_iald dX12_readsExit_92 (fun q92 => (?_ : RR _ _ _ _ 93 _ _ _ _))
      rw [ey] at q92 ⊢
      refine R_if_le (t := 100) dX12_readsExit_93 rfl (fun c93 => ?_) (fun c93 => ?_)
      · exfalso; omega
      refine R_iconst dX12_readsExit_96 (?_ : RR _ _ _ _ 97 _ _ _ _)
      refine R_goto (t := 101) dX12_readsExit_97 rfl (?_ : RR _ _ _ _ 101 _ _ _ _)
      exact R_ireturn dX12_readsExit_101 (by first | exact Or.inl rfl | exact Or.inr rfl | exact ok_ite | omega) hq
    · rw [if_neg z] at hq
      refine R_aload_n dX12_readsExit_83 rfl (?_ : RR _ _ _ _ 84 _ _ _ _)
      refine R_getr dX12_readsExit_84 flX12_42 cok_12 rfl (by decide) (?_ : RR _ _ _ _ 87 _ _ _ _)
      refine R_iconst dX12_readsExit_87 (?_ : RR _ _ _ _ 88 _ _ _ _)
      refine R_iload_n dX12_readsExit_88 rfl (?_ : RR _ _ _ _ 89 _ _ _ _)
      refine R_imul dX12_readsExit_89 (?_ : RR _ _ _ _ 90 _ _ _ _)
      refine R_iconst dX12_readsExit_90 (?_ : RR _ _ _ _ 91 _ _ _ _)
      refine R_iadd dX12_readsExit_91 (?_ : RR _ _ _ _ 92 _ _ _ _)
      refine R_iald dX12_readsExit_92 (fun q92 => (?_ : RR _ _ _ _ 93 _ _ _ _))
      rw [ey] at q92 ⊢
      refine R_if_le (t := 100) dX12_readsExit_93 rfl (fun c93 => ?_) (fun c93 => ?_)
      rotate_left
      · exfalso; omega
      refine R_iconst dX12_readsExit_100 (?_ : RR _ _ _ _ 101 _ _ _ _)
      exact R_ireturn dX12_readsExit_101 (by first | exact Or.inl rfl | exact Or.inr rfl | exact ok_ite | omega) hq
  have K20 : RR mX12_readsExit 2 0 0 20 [pR 147, pI e, pI H] [] (shp0, rf0, h5) Q := by
    have hTk := T_X12_takes (c := 45) (h := h5) i5 (fr h5 f5).2 hib (by omega) (fun q hq => by rw [((fr h5 f5).1 q hq).1]; exact ((fr h5 f5).1 q hq).2) (by omega)
    by_cases q1 : σ p = 45
    · have hpb : p < b := by rcases sg p with z | z <;> omega
      have e1 : neX σ H p = (p + 1, true) := if_pos q1
      have e2 : neT σ H p = (-1, 0) := if_neg (fun w => by have := w.1; omega)
      have hc : p < b ∧ h5 156 p = 45 := ⟨hpb, by rw [((fr h5 f5).1 p hpb).1]; exact q1⟩
      rw [if_pos hc, if_pos hc] at hTk
      rw [e1, e2] at hQ
      have hq := hQ (rup h5 147 (fup (h5 147) 16 ((p : Int) + 1))) ⟨fun a a1 a2 => by rw [rup_n a1]; exact f5.1 a a1 a2, fun j j1 => by rw [rup_s, fup_n j1]; exact f5.2.1 j j1, fun j j1 j2 => by rw [rup_n (by omega)]; exact f5.2.2 j j1 j2⟩ (by rw [rup_s, fup_s]; rfl) hpb (fun _ => by rw [rup_n (by omega)]; exact ⟨v0, v1⟩)
      generalize rup h5 147 (fup (h5 147) 16 ((p : Int) + 1)) = h9 at hTk hq
      refine R_aload_n dX12_readsExit_20 rfl (?_ : RR _ _ _ _ 21 _ _ _ _)
      refine R_bipush dX12_readsExit_21 rfl (?_ : RR _ _ _ _ 23 _ _ _ _)
      refine R_cVi1 dX12_readsExit_23 mvX12_takes mlX12_182 (by decide) (by decide) (Nat.le_of_ble_eq_true rfl) (Nat.le_of_ble_eq_true rfl) (hTk) (?_ : RR _ _ _ _ 26 _ _ _ _)
      refine R_if_eq (t := 31) dX12_readsExit_26 rfl (fun c26 => ?_) (fun c26 => ?_)
      · exfalso; omega
      refine R_iconst dX12_readsExit_29 (?_ : RR _ _ _ _ 30 _ _ _ _)
      exact R_ireturn dX12_readsExit_30 (by first | exact Or.inl rfl | exact Or.inr rfl | exact ok_ite | omega) hq
    · have hc : ¬ (p < b ∧ h5 156 p = 45) := fun w => q1 (by rw [← ((fr h5 f5).1 p w.1).1]; exact w.2)
      rw [if_neg hc, if_neg hc, ← i5, fup_self, rup_self] at hTk
      have hT := T_signIn (h := h5) (ba := 97) (lo := 0) (hi0 := (H : Int) - 1) i5 (fr h5 f5).2 hib (by omega) (fr h5 f5).1 hσn (by omega) (by omega) (by omega)
      by_cases q2 : 97 ≤ σ p ∧ σ p < 97 + (H : Int)
      · rw [if_pos (by omega), if_pos (by omega)] at hT
        have hpb : p < b := by rcases sg p with z | z <;> omega
        obtain ⟨h6, h6e⟩ : ∃ h6, h6 = rup (rup h5 147 (fup (h5 147) 16 ((p : Int) + 1))) 157 (fup (rup h5 147 (fup (h5 147) 16 ((p : Int) + 1)) 157) (2 * e) (σ p - 97)) := ⟨_, rfl⟩
        have f6 : reF h h6 e := ⟨fun a a1 a2 => by rw [h6e, rup_n a2, rup_n a1]; exact f5.1 a a1 a2, fun j j1 => by rw [h6e, rup_n (by omega), rup_s, fup_n j1]; exact f5.2.1 j j1, fun j j1 j2 => by rw [h6e, rup_s, fup_n j1, rup_n (by omega)]; exact f5.2.2 j j1 j2⟩
        have i6 : h6 147 16 = ((p + 1 : Nat) : Int) := by rw [h6e, rup_n (by omega), rup_s, fup_s]; rfl
        have w0 : h6 157 (2 * e) = σ p - 97 := by rw [h6e, rup_s, fup_s]
        have hT2 := T_signIn (h := h6) (ba := 48) (lo := 1) (hi0 := 9) i6 (fr h6 f6).2 (by omega) (by omega) (fr h6 f6).1 hσn (by omega) (by omega) (by omega)
        have c1 : ((p + 1 : Nat) : Int) = (p : Int) + 1 := by omega
        rw [c1] at hT2
        have K49 : RR mX12_readsExit 2 0 0 49 [pR 147, pI e, pI H] [] (shp0, rf0, h6) Q := by
          by_cases q3 : 49 ≤ σ (p + 1) ∧ σ (p + 1) < 58
          · rw [if_pos (by omega), if_pos (by omega)] at hT2
            have e1 : neX σ H p = (p + 2, true) := by unfold neX; rw [if_neg q1, if_pos q2, if_pos q3]
            have e2 : neT σ H p = (σ p - 97, σ (p + 1) - 48) := if_pos ⟨q2.1, q2.2, q3⟩
            have hpb2 : p + 1 < b := by
              rcases sg (p + 1) with z | z
              · exact z
              · rw [c1] at z; omega
            rw [e1, e2] at hQ
            have hq := hQ (rup (rup h6 147 (fup (h6 147) 16 ((p : Int) + 1 + 1))) 157 (fup (rup h6 147 (fup (h6 147) 16 ((p : Int) + 1 + 1)) 157) (2 * e + 1) (σ (p + 1) - 48))) ⟨fun a a1 a2 => by rw [rup_n a2, rup_n a1]; exact f6.1 a a1 a2, fun j j1 => by rw [rup_n (by omega), rup_s, fup_n j1]; exact f6.2.1 j j1, fun j j1 j2 => by rw [rup_s, fup_n j2, rup_n (by omega)]; exact f6.2.2 j j1 j2⟩ (by rw [rup_n (by omega), rup_s, fup_s]; show _ = ((p + 2 : Nat) : Int); omega) hpb2 (fun _ => by rw [rup_s, fup_n (by omega), fup_s, rup_n (by omega)]; exact ⟨w0, rfl⟩)
            have K := S83 (rup (rup h6 147 (fup (h6 147) 16 ((p : Int) + 1 + 1))) 157 (fup (rup h6 147 (fup (h6 147) 16 ((p : Int) + 1 + 1)) 157) (2 * e + 1) (σ (p + 1) - 48))) (σ (p + 1) - 48) (by rw [rup_s, fup_s]) (by omega) (by rw [if_pos (by omega)]; exact hq)
            refine R_aload_n dX12_readsExit_49 rfl (?_ : RR _ _ _ _ 50 _ _ _ _)
            refine R_getr dX12_readsExit_50 flX12_42 cok_12 rfl (by decide) (?_ : RR _ _ _ _ 53 _ _ _ _)
            refine R_iconst dX12_readsExit_53 (?_ : RR _ _ _ _ 54 _ _ _ _)
            refine R_iload_n dX12_readsExit_54 rfl (?_ : RR _ _ _ _ 55 _ _ _ _)
            refine R_imul dX12_readsExit_55 (?_ : RR _ _ _ _ 56 _ _ _ _)
            refine R_iconst dX12_readsExit_56 (?_ : RR _ _ _ _ 57 _ _ _ _)
            refine R_iadd dX12_readsExit_57 (?_ : RR _ _ _ _ 58 _ _ _ _)
            refine R_aload_n dX12_readsExit_58 rfl (?_ : RR _ _ _ _ 59 _ _ _ _)
            refine R_getr dX12_readsExit_59 flX12_42 cok_12 rfl (by decide) (?_ : RR _ _ _ _ 62 _ _ _ _)
            refine R_iconst dX12_readsExit_62 (?_ : RR _ _ _ _ 63 _ _ _ _)
            refine R_iload_n dX12_readsExit_63 rfl (?_ : RR _ _ _ _ 64 _ _ _ _)
            refine R_imul dX12_readsExit_64 (?_ : RR _ _ _ _ 65 _ _ _ _)
            refine R_iald dX12_readsExit_65 (fun q65 => (?_ : RR _ _ _ _ 66 _ _ _ _))
            rw [w0] at q65 ⊢
            refine R_if_ge (t := 73) dX12_readsExit_66 rfl (fun c66 => ?_) (fun c66 => ?_)
            rotate_left
            · exfalso; omega
            refine R_aload_n dX12_readsExit_73 rfl (?_ : RR _ _ _ _ 74 _ _ _ _)
            refine R_bipush dX12_readsExit_74 rfl (?_ : RR _ _ _ _ 76 _ _ _ _)
            refine R_iconst dX12_readsExit_76 (?_ : RR _ _ _ _ 77 _ _ _ _)
            refine R_bipush dX12_readsExit_77 rfl (?_ : RR _ _ _ _ 79 _ _ _ _)
            refine R_cVi3 dX12_readsExit_79 mvX12_signIn mlX12_186 (by decide) (by decide) (Nat.le_of_ble_eq_true rfl) (Nat.le_of_ble_eq_true rfl) (hT2) (?_ : RR _ _ _ _ 82 _ _ _ _)
            refine R_iast dX12_readsExit_82 (?_ : RR _ _ _ _ 83 _ _ _ _)
            exact K
          · rw [if_neg (by omega), if_neg (by omega), show ((p : Int) + 1) = h6 147 16 by rw [i6]; omega, fup_self, rup_self] at hT2
            have e1 : neX σ H p = (p + 1, false) := by unfold neX; rw [if_neg q1, if_pos q2, if_neg q3]
            rw [e1] at hQ
            have hq := hQ (rup h6 157 (fup (h6 157) (2 * e + 1) (-1))) ⟨fun a a1 a2 => by rw [rup_n a2]; exact f6.1 a a1 a2, fun j j1 => by rw [rup_n (by omega)]; exact f6.2.1 j j1, fun j j1 j2 => by rw [rup_s, fup_n j2]; exact f6.2.2 j j1 j2⟩ (by rw [rup_n (by omega)]; exact i6) hpb (fun w => by cases w)
            have K := S83 (rup h6 157 (fup (h6 157) (2 * e + 1) (-1))) (-1) (by rw [rup_s, fup_s]) (by omega) (by rw [if_neg (by omega)]; exact hq)
            refine R_aload_n dX12_readsExit_49 rfl (?_ : RR _ _ _ _ 50 _ _ _ _)
            refine R_getr dX12_readsExit_50 flX12_42 cok_12 rfl (by decide) (?_ : RR _ _ _ _ 53 _ _ _ _)
            refine R_iconst dX12_readsExit_53 (?_ : RR _ _ _ _ 54 _ _ _ _)
            refine R_iload_n dX12_readsExit_54 rfl (?_ : RR _ _ _ _ 55 _ _ _ _)
            refine R_imul dX12_readsExit_55 (?_ : RR _ _ _ _ 56 _ _ _ _)
            refine R_iconst dX12_readsExit_56 (?_ : RR _ _ _ _ 57 _ _ _ _)
            refine R_iadd dX12_readsExit_57 (?_ : RR _ _ _ _ 58 _ _ _ _)
            refine R_aload_n dX12_readsExit_58 rfl (?_ : RR _ _ _ _ 59 _ _ _ _)
            refine R_getr dX12_readsExit_59 flX12_42 cok_12 rfl (by decide) (?_ : RR _ _ _ _ 62 _ _ _ _)
            refine R_iconst dX12_readsExit_62 (?_ : RR _ _ _ _ 63 _ _ _ _)
            refine R_iload_n dX12_readsExit_63 rfl (?_ : RR _ _ _ _ 64 _ _ _ _)
            refine R_imul dX12_readsExit_64 (?_ : RR _ _ _ _ 65 _ _ _ _)
            refine R_iald dX12_readsExit_65 (fun q65 => (?_ : RR _ _ _ _ 66 _ _ _ _))
            rw [w0] at q65 ⊢
            refine R_if_ge (t := 73) dX12_readsExit_66 rfl (fun c66 => ?_) (fun c66 => ?_)
            rotate_left
            · exfalso; omega
            refine R_aload_n dX12_readsExit_73 rfl (?_ : RR _ _ _ _ 74 _ _ _ _)
            refine R_bipush dX12_readsExit_74 rfl (?_ : RR _ _ _ _ 76 _ _ _ _)
            refine R_iconst dX12_readsExit_76 (?_ : RR _ _ _ _ 77 _ _ _ _)
            refine R_bipush dX12_readsExit_77 rfl (?_ : RR _ _ _ _ 79 _ _ _ _)
            refine R_cVi3 dX12_readsExit_79 mvX12_signIn mlX12_186 (by decide) (by decide) (Nat.le_of_ble_eq_true rfl) (Nat.le_of_ble_eq_true rfl) (hT2) (?_ : RR _ _ _ _ 82 _ _ _ _)
            refine R_iast dX12_readsExit_82 (?_ : RR _ _ _ _ 83 _ _ _ _)
            exact K
        refine R_aload_n dX12_readsExit_20 rfl (?_ : RR _ _ _ _ 21 _ _ _ _)
        refine R_bipush dX12_readsExit_21 rfl (?_ : RR _ _ _ _ 23 _ _ _ _)
        refine R_cVi1 dX12_readsExit_23 mvX12_takes mlX12_182 (by decide) (by decide) (Nat.le_of_ble_eq_true rfl) (Nat.le_of_ble_eq_true rfl) (hTk) (?_ : RR _ _ _ _ 26 _ _ _ _)
        refine R_if_eq (t := 31) dX12_readsExit_26 rfl (fun c26 => ?_) (fun c26 => ?_)
        rotate_left
        · exfalso; omega
        refine R_aload_n dX12_readsExit_31 rfl (?_ : RR _ _ _ _ 32 _ _ _ _)
        refine R_getr dX12_readsExit_32 flX12_42 cok_12 rfl (by decide) (?_ : RR _ _ _ _ 35 _ _ _ _)
        refine R_iconst dX12_readsExit_35 (?_ : RR _ _ _ _ 36 _ _ _ _)
        refine R_iload_n dX12_readsExit_36 rfl (?_ : RR _ _ _ _ 37 _ _ _ _)
        refine R_imul dX12_readsExit_37 (?_ : RR _ _ _ _ 38 _ _ _ _)
        refine R_aload_n dX12_readsExit_38 rfl (?_ : RR _ _ _ _ 39 _ _ _ _)
        refine R_bipush dX12_readsExit_39 rfl (?_ : RR _ _ _ _ 41 _ _ _ _)
        refine R_iconst dX12_readsExit_41 (?_ : RR _ _ _ _ 42 _ _ _ _)
        refine R_iload_n dX12_readsExit_42 rfl (?_ : RR _ _ _ _ 43 _ _ _ _)
        refine R_iconst dX12_readsExit_43 (?_ : RR _ _ _ _ 44 _ _ _ _)
        refine R_isub dX12_readsExit_44 (?_ : RR _ _ _ _ 45 _ _ _ _)
        refine R_cVi3 dX12_readsExit_45 mvX12_signIn mlX12_186 (by decide) (by decide) (Nat.le_of_ble_eq_true rfl) (Nat.le_of_ble_eq_true rfl) (hT) (?_ : RR _ _ _ _ 48 _ _ _ _)
        refine R_iast dX12_readsExit_48 (?_ : RR _ _ _ _ 49 _ _ _ _)
        rw [← h6e]
        exact K49
      · rw [if_neg (by omega), if_neg (by omega), ← i5, fup_self, rup_self] at hT
        have e1 : neX σ H p = (p, false) := by unfold neX; rw [if_neg q1, if_neg q2]
        rw [e1] at hQ
        obtain ⟨h6, h6e⟩ : ∃ h6, h6 = rup h5 157 (fup (h5 157) (2 * e) (-1)) := ⟨_, rfl⟩
        have w0 : h6 157 (2 * e) = -1 := by rw [h6e, rup_s, fup_s]
        have hq := hQ (rup h6 157 (fup (h6 157) (2 * e + 1) (-1))) ⟨fun a a1 a2 => by rw [rup_n a2, h6e, rup_n a2]; exact f5.1 a a1 a2, fun j j1 => by rw [rup_n (by omega), h6e, rup_n (by omega)]; exact f5.2.1 j j1, fun j j1 j2 => by rw [rup_s, fup_n j2, h6e, rup_s, fup_n j1]; exact f5.2.2 j j1 j2⟩ (by rw [rup_n (by omega), h6e, rup_n (by omega)]; exact i5) hib (fun w => by cases w)
        have K := S83 (rup h6 157 (fup (h6 157) (2 * e + 1) (-1))) (-1) (by rw [rup_s, fup_s]) (by omega) (by rw [if_neg (by omega)]; exact hq)
        refine R_aload_n dX12_readsExit_20 rfl (?_ : RR _ _ _ _ 21 _ _ _ _)
        refine R_bipush dX12_readsExit_21 rfl (?_ : RR _ _ _ _ 23 _ _ _ _)
        refine R_cVi1 dX12_readsExit_23 mvX12_takes mlX12_182 (by decide) (by decide) (Nat.le_of_ble_eq_true rfl) (Nat.le_of_ble_eq_true rfl) (hTk) (?_ : RR _ _ _ _ 26 _ _ _ _)
        refine R_if_eq (t := 31) dX12_readsExit_26 rfl (fun c26 => ?_) (fun c26 => ?_)
        rotate_left
        · exfalso; omega
        refine R_aload_n dX12_readsExit_31 rfl (?_ : RR _ _ _ _ 32 _ _ _ _)
        refine R_getr dX12_readsExit_32 flX12_42 cok_12 rfl (by decide) (?_ : RR _ _ _ _ 35 _ _ _ _)
        refine R_iconst dX12_readsExit_35 (?_ : RR _ _ _ _ 36 _ _ _ _)
        refine R_iload_n dX12_readsExit_36 rfl (?_ : RR _ _ _ _ 37 _ _ _ _)
        refine R_imul dX12_readsExit_37 (?_ : RR _ _ _ _ 38 _ _ _ _)
        refine R_aload_n dX12_readsExit_38 rfl (?_ : RR _ _ _ _ 39 _ _ _ _)
        refine R_bipush dX12_readsExit_39 rfl (?_ : RR _ _ _ _ 41 _ _ _ _)
        refine R_iconst dX12_readsExit_41 (?_ : RR _ _ _ _ 42 _ _ _ _)
        refine R_iload_n dX12_readsExit_42 rfl (?_ : RR _ _ _ _ 43 _ _ _ _)
        refine R_iconst dX12_readsExit_43 (?_ : RR _ _ _ _ 44 _ _ _ _)
        refine R_isub dX12_readsExit_44 (?_ : RR _ _ _ _ 45 _ _ _ _)
        refine R_cVi3 dX12_readsExit_45 mvX12_signIn mlX12_186 (by decide) (by decide) (Nat.le_of_ble_eq_true rfl) (Nat.le_of_ble_eq_true rfl) (hT) (?_ : RR _ _ _ _ 48 _ _ _ _)
        refine R_iast dX12_readsExit_48 (?_ : RR _ _ _ _ 49 _ _ _ _)
        rw [← h6e]
        refine R_aload_n dX12_readsExit_49 rfl (?_ : RR _ _ _ _ 50 _ _ _ _)
        refine R_getr dX12_readsExit_50 flX12_42 cok_12 rfl (by decide) (?_ : RR _ _ _ _ 53 _ _ _ _)
        refine R_iconst dX12_readsExit_53 (?_ : RR _ _ _ _ 54 _ _ _ _)
        refine R_iload_n dX12_readsExit_54 rfl (?_ : RR _ _ _ _ 55 _ _ _ _)
        refine R_imul dX12_readsExit_55 (?_ : RR _ _ _ _ 56 _ _ _ _)
        refine R_iconst dX12_readsExit_56 (?_ : RR _ _ _ _ 57 _ _ _ _)
        refine R_iadd dX12_readsExit_57 (?_ : RR _ _ _ _ 58 _ _ _ _)
        refine R_aload_n dX12_readsExit_58 rfl (?_ : RR _ _ _ _ 59 _ _ _ _)
        refine R_getr dX12_readsExit_59 flX12_42 cok_12 rfl (by decide) (?_ : RR _ _ _ _ 62 _ _ _ _)
        refine R_iconst dX12_readsExit_62 (?_ : RR _ _ _ _ 63 _ _ _ _)
        refine R_iload_n dX12_readsExit_63 rfl (?_ : RR _ _ _ _ 64 _ _ _ _)
        refine R_imul dX12_readsExit_64 (?_ : RR _ _ _ _ 65 _ _ _ _)
        refine R_iald dX12_readsExit_65 (fun q65 => (?_ : RR _ _ _ _ 66 _ _ _ _))
        rw [w0] at q65 ⊢
        refine R_if_ge (t := 73) dX12_readsExit_66 rfl (fun c66 => ?_) (fun c66 => ?_)
        · exfalso; omega
        refine R_iconst dX12_readsExit_69 (?_ : RR _ _ _ _ 70 _ _ _ _)
        refine R_goto (t := 82) dX12_readsExit_70 rfl (?_ : RR _ _ _ _ 82 _ _ _ _)
        refine R_iast dX12_readsExit_82 (?_ : RR _ _ _ _ 83 _ _ _ _)
        exact K
  refine R_aload_n dX12_readsExit_0 rfl (?_ : RR _ _ _ _ 1 _ _ _ _)
  refine R_getr dX12_readsExit_1 flX12_42 cok_12 rfl (by decide) (?_ : RR _ _ _ _ 4 _ _ _ _)
  refine R_iconst dX12_readsExit_4 (?_ : RR _ _ _ _ 5 _ _ _ _)
  refine R_iload_n dX12_readsExit_5 rfl (?_ : RR _ _ _ _ 6 _ _ _ _)
  refine R_imul dX12_readsExit_6 (?_ : RR _ _ _ _ 7 _ _ _ _)
  refine R_iconst dX12_readsExit_7 (?_ : RR _ _ _ _ 8 _ _ _ _)
  refine R_iast dX12_readsExit_8 (?_ : RR _ _ _ _ 9 _ _ _ _)
  refine R_aload_n dX12_readsExit_9 rfl (?_ : RR _ _ _ _ 10 _ _ _ _)
  refine R_getr dX12_readsExit_10 flX12_42 cok_12 rfl (by decide) (?_ : RR _ _ _ _ 13 _ _ _ _)
  refine R_iconst dX12_readsExit_13 (?_ : RR _ _ _ _ 14 _ _ _ _)
  refine R_iload_n dX12_readsExit_14 rfl (?_ : RR _ _ _ _ 15 _ _ _ _)
  refine R_imul dX12_readsExit_15 (?_ : RR _ _ _ _ 16 _ _ _ _)
  refine R_iconst dX12_readsExit_16 (?_ : RR _ _ _ _ 17 _ _ _ _)
  refine R_iadd dX12_readsExit_17 (?_ : RR _ _ _ _ 18 _ _ _ _)
  refine R_iconst dX12_readsExit_18 (?_ : RR _ _ _ _ 19 _ _ _ _)
  refine R_iast dX12_readsExit_19 (?_ : RR _ _ _ _ 20 _ _ _ _)
  rw [← h5e]
  exact K20
end NE7
