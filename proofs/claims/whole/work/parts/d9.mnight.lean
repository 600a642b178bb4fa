section NI6
variable {k : Nat} {h h1 h2 h3 h4 : Nat → Int → Int} {sem : Sem} {H np nc len n b i : Nat} {σ : Int → Int} {X : Cx} {f : Int → Int}
/-- the reference's act -/
def mDo (h : Nat → Int → Int) (w : Int × (Int → Int)) (r' : Option PV) (g' : PH) : Prop := ∃ h', g' = (shp0, rf0, h') ∧ (∀ a, a ≠ 147 → a ≠ 154 → a ≠ 160 → a ≠ 161 → a ≠ 162 → h' a = h a) ∧ h' 154 = w.2 ∧ r' = some (pI (if 0 ≤ w.1 then 1 else 0)) ∧ (∀ j : Int, j ≠ 30 → h' 147 j = h 147 j) ∧ 0 ≤ h' 147 30 ∧ h' 147 30 < 64
theorem M_does {p : Nat} (hB : MBk sem h 154 H np nc) (hk : k < 60) (hσb : ∀ p : Int, -1 ≤ σ p ∧ σ p ≤ 255) (hv : raV σ p k h) (hok : (naE σ p).2 = true) : RR mX12_does 9 0 0 0 (pm_ent [pR 147, pI k] 2) [] (shp0, rf0, h) (mDo h (naA (cxM sem h np nc) σ (h 154) p)) := by
  show RR _ _ _ _ _ [pR 147, pI k] _ _ _
  have hwr := naA_r (σ := σ) (p := p) hB.1 hB.2.1 hB.2.2.2.2.2.1
  have hr := isRw_154
  have b1 := hσb (p + 1)
  have b2 := hσb (p + 2)
  obtain ⟨v1, v2, v3, v4⟩ := hv
  unfold naE at hok
  suffices hS : ∀ Q : Option PV → PH → Prop, (∀ h', (∀ a, a ≠ 147 → a ≠ 154 → a ≠ 160 → a ≠ 161 → a ≠ 162 → h' a = h a) → h' 154 = (naA (cxM sem h np nc) σ (h 154) p).2 → (∀ j : Int, j ≠ 30 → h' 147 j = h 147 j) → (0 ≤ h' 147 30 ∧ h' 147 30 < 64) → Q (some (pI (if 0 ≤ (naA (cxM sem h np nc) σ (h 154) p).1 then 1 else 0))) (shp0, rf0, h')) → RR mX12_does 9 0 0 0 [pR 147, pI k] [] (shp0, rf0, h) Q from hS _ (fun h' a1 a2 a3 a4 => ⟨h', rfl, a1, a2, rfl, a3, a4⟩)
  intro Q hQ
  unfold naA at hQ hwr
  by_cases q1 : σ p = 114
  · rw [if_pos q1] at hQ hwr
    rw [q1, amI_4] at v1
    have v1 : h 164 k = 0 := v1
    have hT := M_runs hB
    have hge : 0 ≤ (aRu (cxM sem h np nc) (h 154)).1 := by
      have := xCrs_b (X := cxM sem h np nc) (f := h 154) (bh := 0)
      show 0 ≤ (if _ then xCrs (cxM sem h np nc) (h 154) 0 else 2)
      split <;> omega
    rw [if_pos hge] at hQ
    generalize aRu (cxM sem h np nc) (h 154) = w at *
    refine R_aload_n dX12_does_0 rfl (?_ : RR _ _ _ _ 1 _ _ _ _)
    refine R_getr dX12_does_1 flX12_63 cok_12 rfl (by decide) (?_ : RR _ _ _ _ 4 _ _ _ _)
    refine R_iload_n dX12_does_4 rfl (?_ : RR _ _ _ _ 5 _ _ _ _)
    refine R_iald dX12_does_5 (fun q5 => (?_ : RR _ _ _ _ 6 _ _ _ _))
    rw [v1] at q5 ⊢
    refine R_tabIn (t := 40) (off := 34) dX12_does_6 (by omega) (by omega) rfl rfl (?_ : RR _ _ _ _ 40 _ _ _ _)
    refine R_aload_n dX12_does_40 rfl (?_ : RR _ _ _ _ 41 _ _ _ _)
    refine R_aload_n dX12_does_41 rfl (?_ : RR _ _ _ _ 42 _ _ _ _)
    refine R_getr dX12_does_42 flX12_33 cok_12 rfl (by decide) (?_ : RR _ _ _ _ 45 _ _ _ _)
    refine R_qV1 dX12_does_45 mvX12_runs mlX12_373 (by decide) (by decide) (Nat.le_of_ble_eq_true rfl) (Nat.le_of_ble_eq_true rfl) (hT) (fun r9 g9 hq9 => (?_ : RR _ _ _ _ 48 _ _ _ _))
    obtain ⟨⟨h6, rfl, m1, m2, rfl, m3, m4⟩, -⟩ := hq9
    have hq := hQ h6 m1 m2 m3 m4
    show RR _ _ _ _ _ _ [pI w.1] _ _
    refine R_pop dX12_does_48 (fun _ => rfl) (?_ : RR _ _ _ _ 49 _ _ _ _)
    refine R_iconst dX12_does_49 (?_ : RR _ _ _ _ 50 _ _ _ _)
    exact R_ireturn dX12_does_50 (by first | exact Or.inl rfl | exact Or.inr rfl | exact ok_ite | omega) hq
  · rw [if_neg q1] at hQ hwr
    by_cases q2 : σ p = 99
    · rw [if_pos q2] at hQ hwr
      rw [q2, amI_4] at v1
      have v1 : h 164 k = 1 := v1
      have hT := M_couples hB
      generalize aCo (cxM sem h np nc) (h 154) = w at *
      by_cases y : 0 ≤ w.1
      · rw [if_pos y] at hQ
        refine R_aload_n dX12_does_0 rfl (?_ : RR _ _ _ _ 1 _ _ _ _)
        refine R_getr dX12_does_1 flX12_63 cok_12 rfl (by decide) (?_ : RR _ _ _ _ 4 _ _ _ _)
        refine R_iload_n dX12_does_4 rfl (?_ : RR _ _ _ _ 5 _ _ _ _)
        refine R_iald dX12_does_5 (fun q5 => (?_ : RR _ _ _ _ 6 _ _ _ _))
        rw [v1] at q5 ⊢
        refine R_tabIn (t := 51) (off := 45) dX12_does_6 (by omega) (by omega) rfl rfl (?_ : RR _ _ _ _ 51 _ _ _ _)
        refine R_aload_n dX12_does_51 rfl (?_ : RR _ _ _ _ 52 _ _ _ _)
        refine R_aload_n dX12_does_52 rfl (?_ : RR _ _ _ _ 53 _ _ _ _)
        refine R_getr dX12_does_53 flX12_33 cok_12 rfl (by decide) (?_ : RR _ _ _ _ 56 _ _ _ _)
        refine R_qV1 dX12_does_56 mvX12_couples mlX12_380 (by decide) (by decide) (Nat.le_of_ble_eq_true rfl) (Nat.le_of_ble_eq_true rfl) (hT) (fun r9 g9 hq9 => (?_ : RR _ _ _ _ 59 _ _ _ _))
        obtain ⟨h6, rfl, m1, m2, rfl, m3, m4⟩ := hq9
        have hq := hQ h6 m1 m2 m3 m4
        show RR _ _ _ _ _ _ [pI w.1] _ _
        refine R_if_lt (t := 66) dX12_does_59 rfl (fun c59 => ?_) (fun c59 => ?_)
        · exfalso; omega
        refine R_iconst dX12_does_62 (?_ : RR _ _ _ _ 63 _ _ _ _)
        refine R_goto (t := 67) dX12_does_63 rfl (?_ : RR _ _ _ _ 67 _ _ _ _)
        exact R_ireturn dX12_does_67 (by first | exact Or.inl rfl | exact Or.inr rfl | exact ok_ite | omega) hq
      · rw [if_neg y] at hQ
        refine R_aload_n dX12_does_0 rfl (?_ : RR _ _ _ _ 1 _ _ _ _)
        refine R_getr dX12_does_1 flX12_63 cok_12 rfl (by decide) (?_ : RR _ _ _ _ 4 _ _ _ _)
        refine R_iload_n dX12_does_4 rfl (?_ : RR _ _ _ _ 5 _ _ _ _)
        refine R_iald dX12_does_5 (fun q5 => (?_ : RR _ _ _ _ 6 _ _ _ _))
        rw [v1] at q5 ⊢
        refine R_tabIn (t := 51) (off := 45) dX12_does_6 (by omega) (by omega) rfl rfl (?_ : RR _ _ _ _ 51 _ _ _ _)
        refine R_aload_n dX12_does_51 rfl (?_ : RR _ _ _ _ 52 _ _ _ _)
        refine R_aload_n dX12_does_52 rfl (?_ : RR _ _ _ _ 53 _ _ _ _)
        refine R_getr dX12_does_53 flX12_33 cok_12 rfl (by decide) (?_ : RR _ _ _ _ 56 _ _ _ _)
        refine R_qV1 dX12_does_56 mvX12_couples mlX12_380 (by decide) (by decide) (Nat.le_of_ble_eq_true rfl) (Nat.le_of_ble_eq_true rfl) (hT) (fun r9 g9 hq9 => (?_ : RR _ _ _ _ 59 _ _ _ _))
        obtain ⟨h6, rfl, m1, m2, rfl, m3, m4⟩ := hq9
        have hq := hQ h6 m1 m2 m3 m4
        show RR _ _ _ _ _ _ [pI w.1] _ _
        refine R_if_lt (t := 66) dX12_does_59 rfl (fun c59 => ?_) (fun c59 => ?_)
        rotate_left
        · exfalso; omega
        refine R_iconst dX12_does_66 (?_ : RR _ _ _ _ 67 _ _ _ _)
        exact R_ireturn dX12_does_67 (by first | exact Or.inl rfl | exact Or.inr rfl | exact ok_ite | omega) hq
    · rw [if_neg q2] at hQ hwr
      rw [if_neg (by omega)] at hok
      by_cases q3 : σ p = 120
      · rw [if_pos q3] at hQ hwr
        have v2 := v2 (Or.inl q3)
        rw [q3, amI_4] at v1
        have v1 : h 164 k = 2 := v1
        have hT := M_cuts (n := σ (p + 1) - 48) hB (by omega)
        generalize aCu (cxM sem h np nc) (h 154) (σ (p + 1) - 48) = w at *
        clear v3 v4 hok
        generalize σ (p + 1) = s1 at *
        by_cases y : 0 ≤ w.1
        · rw [if_pos y] at hQ
          refine R_aload_n dX12_does_0 rfl (?_ : RR _ _ _ _ 1 _ _ _ _)
          refine R_getr dX12_does_1 flX12_63 cok_12 rfl (by decide) (?_ : RR _ _ _ _ 4 _ _ _ _)
          refine R_iload_n dX12_does_4 rfl (?_ : RR _ _ _ _ 5 _ _ _ _)
          refine R_iald dX12_does_5 (fun q5 => (?_ : RR _ _ _ _ 6 _ _ _ _))
          rw [v1] at q5 ⊢
          refine R_tabIn (t := 68) (off := 62) dX12_does_6 (by omega) (by omega) rfl rfl (?_ : RR _ _ _ _ 68 _ _ _ _)
          refine R_aload_n dX12_does_68 rfl (?_ : RR _ _ _ _ 69 _ _ _ _)
          refine R_aload_n dX12_does_69 rfl (?_ : RR _ _ _ _ 70 _ _ _ _)
          refine R_getr dX12_does_70 flX12_33 cok_12 rfl (by decide) (?_ : RR _ _ _ _ 73 _ _ _ _)
          refine R_aload_n dX12_does_73 rfl (?_ : RR _ _ _ _ 74 _ _ _ _)
          refine R_getr dX12_does_74 flX12_66 cok_12 rfl (by decide) (?_ : RR _ _ _ _ 77 _ _ _ _)
          refine R_iload_n dX12_does_77 rfl (?_ : RR _ _ _ _ 78 _ _ _ _)
          refine R_iald dX12_does_78 (fun q78 => (?_ : RR _ _ _ _ 79 _ _ _ _))
          rw [v2] at q78 ⊢
          refine R_qV2 dX12_does_79 mvX12_cuts mlX12_386 (by decide) (by decide) (Nat.le_of_ble_eq_true rfl) (Nat.le_of_ble_eq_true rfl) (hT) (fun r9 g9 hq9 => (?_ : RR _ _ _ _ 82 _ _ _ _))
          obtain ⟨h6, rfl, m1, m2, rfl, m3, m4⟩ := hq9
          have hq := hQ h6 m1 m2 m3 m4
          show RR _ _ _ _ _ _ [pI w.1] _ _
          refine R_if_lt (t := 89) dX12_does_82 rfl (fun c82 => ?_) (fun c82 => ?_)
          · exfalso; omega
          refine R_iconst dX12_does_85 (?_ : RR _ _ _ _ 86 _ _ _ _)
          refine R_goto (t := 90) dX12_does_86 rfl (?_ : RR _ _ _ _ 90 _ _ _ _)
          exact R_ireturn dX12_does_90 (by first | exact Or.inl rfl | exact Or.inr rfl | exact ok_ite | omega) hq
        · rw [if_neg y] at hQ
          refine R_aload_n dX12_does_0 rfl (?_ : RR _ _ _ _ 1 _ _ _ _)
          refine R_getr dX12_does_1 flX12_63 cok_12 rfl (by decide) (?_ : RR _ _ _ _ 4 _ _ _ _)
          refine R_iload_n dX12_does_4 rfl (?_ : RR _ _ _ _ 5 _ _ _ _)
          refine R_iald dX12_does_5 (fun q5 => (?_ : RR _ _ _ _ 6 _ _ _ _))
          rw [v1] at q5 ⊢
          refine R_tabIn (t := 68) (off := 62) dX12_does_6 (by omega) (by omega) rfl rfl (?_ : RR _ _ _ _ 68 _ _ _ _)
          refine R_aload_n dX12_does_68 rfl (?_ : RR _ _ _ _ 69 _ _ _ _)
          refine R_aload_n dX12_does_69 rfl (?_ : RR _ _ _ _ 70 _ _ _ _)
          refine R_getr dX12_does_70 flX12_33 cok_12 rfl (by decide) (?_ : RR _ _ _ _ 73 _ _ _ _)
          refine R_aload_n dX12_does_73 rfl (?_ : RR _ _ _ _ 74 _ _ _ _)
          refine R_getr dX12_does_74 flX12_66 cok_12 rfl (by decide) (?_ : RR _ _ _ _ 77 _ _ _ _)
          refine R_iload_n dX12_does_77 rfl (?_ : RR _ _ _ _ 78 _ _ _ _)
          refine R_iald dX12_does_78 (fun q78 => (?_ : RR _ _ _ _ 79 _ _ _ _))
          rw [v2] at q78 ⊢
          refine R_qV2 dX12_does_79 mvX12_cuts mlX12_386 (by decide) (by decide) (Nat.le_of_ble_eq_true rfl) (Nat.le_of_ble_eq_true rfl) (hT) (fun r9 g9 hq9 => (?_ : RR _ _ _ _ 82 _ _ _ _))
          obtain ⟨h6, rfl, m1, m2, rfl, m3, m4⟩ := hq9
          have hq := hQ h6 m1 m2 m3 m4
          show RR _ _ _ _ _ _ [pI w.1] _ _
          refine R_if_lt (t := 89) dX12_does_82 rfl (fun c82 => ?_) (fun c82 => ?_)
          rotate_left
          · exfalso; omega
          refine R_iconst dX12_does_89 (?_ : RR _ _ _ _ 90 _ _ _ _)
          exact R_ireturn dX12_does_90 (by first | exact Or.inl rfl | exact Or.inr rfl | exact ok_ite | omega) hq
      · rw [if_neg q3] at hQ hwr
        by_cases q4 : σ p = 115
        · rw [if_pos q4] at hQ hwr
          have v2 := v2 (Or.inr (Or.inl q4))
          rw [q4, amI_4] at v1
          have v1 : h 164 k = 5 := v1
          rw [if_pos (by omega)] at hok
          have hd : 48 ≤ σ (p + 1) ∧ σ (p + 1) ≤ 57 := by
            by_cases y : 48 ≤ σ (p + 1) ∧ σ (p + 1) ≤ 57
            · exact y
            · rw [if_neg y] at hok; cases hok
          have hnow : 0 ≤ h 154 1 ∧ h 154 1 ≤ 2000000000 := ⟨by obtain ⟨o, l, hf⟩ := hB.2.1; exact hf.2.1, hB.2.2.2.2.2.1⟩
          have e : aSt (h 154) (σ (p + 1) - 48) = (h 154 1 + (σ (p + 1) - 48), fup (h 154) 1 (h 154 1 + (σ (p + 1) - 48))) := if_neg (by omega)
          rw [e, if_pos (by dsimp only; omega)] at hQ
          have hq := hQ (rup h 154 (fup (h 154) 1 (h 154 1 + (σ (p + 1) - 48)))) (fun a a1 a2 a3 a4 a5 => by rw [rup_n a2]) (by rw [rup_s]) (fun j j1 => by rw [rup_n (by omega)]) (by rw [rup_n (by omega)]; exact hB.2.2.2.2.2.2.1)
          clear v3 v4 hok hQ e hwr
          generalize σ (p + 1) = s1 at *
          refine R_aload_n dX12_does_0 rfl (?_ : RR _ _ _ _ 1 _ _ _ _)
          refine R_getr dX12_does_1 flX12_63 cok_12 rfl (by decide) (?_ : RR _ _ _ _ 4 _ _ _ _)
          refine R_iload_n dX12_does_4 rfl (?_ : RR _ _ _ _ 5 _ _ _ _)
          refine R_iald dX12_does_5 (fun q5 => (?_ : RR _ _ _ _ 6 _ _ _ _))
          rw [v1] at q5 ⊢
          refine R_tabOut (t := 149) dX12_does_6 rfl (by omega) (?_ : RR _ _ _ _ 149 _ _ _ _)
          refine R_aload_n dX12_does_149 rfl (?_ : RR _ _ _ _ 150 _ _ _ _)
          refine R_getr dX12_does_150 flX12_33 cok_12 rfl (by decide) (?_ : RR _ _ _ _ 153 _ _ _ _)
          refine R_iconst dX12_does_153 (?_ : RR _ _ _ _ 154 _ _ _ _)
          refine R_dup2 dX12_does_154 (fun _ => rfl) (fun _ => rfl) (?_ : RR _ _ _ _ 155 _ _ _ _)
          refine R_iald dX12_does_155 (fun q155 => (?_ : RR _ _ _ _ 156 _ _ _ _))
          refine R_aload_n dX12_does_156 rfl (?_ : RR _ _ _ _ 157 _ _ _ _)
          refine R_getr dX12_does_157 flX12_66 cok_12 rfl (by decide) (?_ : RR _ _ _ _ 160 _ _ _ _)
          refine R_iload_n dX12_does_160 rfl (?_ : RR _ _ _ _ 161 _ _ _ _)
          refine R_iald dX12_does_161 (fun q161 => (?_ : RR _ _ _ _ 162 _ _ _ _))
          rw [v2] at q161 ⊢
          refine R_iadd dX12_does_162 (?_ : RR _ _ _ _ 163 _ _ _ _)
          refine R_iast dX12_does_163 (?_ : RR _ _ _ _ 164 _ _ _ _)
          refine R_iconst dX12_does_164 (?_ : RR _ _ _ _ 165 _ _ _ _)
          exact R_ireturn dX12_does_165 (by first | exact Or.inl rfl | exact Or.inr rfl | exact ok_ite | omega) hq
        · rw [if_neg q4] at hQ hwr
          rw [if_neg (by omega)] at hok
          have hg : σ p = 103 ∨ σ p = 119 := by
            by_cases y : σ p = 103 ∨ σ p = 119
            · exact y
            · rw [if_neg y] at hok; cases hok
          have v4 := v4 hg
          by_cases q5 : σ p = 103
          · rw [if_pos q5] at hQ hwr
            have v2 := v2 (Or.inr (Or.inr q5))
            rw [q5, amI_4] at v1
            have v1 : h 164 k = 3 := v1
            have hT := M_goes (x := σ (p + 1) - 48) (n := σ (p + 2) - 48) hB (by omega) (by omega)
            generalize aGo (cxM sem h np nc) (h 154) (σ (p + 1) - 48) (σ (p + 2) - 48) = w at *
            clear v3 hok
            generalize σ (p + 1) = s1 at *
            generalize σ (p + 2) = s2 at *
            by_cases y : 0 ≤ w.1
            · rw [if_pos y] at hQ
              refine R_aload_n dX12_does_0 rfl (?_ : RR _ _ _ _ 1 _ _ _ _)
              refine R_getr dX12_does_1 flX12_63 cok_12 rfl (by decide) (?_ : RR _ _ _ _ 4 _ _ _ _)
              refine R_iload_n dX12_does_4 rfl (?_ : RR _ _ _ _ 5 _ _ _ _)
              refine R_iald dX12_does_5 (fun q5 => (?_ : RR _ _ _ _ 6 _ _ _ _))
              rw [v1] at q5 ⊢
              refine R_tabIn (t := 91) (off := 85) dX12_does_6 (by omega) (by omega) rfl rfl (?_ : RR _ _ _ _ 91 _ _ _ _)
              refine R_aload_n dX12_does_91 rfl (?_ : RR _ _ _ _ 92 _ _ _ _)
              refine R_aload_n dX12_does_92 rfl (?_ : RR _ _ _ _ 93 _ _ _ _)
              refine R_getr dX12_does_93 flX12_33 cok_12 rfl (by decide) (?_ : RR _ _ _ _ 96 _ _ _ _)
              refine R_aload_n dX12_does_96 rfl (?_ : RR _ _ _ _ 97 _ _ _ _)
              refine R_getr dX12_does_97 flX12_66 cok_12 rfl (by decide) (?_ : RR _ _ _ _ 100 _ _ _ _)
              refine R_iload_n dX12_does_100 rfl (?_ : RR _ _ _ _ 101 _ _ _ _)
              refine R_iald dX12_does_101 (fun q101 => (?_ : RR _ _ _ _ 102 _ _ _ _))
              rw [v2] at q101 ⊢
              refine R_aload_n dX12_does_102 rfl (?_ : RR _ _ _ _ 103 _ _ _ _)
              refine R_getr dX12_does_103 flX12_69 cok_12 rfl (by decide) (?_ : RR _ _ _ _ 106 _ _ _ _)
              refine R_iload_n dX12_does_106 rfl (?_ : RR _ _ _ _ 107 _ _ _ _)
              refine R_iald dX12_does_107 (fun q107 => (?_ : RR _ _ _ _ 108 _ _ _ _))
              rw [v4] at q107 ⊢
              refine R_qV3 dX12_does_108 mvX12_goes mlX12_376 (by decide) (by decide) (Nat.le_of_ble_eq_true rfl) (Nat.le_of_ble_eq_true rfl) (hT) (fun r9 g9 hq9 => (?_ : RR _ _ _ _ 111 _ _ _ _))
              obtain ⟨h6, rfl, m1, m2, rfl, m3, m4⟩ := hq9
              have hq := hQ h6 m1 m2 m3 m4
              show RR _ _ _ _ _ _ [pI w.1] _ _
              refine R_if_lt (t := 118) dX12_does_111 rfl (fun c111 => ?_) (fun c111 => ?_)
              · exfalso; omega
              refine R_iconst dX12_does_114 (?_ : RR _ _ _ _ 115 _ _ _ _)
              refine R_goto (t := 119) dX12_does_115 rfl (?_ : RR _ _ _ _ 119 _ _ _ _)
              exact R_ireturn dX12_does_119 (by first | exact Or.inl rfl | exact Or.inr rfl | exact ok_ite | omega) hq
            · rw [if_neg y] at hQ
              refine R_aload_n dX12_does_0 rfl (?_ : RR _ _ _ _ 1 _ _ _ _)
              refine R_getr dX12_does_1 flX12_63 cok_12 rfl (by decide) (?_ : RR _ _ _ _ 4 _ _ _ _)
              refine R_iload_n dX12_does_4 rfl (?_ : RR _ _ _ _ 5 _ _ _ _)
              refine R_iald dX12_does_5 (fun q5 => (?_ : RR _ _ _ _ 6 _ _ _ _))
              rw [v1] at q5 ⊢
              refine R_tabIn (t := 91) (off := 85) dX12_does_6 (by omega) (by omega) rfl rfl (?_ : RR _ _ _ _ 91 _ _ _ _)
              refine R_aload_n dX12_does_91 rfl (?_ : RR _ _ _ _ 92 _ _ _ _)
              refine R_aload_n dX12_does_92 rfl (?_ : RR _ _ _ _ 93 _ _ _ _)
              refine R_getr dX12_does_93 flX12_33 cok_12 rfl (by decide) (?_ : RR _ _ _ _ 96 _ _ _ _)
              refine R_aload_n dX12_does_96 rfl (?_ : RR _ _ _ _ 97 _ _ _ _)
              refine R_getr dX12_does_97 flX12_66 cok_12 rfl (by decide) (?_ : RR _ _ _ _ 100 _ _ _ _)
              refine R_iload_n dX12_does_100 rfl (?_ : RR _ _ _ _ 101 _ _ _ _)
              refine R_iald dX12_does_101 (fun q101 => (?_ : RR _ _ _ _ 102 _ _ _ _))
              rw [v2] at q101 ⊢
              refine R_aload_n dX12_does_102 rfl (?_ : RR _ _ _ _ 103 _ _ _ _)
              refine R_getr dX12_does_103 flX12_69 cok_12 rfl (by decide) (?_ : RR _ _ _ _ 106 _ _ _ _)
              refine R_iload_n dX12_does_106 rfl (?_ : RR _ _ _ _ 107 _ _ _ _)
              refine R_iald dX12_does_107 (fun q107 => (?_ : RR _ _ _ _ 108 _ _ _ _))
              rw [v4] at q107 ⊢
              refine R_qV3 dX12_does_108 mvX12_goes mlX12_376 (by decide) (by decide) (Nat.le_of_ble_eq_true rfl) (Nat.le_of_ble_eq_true rfl) (hT) (fun r9 g9 hq9 => (?_ : RR _ _ _ _ 111 _ _ _ _))
              obtain ⟨h6, rfl, m1, m2, rfl, m3, m4⟩ := hq9
              have hq := hQ h6 m1 m2 m3 m4
              show RR _ _ _ _ _ _ [pI w.1] _ _
              refine R_if_lt (t := 118) dX12_does_111 rfl (fun c111 => ?_) (fun c111 => ?_)
              rotate_left
              · exfalso; omega
              refine R_iconst dX12_does_118 (?_ : RR _ _ _ _ 119 _ _ _ _)
              exact R_ireturn dX12_does_119 (by first | exact Or.inl rfl | exact Or.inr rfl | exact ok_ite | omega) hq
          · rw [if_neg q5] at hQ hwr
            have q6 : σ p = 119 := by omega
            have v3 := v3 q6
            rw [q6, amI_4] at v1
            have v1 : h 164 k = 4 := v1
            have hT := M_walks (p := σ (p + 1) - 97) (c := σ (p + 2) - 48) hB (by omega) (by omega)
            generalize aWa (cxM sem h np nc) (h 154) (σ (p + 1) - 97) (σ (p + 2) - 48) = w at *
            clear v2 hok
            generalize σ (p + 1) = s1 at *
            generalize σ (p + 2) = s2 at *
            by_cases y : 0 ≤ w.1
            · rw [if_pos y] at hQ
              refine R_aload_n dX12_does_0 rfl (?_ : RR _ _ _ _ 1 _ _ _ _)
              refine R_getr dX12_does_1 flX12_63 cok_12 rfl (by decide) (?_ : RR _ _ _ _ 4 _ _ _ _)
              refine R_iload_n dX12_does_4 rfl (?_ : RR _ _ _ _ 5 _ _ _ _)
              refine R_iald dX12_does_5 (fun q5 => (?_ : RR _ _ _ _ 6 _ _ _ _))
              rw [v1] at q5 ⊢
              refine R_tabIn (t := 120) (off := 114) dX12_does_6 (by omega) (by omega) rfl rfl (?_ : RR _ _ _ _ 120 _ _ _ _)
              refine R_aload_n dX12_does_120 rfl (?_ : RR _ _ _ _ 121 _ _ _ _)
              refine R_aload_n dX12_does_121 rfl (?_ : RR _ _ _ _ 122 _ _ _ _)
              refine R_getr dX12_does_122 flX12_33 cok_12 rfl (by decide) (?_ : RR _ _ _ _ 125 _ _ _ _)
              refine R_aload_n dX12_does_125 rfl (?_ : RR _ _ _ _ 126 _ _ _ _)
              refine R_getr dX12_does_126 flX12_66 cok_12 rfl (by decide) (?_ : RR _ _ _ _ 129 _ _ _ _)
              refine R_iload_n dX12_does_129 rfl (?_ : RR _ _ _ _ 130 _ _ _ _)
              refine R_iald dX12_does_130 (fun q130 => (?_ : RR _ _ _ _ 131 _ _ _ _))
              rw [v3] at q130 ⊢
              refine R_aload_n dX12_does_131 rfl (?_ : RR _ _ _ _ 132 _ _ _ _)
              refine R_getr dX12_does_132 flX12_69 cok_12 rfl (by decide) (?_ : RR _ _ _ _ 135 _ _ _ _)
              refine R_iload_n dX12_does_135 rfl (?_ : RR _ _ _ _ 136 _ _ _ _)
              refine R_iald dX12_does_136 (fun q136 => (?_ : RR _ _ _ _ 137 _ _ _ _))
              rw [v4] at q136 ⊢
              refine R_qV3 dX12_does_137 mvX12_walks mlX12_389 (by decide) (by decide) (Nat.le_of_ble_eq_true rfl) (Nat.le_of_ble_eq_true rfl) (hT) (fun r9 g9 hq9 => (?_ : RR _ _ _ _ 140 _ _ _ _))
              obtain ⟨h6, rfl, m1, m2, rfl, m3, m4⟩ := hq9
              have hq := hQ h6 m1 m2 m3 m4
              show RR _ _ _ _ _ _ [pI w.1] _ _
              refine R_if_lt (t := 147) dX12_does_140 rfl (fun c140 => ?_) (fun c140 => ?_)
              · exfalso; omega
              refine R_iconst dX12_does_143 (?_ : RR _ _ _ _ 144 _ _ _ _)
              refine R_goto (t := 148) dX12_does_144 rfl (?_ : RR _ _ _ _ 148 _ _ _ _)
              exact R_ireturn dX12_does_148 (by first | exact Or.inl rfl | exact Or.inr rfl | exact ok_ite | omega) hq
            · rw [if_neg y] at hQ
              refine R_aload_n dX12_does_0 rfl (?_ : RR _ _ _ _ 1 _ _ _ _)
              refine R_getr dX12_does_1 flX12_63 cok_12 rfl (by decide) (?_ : RR _ _ _ _ 4 _ _ _ _)
              refine R_iload_n dX12_does_4 rfl (?_ : RR _ _ _ _ 5 _ _ _ _)
              refine R_iald dX12_does_5 (fun q5 => (?_ : RR _ _ _ _ 6 _ _ _ _))
              rw [v1] at q5 ⊢
              refine R_tabIn (t := 120) (off := 114) dX12_does_6 (by omega) (by omega) rfl rfl (?_ : RR _ _ _ _ 120 _ _ _ _)
              refine R_aload_n dX12_does_120 rfl (?_ : RR _ _ _ _ 121 _ _ _ _)
              refine R_aload_n dX12_does_121 rfl (?_ : RR _ _ _ _ 122 _ _ _ _)
              refine R_getr dX12_does_122 flX12_33 cok_12 rfl (by decide) (?_ : RR _ _ _ _ 125 _ _ _ _)
              refine R_aload_n dX12_does_125 rfl (?_ : RR _ _ _ _ 126 _ _ _ _)
              refine R_getr dX12_does_126 flX12_66 cok_12 rfl (by decide) (?_ : RR _ _ _ _ 129 _ _ _ _)
              refine R_iload_n dX12_does_129 rfl (?_ : RR _ _ _ _ 130 _ _ _ _)
              refine R_iald dX12_does_130 (fun q130 => (?_ : RR _ _ _ _ 131 _ _ _ _))
              rw [v3] at q130 ⊢
              refine R_aload_n dX12_does_131 rfl (?_ : RR _ _ _ _ 132 _ _ _ _)
              refine R_getr dX12_does_132 flX12_69 cok_12 rfl (by decide) (?_ : RR _ _ _ _ 135 _ _ _ _)
              refine R_iload_n dX12_does_135 rfl (?_ : RR _ _ _ _ 136 _ _ _ _)
              refine R_iald dX12_does_136 (fun q136 => (?_ : RR _ _ _ _ 137 _ _ _ _))
              rw [v4] at q136 ⊢
              refine R_qV3 dX12_does_137 mvX12_walks mlX12_389 (by decide) (by decide) (Nat.le_of_ble_eq_true rfl) (Nat.le_of_ble_eq_true rfl) (hT) (fun r9 g9 hq9 => (?_ : RR _ _ _ _ 140 _ _ _ _))
              obtain ⟨h6, rfl, m1, m2, rfl, m3, m4⟩ := hq9
              have hq := hQ h6 m1 m2 m3 m4
              show RR _ _ _ _ _ _ [pI w.1] _ _
              refine R_if_lt (t := 147) dX12_does_140 rfl (fun c140 => ?_) (fun c140 => ?_)
              rotate_left
              · exfalso; omega
              refine R_iconst dX12_does_147 (?_ : RR _ _ _ _ 148 _ _ _ _)
              exact R_ireturn dX12_does_148 (by first | exact Or.inl rfl | exact Or.inr rfl | exact ok_ite | omega) hq
theorem T_X12_faultOf60 {a : Nat} {ok : Int} (hok : ok = 0 ∨ ok = 1) (ha : h 147 16 = a) (hb : h 147 17 = b) (hab : a ≤ b) (hb47 : b = min n 60) (hn80 : n ≤ 80) (r : Int) (hr : r = if ok = 1 ∧ a = n then 0 else -1 - (a : Int)) : MT mX12_faultOf 0 [pR 147, pI n, pI 60, pI ok] h (some (pI r)) h := by
  refine MT.of (fun Q hQ => (?_ : RR mX12_faultOf _ _ _ _ [pR 147, pI n, pI 60, pI ok, pU] _ _ _))
  rcases hok with z | z
  · subst z
    rw [if_neg (by omega)] at hr
    rw [hr] at hQ
    by_cases y : n > 60
    · by_cases u : a ≥ 60
      · rw [show (a : Int) = 60 by omega] at hQ
        refine R_iload_n dX12_faultOf_0 rfl (?_ : RR _ _ _ _ 1 _ _ _ _)
        refine R_if_eq (t := 19) dX12_faultOf_1 rfl (fun c1 => ?_) (fun c1 => ?_)
        rotate_left
        · exfalso; omega
        refine R_iconst dX12_faultOf_19 (?_ : RR _ _ _ _ 20 _ _ _ _)
        refine R_istore dX12_faultOf_20 (Nat.le_of_ble_eq_true rfl) (?_ : RR _ _ _ _ 22 [_, _, _, _, _] _ _ _)
        refine R_iload_n dX12_faultOf_22 rfl (?_ : RR _ _ _ _ 23 _ _ _ _)
        refine R_iload_n dX12_faultOf_23 rfl (?_ : RR _ _ _ _ 24 _ _ _ _)
        refine R_icmp_le (t := 44) dX12_faultOf_24 rfl (fun c24 => ?_) (fun c24 => ?_)
        · exfalso; omega
        refine R_iload dX12_faultOf_27 rfl (?_ : RR _ _ _ _ 29 _ _ _ _)
        refine R_if_ne (t := 40) dX12_faultOf_29 rfl (fun c29 => ?_) (fun c29 => ?_)
        · exfalso; omega
        refine R_aload_n dX12_faultOf_32 rfl (?_ : RR _ _ _ _ 33 _ _ _ _)
        refine R_geti (z := 16) dX12_faultOf_33 flX12_151 cok_12 rfl (by decide) rfl (fun q33 => (?_ : RR _ _ _ _ 36 _ _ _ _))
        rw [ha] at q33 ⊢
        refine R_iload_n dX12_faultOf_36 rfl (?_ : RR _ _ _ _ 37 _ _ _ _)
        refine R_icmp_lt (t := 44) dX12_faultOf_37 rfl (fun c37 => ?_) (fun c37 => ?_)
        · exfalso; omega
        refine R_iconst dX12_faultOf_40 (?_ : RR _ _ _ _ 41 _ _ _ _)
        refine R_iload_n dX12_faultOf_41 rfl (?_ : RR _ _ _ _ 42 _ _ _ _)
        refine R_isub dX12_faultOf_42 (?_ : RR _ _ _ _ 43 _ _ _ _)
        exact R_ireturn dX12_faultOf_43 trivial hQ
      · refine R_iload_n dX12_faultOf_0 rfl (?_ : RR _ _ _ _ 1 _ _ _ _)
        refine R_if_eq (t := 19) dX12_faultOf_1 rfl (fun c1 => ?_) (fun c1 => ?_)
        rotate_left
        · exfalso; omega
        refine R_iconst dX12_faultOf_19 (?_ : RR _ _ _ _ 20 _ _ _ _)
        refine R_istore dX12_faultOf_20 (Nat.le_of_ble_eq_true rfl) (?_ : RR _ _ _ _ 22 [_, _, _, _, _] _ _ _)
        refine R_iload_n dX12_faultOf_22 rfl (?_ : RR _ _ _ _ 23 _ _ _ _)
        refine R_iload_n dX12_faultOf_23 rfl (?_ : RR _ _ _ _ 24 _ _ _ _)
        refine R_icmp_le (t := 44) dX12_faultOf_24 rfl (fun c24 => ?_) (fun c24 => ?_)
        · exfalso; omega
        refine R_iload dX12_faultOf_27 rfl (?_ : RR _ _ _ _ 29 _ _ _ _)
        refine R_if_ne (t := 40) dX12_faultOf_29 rfl (fun c29 => ?_) (fun c29 => ?_)
        · exfalso; omega
        refine R_aload_n dX12_faultOf_32 rfl (?_ : RR _ _ _ _ 33 _ _ _ _)
        refine R_geti (z := 16) dX12_faultOf_33 flX12_151 cok_12 rfl (by decide) rfl (fun q33 => (?_ : RR _ _ _ _ 36 _ _ _ _))
        rw [ha] at q33 ⊢
        refine R_iload_n dX12_faultOf_36 rfl (?_ : RR _ _ _ _ 37 _ _ _ _)
        refine R_icmp_lt (t := 44) dX12_faultOf_37 rfl (fun c37 => ?_) (fun c37 => ?_)
        rotate_left
        · exfalso; omega
        refine R_iload dX12_faultOf_44 rfl (?_ : RR _ _ _ _ 46 _ _ _ _)
        refine R_if_eq (t := 53) dX12_faultOf_46 rfl (fun c46 => ?_) (fun c46 => ?_)
        rotate_left
        · exfalso; omega
        refine R_iconst dX12_faultOf_53 (?_ : RR _ _ _ _ 54 _ _ _ _)
        refine R_aload_n dX12_faultOf_54 rfl (?_ : RR _ _ _ _ 55 _ _ _ _)
        refine R_geti (z := 16) dX12_faultOf_55 flX12_151 cok_12 rfl (by decide) rfl (fun q55 => (?_ : RR _ _ _ _ 58 _ _ _ _))
        rw [ha] at q55 ⊢
        refine R_isub dX12_faultOf_58 (?_ : RR _ _ _ _ 59 _ _ _ _)
        exact R_ireturn dX12_faultOf_59 trivial hQ
    · refine R_iload_n dX12_faultOf_0 rfl (?_ : RR _ _ _ _ 1 _ _ _ _)
      refine R_if_eq (t := 19) dX12_faultOf_1 rfl (fun c1 => ?_) (fun c1 => ?_)
      rotate_left
      · exfalso; omega
      refine R_iconst dX12_faultOf_19 (?_ : RR _ _ _ _ 20 _ _ _ _)
      refine R_istore dX12_faultOf_20 (Nat.le_of_ble_eq_true rfl) (?_ : RR _ _ _ _ 22 [_, _, _, _, _] _ _ _)
      refine R_iload_n dX12_faultOf_22 rfl (?_ : RR _ _ _ _ 23 _ _ _ _)
      refine R_iload_n dX12_faultOf_23 rfl (?_ : RR _ _ _ _ 24 _ _ _ _)
      refine R_icmp_le (t := 44) dX12_faultOf_24 rfl (fun c24 => ?_) (fun c24 => ?_)
      rotate_left
      · exfalso; omega
      refine R_iload dX12_faultOf_44 rfl (?_ : RR _ _ _ _ 46 _ _ _ _)
      refine R_if_eq (t := 53) dX12_faultOf_46 rfl (fun c46 => ?_) (fun c46 => ?_)
      rotate_left
      · exfalso; omega
      refine R_iconst dX12_faultOf_53 (?_ : RR _ _ _ _ 54 _ _ _ _)
      refine R_aload_n dX12_faultOf_54 rfl (?_ : RR _ _ _ _ 55 _ _ _ _)
      refine R_geti (z := 16) dX12_faultOf_55 flX12_151 cok_12 rfl (by decide) rfl (fun q55 => (?_ : RR _ _ _ _ 58 _ _ _ _))
      rw [ha] at q55 ⊢
      refine R_isub dX12_faultOf_58 (?_ : RR _ _ _ _ 59 _ _ _ _)
      exact R_ireturn dX12_faultOf_59 trivial hQ
  · subst z
    by_cases y : n > 60
    · by_cases u : a = b
      · rw [if_neg (by omega)] at hr
        rw [hr, show (a : Int) = 60 by omega] at hQ
        refine R_iload_n dX12_faultOf_0 rfl (?_ : RR _ _ _ _ 1 _ _ _ _)
        refine R_if_eq (t := 19) dX12_faultOf_1 rfl (fun c1 => ?_) (fun c1 => ?_)
        · exfalso; omega
        refine R_aload_n dX12_faultOf_4 rfl (?_ : RR _ _ _ _ 5 _ _ _ _)
        refine R_geti (z := 16) dX12_faultOf_5 flX12_151 cok_12 rfl (by decide) rfl (fun q5 => (?_ : RR _ _ _ _ 8 _ _ _ _))
        rw [ha] at q5 ⊢
        refine R_aload_n dX12_faultOf_8 rfl (?_ : RR _ _ _ _ 9 _ _ _ _)
        refine R_geti (z := 17) dX12_faultOf_9 flX12_157 cok_12 rfl (by decide) rfl (fun q9 => (?_ : RR _ _ _ _ 12 _ _ _ _))
        rw [hb] at q9 ⊢
        refine R_icmp_ne (t := 19) dX12_faultOf_12 rfl (fun c12 => ?_) (fun c12 => ?_)
        · exfalso; omega
        refine R_iconst dX12_faultOf_15 (?_ : RR _ _ _ _ 16 _ _ _ _)
        refine R_goto (t := 20) dX12_faultOf_16 rfl (?_ : RR _ _ _ _ 20 _ _ _ _)
        refine R_istore dX12_faultOf_20 (Nat.le_of_ble_eq_true rfl) (?_ : RR _ _ _ _ 22 [_, _, _, _, _] _ _ _)
        refine R_iload_n dX12_faultOf_22 rfl (?_ : RR _ _ _ _ 23 _ _ _ _)
        refine R_iload_n dX12_faultOf_23 rfl (?_ : RR _ _ _ _ 24 _ _ _ _)
        refine R_icmp_le (t := 44) dX12_faultOf_24 rfl (fun c24 => ?_) (fun c24 => ?_)
        · exfalso; omega
        refine R_iload dX12_faultOf_27 rfl (?_ : RR _ _ _ _ 29 _ _ _ _)
        refine R_if_ne (t := 40) dX12_faultOf_29 rfl (fun c29 => ?_) (fun c29 => ?_)
        rotate_left
        · exfalso; omega
        refine R_iconst dX12_faultOf_40 (?_ : RR _ _ _ _ 41 _ _ _ _)
        refine R_iload_n dX12_faultOf_41 rfl (?_ : RR _ _ _ _ 42 _ _ _ _)
        refine R_isub dX12_faultOf_42 (?_ : RR _ _ _ _ 43 _ _ _ _)
        exact R_ireturn dX12_faultOf_43 trivial hQ
      · rw [if_neg (by omega)] at hr
        rw [hr] at hQ
        refine R_iload_n dX12_faultOf_0 rfl (?_ : RR _ _ _ _ 1 _ _ _ _)
        refine R_if_eq (t := 19) dX12_faultOf_1 rfl (fun c1 => ?_) (fun c1 => ?_)
        · exfalso; omega
        refine R_aload_n dX12_faultOf_4 rfl (?_ : RR _ _ _ _ 5 _ _ _ _)
        refine R_geti (z := 16) dX12_faultOf_5 flX12_151 cok_12 rfl (by decide) rfl (fun q5 => (?_ : RR _ _ _ _ 8 _ _ _ _))
        rw [ha] at q5 ⊢
        refine R_aload_n dX12_faultOf_8 rfl (?_ : RR _ _ _ _ 9 _ _ _ _)
        refine R_geti (z := 17) dX12_faultOf_9 flX12_157 cok_12 rfl (by decide) rfl (fun q9 => (?_ : RR _ _ _ _ 12 _ _ _ _))
        rw [hb] at q9 ⊢
        refine R_icmp_ne (t := 19) dX12_faultOf_12 rfl (fun c12 => ?_) (fun c12 => ?_)
        rotate_left
        · exfalso; omega
        refine R_iconst dX12_faultOf_19 (?_ : RR _ _ _ _ 20 _ _ _ _)
        refine R_istore dX12_faultOf_20 (Nat.le_of_ble_eq_true rfl) (?_ : RR _ _ _ _ 22 [_, _, _, _, _] _ _ _)
        refine R_iload_n dX12_faultOf_22 rfl (?_ : RR _ _ _ _ 23 _ _ _ _)
        refine R_iload_n dX12_faultOf_23 rfl (?_ : RR _ _ _ _ 24 _ _ _ _)
        refine R_icmp_le (t := 44) dX12_faultOf_24 rfl (fun c24 => ?_) (fun c24 => ?_)
        · exfalso; omega
        refine R_iload dX12_faultOf_27 rfl (?_ : RR _ _ _ _ 29 _ _ _ _)
        refine R_if_ne (t := 40) dX12_faultOf_29 rfl (fun c29 => ?_) (fun c29 => ?_)
        · exfalso; omega
        refine R_aload_n dX12_faultOf_32 rfl (?_ : RR _ _ _ _ 33 _ _ _ _)
        refine R_geti (z := 16) dX12_faultOf_33 flX12_151 cok_12 rfl (by decide) rfl (fun q33 => (?_ : RR _ _ _ _ 36 _ _ _ _))
        rw [ha] at q33 ⊢
        refine R_iload_n dX12_faultOf_36 rfl (?_ : RR _ _ _ _ 37 _ _ _ _)
        refine R_icmp_lt (t := 44) dX12_faultOf_37 rfl (fun c37 => ?_) (fun c37 => ?_)
        rotate_left
        · exfalso; omega
        refine R_iload dX12_faultOf_44 rfl (?_ : RR _ _ _ _ 46 _ _ _ _)
        refine R_if_eq (t := 53) dX12_faultOf_46 rfl (fun c46 => ?_) (fun c46 => ?_)
        rotate_left
        · exfalso; omega
        refine R_iconst dX12_faultOf_53 (?_ : RR _ _ _ _ 54 _ _ _ _)
        refine R_aload_n dX12_faultOf_54 rfl (?_ : RR _ _ _ _ 55 _ _ _ _)
        refine R_geti (z := 16) dX12_faultOf_55 flX12_151 cok_12 rfl (by decide) rfl (fun q55 => (?_ : RR _ _ _ _ 58 _ _ _ _))
        rw [ha] at q55 ⊢
        refine R_isub dX12_faultOf_58 (?_ : RR _ _ _ _ 59 _ _ _ _)
        exact R_ireturn dX12_faultOf_59 trivial hQ
    · by_cases u : a = b
      · rw [if_pos (by omega)] at hr
        rw [hr] at hQ
        refine R_iload_n dX12_faultOf_0 rfl (?_ : RR _ _ _ _ 1 _ _ _ _)
        refine R_if_eq (t := 19) dX12_faultOf_1 rfl (fun c1 => ?_) (fun c1 => ?_)
        · exfalso; omega
        refine R_aload_n dX12_faultOf_4 rfl (?_ : RR _ _ _ _ 5 _ _ _ _)
        refine R_geti (z := 16) dX12_faultOf_5 flX12_151 cok_12 rfl (by decide) rfl (fun q5 => (?_ : RR _ _ _ _ 8 _ _ _ _))
        rw [ha] at q5 ⊢
        refine R_aload_n dX12_faultOf_8 rfl (?_ : RR _ _ _ _ 9 _ _ _ _)
        refine R_geti (z := 17) dX12_faultOf_9 flX12_157 cok_12 rfl (by decide) rfl (fun q9 => (?_ : RR _ _ _ _ 12 _ _ _ _))
        rw [hb] at q9 ⊢
        refine R_icmp_ne (t := 19) dX12_faultOf_12 rfl (fun c12 => ?_) (fun c12 => ?_)
        · exfalso; omega
        refine R_iconst dX12_faultOf_15 (?_ : RR _ _ _ _ 16 _ _ _ _)
        refine R_goto (t := 20) dX12_faultOf_16 rfl (?_ : RR _ _ _ _ 20 _ _ _ _)
        refine R_istore dX12_faultOf_20 (Nat.le_of_ble_eq_true rfl) (?_ : RR _ _ _ _ 22 [_, _, _, _, _] _ _ _)
        refine R_iload_n dX12_faultOf_22 rfl (?_ : RR _ _ _ _ 23 _ _ _ _)
        refine R_iload_n dX12_faultOf_23 rfl (?_ : RR _ _ _ _ 24 _ _ _ _)
        refine R_icmp_le (t := 44) dX12_faultOf_24 rfl (fun c24 => ?_) (fun c24 => ?_)
        rotate_left
        · exfalso; omega
        refine R_iload dX12_faultOf_44 rfl (?_ : RR _ _ _ _ 46 _ _ _ _)
        refine R_if_eq (t := 53) dX12_faultOf_46 rfl (fun c46 => ?_) (fun c46 => ?_)
        · exfalso; omega
        refine R_iconst dX12_faultOf_49 (?_ : RR _ _ _ _ 50 _ _ _ _)
        refine R_goto (t := 59) dX12_faultOf_50 rfl (?_ : RR _ _ _ _ 59 _ _ _ _)
        exact R_ireturn dX12_faultOf_59 trivial hQ
      · rw [if_neg (by omega)] at hr
        rw [hr] at hQ
        refine R_iload_n dX12_faultOf_0 rfl (?_ : RR _ _ _ _ 1 _ _ _ _)
        refine R_if_eq (t := 19) dX12_faultOf_1 rfl (fun c1 => ?_) (fun c1 => ?_)
        · exfalso; omega
        refine R_aload_n dX12_faultOf_4 rfl (?_ : RR _ _ _ _ 5 _ _ _ _)
        refine R_geti (z := 16) dX12_faultOf_5 flX12_151 cok_12 rfl (by decide) rfl (fun q5 => (?_ : RR _ _ _ _ 8 _ _ _ _))
        rw [ha] at q5 ⊢
        refine R_aload_n dX12_faultOf_8 rfl (?_ : RR _ _ _ _ 9 _ _ _ _)
        refine R_geti (z := 17) dX12_faultOf_9 flX12_157 cok_12 rfl (by decide) rfl (fun q9 => (?_ : RR _ _ _ _ 12 _ _ _ _))
        rw [hb] at q9 ⊢
        refine R_icmp_ne (t := 19) dX12_faultOf_12 rfl (fun c12 => ?_) (fun c12 => ?_)
        rotate_left
        · exfalso; omega
        refine R_iconst dX12_faultOf_19 (?_ : RR _ _ _ _ 20 _ _ _ _)
        refine R_istore dX12_faultOf_20 (Nat.le_of_ble_eq_true rfl) (?_ : RR _ _ _ _ 22 [_, _, _, _, _] _ _ _)
        refine R_iload_n dX12_faultOf_22 rfl (?_ : RR _ _ _ _ 23 _ _ _ _)
        refine R_iload_n dX12_faultOf_23 rfl (?_ : RR _ _ _ _ 24 _ _ _ _)
        refine R_icmp_le (t := 44) dX12_faultOf_24 rfl (fun c24 => ?_) (fun c24 => ?_)
        rotate_left
        · exfalso; omega
        refine R_iload dX12_faultOf_44 rfl (?_ : RR _ _ _ _ 46 _ _ _ _)
        refine R_if_eq (t := 53) dX12_faultOf_46 rfl (fun c46 => ?_) (fun c46 => ?_)
        rotate_left
        · exfalso; omega
        refine R_iconst dX12_faultOf_53 (?_ : RR _ _ _ _ 54 _ _ _ _)
        refine R_aload_n dX12_faultOf_54 rfl (?_ : RR _ _ _ _ 55 _ _ _ _)
        refine R_geti (z := 16) dX12_faultOf_55 flX12_151 cok_12 rfl (by decide) rfl (fun q55 => (?_ : RR _ _ _ _ 58 _ _ _ _))
        rw [ha] at q55 ⊢
        refine R_isub dX12_faultOf_58 (?_ : RR _ _ _ _ 59 _ _ _ _)
        exact R_ireturn dX12_faultOf_59 trivial hQ
/-- reading a night -/
def nrd (h h1 : Nat → Int → Int) : Prop := (∀ a, a ≠ 147 → a ≠ 164 → a ≠ 165 → a ≠ 166 → h1 a = h a) ∧ (∀ j : Int, j ≠ 0 → j ≠ 15 → j ≠ 16 → j ≠ 17 → j ≠ 18 → j ≠ 34 → h1 147 j = h 147 j) ∧ h1 147 15 = 0
def nrV (σ : Int → Int) (k : Nat) (h1 : Nat → Int → Int) : Prop := ∀ j : Nat, j < k → raV σ (naR σ j).1 j h1
theorem MNI_19 {Q : Option PV → PH → Prop} {K : Nat} (hb60 : b ≤ 60) (hn80 : n ≤ 80) (hσ : ∀ p : Nat, p < b → h 156 p = σ p ∧ 0 ≤ σ p ∧ σ p ≤ 255) (hσn : ∀ p : Nat, b ≤ p → σ p = -1) (hK : K ≤ b) (g1 : ∀ j, j < K → (naR σ j).2 = true ∧ (naR σ j).1 < b) (g2 : (naR σ K).2 = false ∨ (naR σ K).1 = b) (g3 : (naR σ K).1 ≤ b)
    (K42 : ∀ h2, nrd h h2 → h2 147 16 = ((naR σ K).1 : Nat) → h2 147 17 = b → h2 147 34 = K → ((naR σ K).2 = true → nrV σ K h2) → RR mX12_night 10 0 0 42 [pR 147, pI n, pI (if (naR σ K).2 then 1 else 0), pU, pU, pU] [] (shp0, rf0, h2) Q) : ∀ (m k : Nat) (h1 : Nat → Int → Int), k + m = K → nrd h h1 → h1 147 16 = ((naR σ k).1 : Nat) → h1 147 17 = b → h1 147 34 = k → ((naR σ k).2 = true → nrV σ k h1) → RR mX12_night 10 0 0 19 [pR 147, pI n, pI (if (naR σ k).2 then 1 else 0), pU, pU, pU] [] (shp0, rf0, h1) Q := by
  intro m
  induction m with
  | zero =>
    intro k h1 hk f1 i1 t1 a1 v1
    obtain rfl : k = K := by omega
    have KK := K42 h1 f1 i1 t1 a1 v1
    clear K42 v1
    by_cases q : (naR σ k).2 = true
    · rw [if_pos q] at KK ⊢
      have e : (naR σ k).1 = b := by rcases g2 with z | z; (· rw [q] at z; cases z); (· exact z)
      rw [e] at i1
      refine R_iload_n dX12_night_19 rfl (?_ : RR _ _ _ _ 20 _ _ _ _)
      refine R_if_eq (t := 42) dX12_night_20 rfl (fun c20 => ?_) (fun c20 => ?_)
      · exfalso; omega
      refine R_aload_n dX12_night_23 rfl (?_ : RR _ _ _ _ 24 _ _ _ _)
      refine R_geti (z := 16) dX12_night_24 flX12_151 cok_12 rfl (by decide) rfl (fun q24 => (?_ : RR _ _ _ _ 27 _ _ _ _))
      rw [i1] at q24 ⊢
      refine R_aload_n dX12_night_27 rfl (?_ : RR _ _ _ _ 28 _ _ _ _)
      refine R_geti (z := 17) dX12_night_28 flX12_157 cok_12 rfl (by decide) rfl (fun q28 => (?_ : RR _ _ _ _ 31 _ _ _ _))
      rw [t1] at q28 ⊢
      refine R_icmp_ge (t := 42) dX12_night_31 rfl (fun c31 => ?_) (fun c31 => ?_)
      rotate_left
      · exfalso; omega
      exact KK
    · rw [if_neg q] at KK ⊢
      refine R_iload_n dX12_night_19 rfl (?_ : RR _ _ _ _ 20 _ _ _ _)
      refine R_if_eq (t := 42) dX12_night_20 rfl (fun c20 => ?_) (fun c20 => ?_)
      rotate_left
      · exfalso; omega
      exact KK
  | succ m ih =>
    intro k h1 hk f1 i1 t1 a1 v1
    obtain ⟨ok, lt⟩ := g1 k (by omega)
    have hT := M_readsAct (h := h1) (σ := σ) (k := k) (b := b) (by omega) i1 t1 a1 lt hb60 (fun p hp => by rw [f1.1 156 (by omega) (by omega) (by omega) (by omega)]; exact hσ p hp) hσn
    rw [show naE σ (naR σ k).1 = naR σ (k + 1) from rfl] at hT
    have IH := ih (k + 1)
    have KK : ∀ h2, raF h1 h2 k → h2 147 16 = ((naR σ (k + 1)).1 : Int) → h2 147 34 = (k : Int) + 1 → ((naR σ (k + 1)).2 = true → raV σ (naR σ k).1 k h2) → RR mX12_night 10 0 0 19 [pR 147, pI n, pI (if (naR σ (k + 1)).2 then 1 else 0), pU, pU, pU] [] (shp0, rf0, h2) Q := fun h2 r1 r2 r3 r4 => by
      refine IH h2 (by omega) ⟨fun a x1 x2 x3 x4 => by rw [r1.1 a x1 x2 x3 x4]; exact f1.1 a x1 x2 x3 x4, fun j x1 x2 x3 x4 x5 x6 => by rw [r1.2.1 j x3 x6]; exact f1.2.1 j x1 x2 x3 x4 x5 x6, by rw [r1.2.1 15 (by omega) (by omega)]; exact f1.2.2⟩ r2 (by rw [r1.2.1 17 (by omega) (by omega)]; exact t1) (by rw [r3]; omega) (fun ok2 j hj => ?_)
      by_cases z : j = k
      · rw [z]; exact r4 ok2
      · obtain ⟨y1, y2, y3, y4⟩ := v1 ok j (by omega)
        obtain ⟨z1, z2, z3⟩ := r1.2.2 (j : Int) (by omega)
        exact ⟨by rw [z1]; exact y1, fun w => by rw [z2]; exact y2 w, fun w => by rw [z2]; exact y3 w, fun w => by rw [z3]; exact y4 w⟩
    rw [if_pos ok]
    clear IH ih K42 v1 g1 g2 g3 f1
    generalize naR σ (k + 1) = x1 at *
    generalize naR σ k = x0 at *
    by_cases y : x1.2 = true
    · rw [if_pos y] at KK
      refine R_iload_n dX12_night_19 rfl (?_ : RR _ _ _ _ 20 _ _ _ _)
      refine R_if_eq (t := 42) dX12_night_20 rfl (fun c20 => ?_) (fun c20 => ?_)
      · exfalso; omega
      refine R_aload_n dX12_night_23 rfl (?_ : RR _ _ _ _ 24 _ _ _ _)
      refine R_geti (z := 16) dX12_night_24 flX12_151 cok_12 rfl (by decide) rfl (fun q24 => (?_ : RR _ _ _ _ 27 _ _ _ _))
      rw [i1] at q24 ⊢
      refine R_aload_n dX12_night_27 rfl (?_ : RR _ _ _ _ 28 _ _ _ _)
      refine R_geti (z := 17) dX12_night_28 flX12_157 cok_12 rfl (by decide) rfl (fun q28 => (?_ : RR _ _ _ _ 31 _ _ _ _))
      rw [t1] at q28 ⊢
      refine R_icmp_ge (t := 42) dX12_night_31 rfl (fun c31 => ?_) (fun c31 => ?_)
      · exfalso; omega
      refine R_aload_n dX12_night_34 rfl (?_ : RR _ _ _ _ 35 _ _ _ _)
      refine R_qV0 dX12_night_35 mvX12_readsAct mlX12_401 (by decide) (by decide) (Nat.le_of_ble_eq_true rfl) (Nat.le_of_ble_eq_true rfl) (hT) (fun r9 g9 hq9 => (?_ : RR _ _ _ _ 38 _ _ _ _))
      obtain ⟨rfl, h2, rfl, r1, r2, r3, r4⟩ := hq9
      rw [if_pos y]
      show RR _ _ _ _ _ _ [pI 1] _ _
      refine R_istore_n dX12_night_38 (Nat.le_of_ble_eq_true rfl) (?_ : RR _ _ _ _ 39 [_, _, _, _, _, _] _ _ _)
      refine R_goto (t := 19) dX12_night_39 rfl (?_ : RR _ _ _ _ 19 _ _ _ _)
      exact KK h2 r1 r2 r3 r4
    · rw [if_neg y] at KK
      refine R_iload_n dX12_night_19 rfl (?_ : RR _ _ _ _ 20 _ _ _ _)
      refine R_if_eq (t := 42) dX12_night_20 rfl (fun c20 => ?_) (fun c20 => ?_)
      · exfalso; omega
      refine R_aload_n dX12_night_23 rfl (?_ : RR _ _ _ _ 24 _ _ _ _)
      refine R_geti (z := 16) dX12_night_24 flX12_151 cok_12 rfl (by decide) rfl (fun q24 => (?_ : RR _ _ _ _ 27 _ _ _ _))
      rw [i1] at q24 ⊢
      refine R_aload_n dX12_night_27 rfl (?_ : RR _ _ _ _ 28 _ _ _ _)
      refine R_geti (z := 17) dX12_night_28 flX12_157 cok_12 rfl (by decide) rfl (fun q28 => (?_ : RR _ _ _ _ 31 _ _ _ _))
      rw [t1] at q28 ⊢
      refine R_icmp_ge (t := 42) dX12_night_31 rfl (fun c31 => ?_) (fun c31 => ?_)
      · exfalso; omega
      refine R_aload_n dX12_night_34 rfl (?_ : RR _ _ _ _ 35 _ _ _ _)
      refine R_qV0 dX12_night_35 mvX12_readsAct mlX12_401 (by decide) (by decide) (Nat.le_of_ble_eq_true rfl) (Nat.le_of_ble_eq_true rfl) (hT) (fun r9 g9 hq9 => (?_ : RR _ _ _ _ 38 _ _ _ _))
      obtain ⟨rfl, h2, rfl, r1, r2, r3, r4⟩ := hq9
      rw [if_neg y]
      show RR _ _ _ _ _ _ [pI 0] _ _
      refine R_istore_n dX12_night_38 (Nat.le_of_ble_eq_true rfl) (?_ : RR _ _ _ _ 39 [_, _, _, _, _, _] _ _ _)
      refine R_goto (t := 19) dX12_night_39 rfl (?_ : RR _ _ _ _ 19 _ _ _ _)
      exact KK h2 r1 r2 r3 r4
end NI6
