section AR
variable {k : Nat} {h h3 h4 : Nat → Int → Int} {sem : Sem} {H np nc len : Nat} {v : Int}
/-- is passenger p out behind j runs -/
def outK (X : Cx) (f : Int → Int) (p : Int) (j : Nat) : Prop := mS (xIt X 0 j f) p = -1
/-- the first run behind which it is out, of at most m -/
def fstO (X : Cx) (f : Int → Int) (p : Int) (m : Nat) (c : Int) (f' : Int → Int) : Prop := (∃ j : Nat, c = j ∧ j ≤ m ∧ outK X f p j ∧ (∀ i, i < j → ¬ outK X f p i) ∧ f' = xIt X 0 j f) ∨ (c = -1 ∧ ∀ i, i ≤ m → ¬ outK X f p i)
theorem xIt_add {X : Cx} {bh : Int} : ∀ (a b : Nat) (f : Int → Int), xIt X bh (a + b) f = xIt X bh b (xIt X bh a f)
  | 0, b, f => by rw [Nat.zero_add]; rfl
  | a + 1, b, f => by
    rw [show a + 1 + b = (a + b) + 1 by omega]
    exact xIt_add a b (xStep X bh f)
theorem C_runsTillOut {X : Cx} {m p : Nat} {f : Int → Int} (hX : xOK X H) (hC : CO X H h 3 24 29) (hc : Cpl X H h 24 f len) (hnow : f 1 ≤ 1000000000) (hm : m ≤ 60) (hp : p < xP X) (hu : h 29 4 = 0 ∨ h 29 4 = 1) (hun : h 29 4 = 0 → noN (xS X)) : RR mX11_runsTillOut 5 0 0 0 (pm_ent [pR 0, pI p, pI m] 7) [] (shp0, rf0, h) (fun r' g' => ∃ c h' f' len', r' = some (pI c) ∧ g' = (shp0, rf0, h') ∧ onF 24 29 h h' ∧ Cpl X H h' 24 f' len' ∧ fstO X f p m c f') := by
  have x12 := hX.2.2.1
  have t24 := isTr_24
  suffices hS : ∀ Q : Option PV → PH → Prop, (∀ c h' f' len', onF 24 29 h h' → Cpl X H h' 24 f' len' → fstO X f p m c f' → Q (some (pI c)) (shp0, rf0, h')) → RR mX11_runsTillOut 5 0 0 0 [pR 0, pI p, pI m, pU, pU, pU, pU] [] (shp0, rf0, h) Q from hS _ (fun c h' f' len' q1 q2 q3 => ⟨c, h', f', len', rfl, rfl, q1, q2, q3⟩)
  intro Q hQ
  -- the end: out or not
  have E : ∀ (i : Nat) (h1 : Nat → Int → Int) (len1 : Nat) (b w5 w6 : PV), onF 24 29 h h1 → Cpl X H h1 24 (xIt X 0 i f) len1 → i ≤ m → (∀ j, j < i → ¬ outK X f p j) → (¬ outK X f p i → ∀ j, j ≤ m → ¬ outK X f p j) → RR mX11_runsTillOut 5 0 0 90 [pR 0, pI p, pI m, pI i, b, w5, w6] [] (shp0, rf0, h1) Q := by
    intro i h1 len1 b w5 w6 hf1 hc1 hi hno hall
    have hse := hc1.2.2.2.2.2.2.2 p hp
    by_cases q : mS (xIt X 0 i f) p = -1
    · have hq := hQ i h1 _ len1 hf1 hc1 (Or.inl ⟨i, rfl, hi, q, hno, rfl⟩)
      refine R_aload_n dX11_runsTillOut_90 rfl (?_ : RR _ _ _ _ 91 _ _ _ _)
      refine R_getr dX11_runsTillOut_91 flX11_43 cok_11 rfl (by decide) (?_ : RR _ _ _ _ 94 _ _ _ _)
      refine R_getr dX11_runsTillOut_94 flX11_205 cok_9 rfl (by decide) (?_ : RR _ _ _ _ 97 _ _ _ _)
      refine R_iload_n dX11_runsTillOut_97 rfl (?_ : RR _ _ _ _ 98 _ _ _ _)
      refine R_iald dX11_runsTillOut_98 (fun q98 => (?_ : RR _ _ _ _ 99 _ _ _ _))
      rw [hse] at q98 ⊢
      refine R_iconst dX11_runsTillOut_99 (?_ : RR _ _ _ _ 100 _ _ _ _)
      refine R_icmp_ne (t := 107) dX11_runsTillOut_100 rfl (fun c100 => ?_) (fun c100 => ?_)
      · exfalso; omega
      refine R_iload_n dX11_runsTillOut_103 rfl (?_ : RR _ _ _ _ 104 _ _ _ _)
      refine R_goto (t := 108) dX11_runsTillOut_104 rfl (?_ : RR _ _ _ _ 108 _ _ _ _)
      exact R_ireturn dX11_runsTillOut_108 trivial hq
    · have hq := hQ (-1) h1 _ len1 hf1 hc1 (Or.inr ⟨rfl, hall q⟩)
      refine R_aload_n dX11_runsTillOut_90 rfl (?_ : RR _ _ _ _ 91 _ _ _ _)
      refine R_getr dX11_runsTillOut_91 flX11_43 cok_11 rfl (by decide) (?_ : RR _ _ _ _ 94 _ _ _ _)
      refine R_getr dX11_runsTillOut_94 flX11_205 cok_9 rfl (by decide) (?_ : RR _ _ _ _ 97 _ _ _ _)
      refine R_iload_n dX11_runsTillOut_97 rfl (?_ : RR _ _ _ _ 98 _ _ _ _)
      refine R_iald dX11_runsTillOut_98 (fun q98 => (?_ : RR _ _ _ _ 99 _ _ _ _))
      rw [hse] at q98 ⊢
      refine R_iconst dX11_runsTillOut_99 (?_ : RR _ _ _ _ 100 _ _ _ _)
      refine R_icmp_ne (t := 107) dX11_runsTillOut_100 rfl (fun c100 => ?_) (fun c100 => ?_)
      rotate_left
      · exfalso; omega
      refine R_iconst dX11_runsTillOut_107 (?_ : RR _ _ _ _ 108 _ _ _ _)
      exact R_ireturn dX11_runsTillOut_108 trivial hq
  have L : ∀ (j i : Nat) (h1 : Nat → Int → Int) (len1 : Nat) (w6 : PV), i + j = m → onF 24 29 h h1 → Cpl X H h1 24 (xIt X 0 i f) len1 → (∀ j, j < i → ¬ outK X f p j) → RR mX11_runsTillOut 5 0 0 8 [pR 0, pI p, pI m, pI i, pI 1, pI i, w6] [] (shp0, rf0, h1) Q := by
    intro j
    induction j with
    | zero =>
      intro i h1 len1 w6 hi hf1 hc1 hno
      obtain rfl : i = m := by omega
      refine R_iload dX11_runsTillOut_8 rfl (?_ : RR _ _ _ _ 10 _ _ _ _)
      refine R_iload_n dX11_runsTillOut_10 rfl (?_ : RR _ _ _ _ 11 _ _ _ _)
      refine R_icmp_ge (t := 90) dX11_runsTillOut_11 rfl (fun c11 => ?_) (fun c11 => ?_)
      rotate_left
      · exfalso; omega
      exact E i h1 len1 _ _ _ hf1 hc1 (by omega) hno (fun q a ha => by
        by_cases z : a = i
        · rw [z]; exact q
        · exact hno a (by omega))
    | succ j ih =>
      intro i h1 len1 w6 hi hf1 hc1 hno
      have hse := hc1.2.2.2.2.2.2.2 p hp
      have hok : okF X H f := okF_c hc
      have hn1 := xIt_1 (bh := 0) hX i f hok
      have hu1 : h1 29 = h 29 := hf1 29 (by omega) (by omega) (by omega) (by omega) (by omega) (by omega) (by omega)
      by_cases q : mS (xIt X 0 i f) p = -1
      · refine R_iload dX11_runsTillOut_8 rfl (?_ : RR _ _ _ _ 10 _ _ _ _)
        refine R_iload_n dX11_runsTillOut_10 rfl (?_ : RR _ _ _ _ 11 _ _ _ _)
        refine R_icmp_ge (t := 90) dX11_runsTillOut_11 rfl (fun c11 => ?_) (fun c11 => ?_)
        · exfalso; omega
        refine R_iload dX11_runsTillOut_14 rfl (?_ : RR _ _ _ _ 16 _ _ _ _)
        refine R_if_eq (t := 90) dX11_runsTillOut_16 rfl (fun c16 => ?_) (fun c16 => ?_)
        · exfalso; omega
        refine R_aload_n dX11_runsTillOut_19 rfl (?_ : RR _ _ _ _ 20 _ _ _ _)
        refine R_getr dX11_runsTillOut_20 flX11_43 cok_11 rfl (by decide) (?_ : RR _ _ _ _ 23 _ _ _ _)
        refine R_getr dX11_runsTillOut_23 flX11_205 cok_9 rfl (by decide) (?_ : RR _ _ _ _ 26 _ _ _ _)
        refine R_iload_n dX11_runsTillOut_26 rfl (?_ : RR _ _ _ _ 27 _ _ _ _)
        refine R_iald dX11_runsTillOut_27 (fun q27 => (?_ : RR _ _ _ _ 28 _ _ _ _))
        rw [hse] at q27 ⊢
        refine R_iconst dX11_runsTillOut_28 (?_ : RR _ _ _ _ 29 _ _ _ _)
        refine R_icmp_eq (t := 90) dX11_runsTillOut_29 rfl (fun c29 => ?_) (fun c29 => ?_)
        rotate_left
        · exfalso; omega
        exact E i h1 len1 _ _ _ hf1 hc1 (by omega) hno (fun z => absurd q z)
      · have K : ∀ (h2 : Nat → Int → Int) (len2 : Nat) (z : Int), onF 24 29 h h2 → Cpl X H h2 24 (xIt X 0 (i + 1) f) len2 → z = (aRu X (xIt X 0 i f)).1 → RR mX11_runsTillOut 5 0 0 56 [pR 0, pI p, pI m, pI i, pI 1, pI i, w6] [pI z] (shp0, rf0, h2) Q := by
          intro h2 len2 z hf2 hc2 hz
          have hno2 : ∀ j, j < i + 1 → ¬ outK X f p j := fun a ha => by
            by_cases y : a = i
            · rw [y]; exact q
            · exact hno a (by omega)
          have hu2 : h2 29 = h 29 := hf2 29 (by omega) (by omega) (by omega) (by omega) (by omega) (by omega) (by omega)
          have hse2 := hc2.2.2.2.2.2.2.2 p hp
          have hcb := xCrs_b (X := X) (f := xIt X 0 i f) (bh := 0)
          have hzb : 0 ≤ z ∧ z ≤ 2 := by
            rw [hz]
            unfold aRu
            show 0 ≤ (if _ then xCrs X (xIt X 0 i f) 0 else 2) ∧ (if _ then xCrs X (xIt X 0 i f) 0 else 2) ≤ 2
            split <;> omega
          have IH := fun w6 => ih (i + 1) h2 len2 w6 (by omega) hf2 hc2 hno2
          by_cases hst : z = 2 ∧ h 29 4 = 0
          · have hno' := hun hst.2
            have hns : ¬ (xCrs X (xIt X 0 i f) 0 ≠ 2 ∧ 0 ≤ xE X (2 * xIt X 0 i f 0 + xCrs X (xIt X 0 i f) 0)) := fun y => by
              unfold aRu at hz
              rw [if_pos y] at hz
              exact y.1 (hz.symm.trans hst.1)
            have hstay : ∀ a : Nat, mS (xIt X 0 (i + a) f) p = mS (xIt X 0 i f) p := fun a => by
              rw [xIt_add, xIt_stay hno' hX a _ hc1.1 hns, fup_mS (by omega)]
            have hall : ∀ a, a ≤ m → ¬ outK X f p a := fun a ha => by
              by_cases y : a < i
              · exact hno a y
              · unfold outK
                rw [show a = i + (a - i) by omega, hstay]
                exact q
            have K8 : ∀ w6 : PV, RR mX11_runsTillOut 5 0 0 8 [pR 0, pI p, pI m, pI ((i : Int) + 1), pI 0, pI ((i : Int) + 1), w6] [] (shp0, rf0, h2) Q := by
              intro w6
              have E1 := fun b w5 w6 => E (i + 1) h2 len2 b w5 w6 hf2 hc2 (by omega) hno2 (fun _ => hall)
              by_cases ye : i + 1 < m
              · refine R_iload dX11_runsTillOut_8 rfl (?_ : RR _ _ _ _ 10 _ _ _ _)
                refine R_iload_n dX11_runsTillOut_10 rfl (?_ : RR _ _ _ _ 11 _ _ _ _)
                refine R_icmp_ge (t := 90) dX11_runsTillOut_11 rfl (fun c11 => ?_) (fun c11 => ?_)
                · exfalso; omega
                refine R_iload dX11_runsTillOut_14 rfl (?_ : RR _ _ _ _ 16 _ _ _ _)
                refine R_if_eq (t := 90) dX11_runsTillOut_16 rfl (fun c16 => ?_) (fun c16 => ?_)
                rotate_left
                · exfalso; omega
                exact E1 _ _ _
              · refine R_iload dX11_runsTillOut_8 rfl (?_ : RR _ _ _ _ 10 _ _ _ _)
                refine R_iload_n dX11_runsTillOut_10 rfl (?_ : RR _ _ _ _ 11 _ _ _ _)
                refine R_icmp_ge (t := 90) dX11_runsTillOut_11 rfl (fun c11 => ?_) (fun c11 => ?_)
                rotate_left
                · exfalso; omega
                exact E1 _ _ _
            refine R_istore dX11_runsTillOut_56 (Nat.le_of_ble_eq_true rfl) (?_ : RR _ _ _ _ 58 [_, _, _, _, _, _, _] _ _ _)
            refine R_iload dX11_runsTillOut_58 rfl (?_ : RR _ _ _ _ 60 _ _ _ _)
            refine R_iconst dX11_runsTillOut_60 (?_ : RR _ _ _ _ 61 _ _ _ _)
            refine R_icmp_ne (t := 74) dX11_runsTillOut_61 rfl (fun c61 => ?_) (fun c61 => ?_)
            · exfalso; omega
            refine R_aload_n dX11_runsTillOut_64 rfl (?_ : RR _ _ _ _ 65 _ _ _ _)
            refine R_getr dX11_runsTillOut_65 flX11_49 cok_11 rfl (by decide) (?_ : RR _ _ _ _ 68 _ _ _ _)
            refine R_geti (z := 4) dX11_runsTillOut_68 flX11_469 cok_4 rfl (by decide) rfl (fun q68 => (?_ : RR _ _ _ _ 71 _ _ _ _))
            rw [hu2] at q68 ⊢
            refine R_if_eq (t := 78) dX11_runsTillOut_71 rfl (fun c71 => ?_) (fun c71 => ?_)
            rotate_left
            · exfalso; omega
            refine R_iconst dX11_runsTillOut_78 (?_ : RR _ _ _ _ 79 _ _ _ _)
            refine R_istore dX11_runsTillOut_79 (Nat.le_of_ble_eq_true rfl) (?_ : RR _ _ _ _ 81 [_, _, _, _, _, _, _] _ _ _)
            refine R_iinc dX11_runsTillOut_81 rfl (Nat.le_of_ble_eq_true rfl) (?_ : RR _ _ _ _ 84 [_, _, _, _, _, _, _] _ _ _)
            refine R_iinc dX11_runsTillOut_84 rfl (Nat.le_of_ble_eq_true rfl) (?_ : RR _ _ _ _ 87 [_, _, _, _, _, _, _] _ _ _)
            refine R_goto (t := 8) dX11_runsTillOut_87 rfl (?_ : RR _ _ _ _ 8 _ _ _ _)
            exact K8 _
          · by_cases hz2 : z = 2
            · refine R_istore dX11_runsTillOut_56 (Nat.le_of_ble_eq_true rfl) (?_ : RR _ _ _ _ 58 [_, _, _, _, _, _, _] _ _ _)
              refine R_iload dX11_runsTillOut_58 rfl (?_ : RR _ _ _ _ 60 _ _ _ _)
              refine R_iconst dX11_runsTillOut_60 (?_ : RR _ _ _ _ 61 _ _ _ _)
              refine R_icmp_ne (t := 74) dX11_runsTillOut_61 rfl (fun c61 => ?_) (fun c61 => ?_)
              · exfalso; omega
              refine R_aload_n dX11_runsTillOut_64 rfl (?_ : RR _ _ _ _ 65 _ _ _ _)
              refine R_getr dX11_runsTillOut_65 flX11_49 cok_11 rfl (by decide) (?_ : RR _ _ _ _ 68 _ _ _ _)
              refine R_geti (z := 4) dX11_runsTillOut_68 flX11_469 cok_4 rfl (by decide) rfl (fun q68 => (?_ : RR _ _ _ _ 71 _ _ _ _))
              rw [hu2] at q68 ⊢
              refine R_if_eq (t := 78) dX11_runsTillOut_71 rfl (fun c71 => ?_) (fun c71 => ?_)
              · exfalso; omega
              refine R_iconst dX11_runsTillOut_74 (?_ : RR _ _ _ _ 75 _ _ _ _)
              refine R_goto (t := 79) dX11_runsTillOut_75 rfl (?_ : RR _ _ _ _ 79 _ _ _ _)
              refine R_istore dX11_runsTillOut_79 (Nat.le_of_ble_eq_true rfl) (?_ : RR _ _ _ _ 81 [_, _, _, _, _, _, _] _ _ _)
              refine R_iinc dX11_runsTillOut_81 rfl (Nat.le_of_ble_eq_true rfl) (?_ : RR _ _ _ _ 84 [_, _, _, _, _, _, _] _ _ _)
              refine R_iinc dX11_runsTillOut_84 rfl (Nat.le_of_ble_eq_true rfl) (?_ : RR _ _ _ _ 87 [_, _, _, _, _, _, _] _ _ _)
              refine R_goto (t := 8) dX11_runsTillOut_87 rfl (?_ : RR _ _ _ _ 8 _ _ _ _)
              exact IH _
            · refine R_istore dX11_runsTillOut_56 (Nat.le_of_ble_eq_true rfl) (?_ : RR _ _ _ _ 58 [_, _, _, _, _, _, _] _ _ _)
              refine R_iload dX11_runsTillOut_58 rfl (?_ : RR _ _ _ _ 60 _ _ _ _)
              refine R_iconst dX11_runsTillOut_60 (?_ : RR _ _ _ _ 61 _ _ _ _)
              refine R_icmp_ne (t := 74) dX11_runsTillOut_61 rfl (fun c61 => ?_) (fun c61 => ?_)
              rotate_left
              · exfalso; omega
              refine R_iconst dX11_runsTillOut_74 (?_ : RR _ _ _ _ 75 _ _ _ _)
              refine R_goto (t := 79) dX11_runsTillOut_75 rfl (?_ : RR _ _ _ _ 79 _ _ _ _)
              refine R_istore dX11_runsTillOut_79 (Nat.le_of_ble_eq_true rfl) (?_ : RR _ _ _ _ 81 [_, _, _, _, _, _, _] _ _ _)
              refine R_iinc dX11_runsTillOut_81 rfl (Nat.le_of_ble_eq_true rfl) (?_ : RR _ _ _ _ 84 [_, _, _, _, _, _, _] _ _ _)
              refine R_iinc dX11_runsTillOut_84 rfl (Nat.le_of_ble_eq_true rfl) (?_ : RR _ _ _ _ 87 [_, _, _, _, _, _, _] _ _ _)
              refine R_goto (t := 8) dX11_runsTillOut_87 rfl (?_ : RR _ _ _ _ 8 _ _ _ _)
              exact IH _
        refine R_iload dX11_runsTillOut_8 rfl (?_ : RR _ _ _ _ 10 _ _ _ _)
        refine R_iload_n dX11_runsTillOut_10 rfl (?_ : RR _ _ _ _ 11 _ _ _ _)
        refine R_icmp_ge (t := 90) dX11_runsTillOut_11 rfl (fun c11 => ?_) (fun c11 => ?_)
        · exfalso; omega
        refine R_iload dX11_runsTillOut_14 rfl (?_ : RR _ _ _ _ 16 _ _ _ _)
        refine R_if_eq (t := 90) dX11_runsTillOut_16 rfl (fun c16 => ?_) (fun c16 => ?_)
        · exfalso; omega
        refine R_aload_n dX11_runsTillOut_19 rfl (?_ : RR _ _ _ _ 20 _ _ _ _)
        refine R_getr dX11_runsTillOut_20 flX11_43 cok_11 rfl (by decide) (?_ : RR _ _ _ _ 23 _ _ _ _)
        refine R_getr dX11_runsTillOut_23 flX11_205 cok_9 rfl (by decide) (?_ : RR _ _ _ _ 26 _ _ _ _)
        refine R_iload_n dX11_runsTillOut_26 rfl (?_ : RR _ _ _ _ 27 _ _ _ _)
        refine R_iald dX11_runsTillOut_27 (fun q27 => (?_ : RR _ _ _ _ 28 _ _ _ _))
        rw [hse] at q27 ⊢
        refine R_iconst dX11_runsTillOut_28 (?_ : RR _ _ _ _ 29 _ _ _ _)
        refine R_icmp_eq (t := 90) dX11_runsTillOut_29 rfl (fun c29 => ?_) (fun c29 => ?_)
        · exfalso; omega
        refine R_aload_n dX11_runsTillOut_32 rfl (?_ : RR _ _ _ _ 33 _ _ _ _)
        refine R_getr dX11_runsTillOut_33 flX11_59 cok_11 rfl (by decide) (?_ : RR _ _ _ _ 36 _ _ _ _)
        refine R_aload_n dX11_runsTillOut_36 rfl (?_ : RR _ _ _ _ 37 _ _ _ _)
        refine R_getr dX11_runsTillOut_37 flX11_19 cok_11 rfl (by decide) (?_ : RR _ _ _ _ 40 _ _ _ _)
        refine R_aload_n dX11_runsTillOut_40 rfl (?_ : RR _ _ _ _ 41 _ _ _ _)
        refine R_getr dX11_runsTillOut_41 flX11_43 cok_11 rfl (by decide) (?_ : RR _ _ _ _ 44 _ _ _ _)
        refine R_aload_n dX11_runsTillOut_44 rfl (?_ : RR _ _ _ _ 45 _ _ _ _)
        refine R_getr dX11_runsTillOut_45 flX11_29 cok_11 rfl (by decide) (?_ : RR _ _ _ _ 48 _ _ _ _)
        refine R_aload_n dX11_runsTillOut_48 rfl (?_ : RR _ _ _ _ 49 _ _ _ _)
        refine R_getr dX11_runsTillOut_49 flX11_49 cok_11 rfl (by decide) (?_ : RR _ _ _ _ 52 _ _ _ _)
        refine R_iconst dX11_runsTillOut_52 (?_ : RR _ _ _ _ 53 _ _ _ _)
        refine R_qV5 dX11_runsTillOut_53 mvX5_once mlX11_297 (by decide) (by decide) (Nat.le_of_ble_eq_true rfl) (Nat.le_of_ble_eq_true rfl) (C_once hX (CO_fr hC hf1) hc1 (by omega) (Or.inl rfl)) (fun r9 g9 hq9 => (?_ : RR _ _ _ _ 56 _ _ _ _))
        obtain ⟨h2, len2, rfl, hf2, hc2, ht2⟩ := hq9
        obtain ⟨z, hz⟩ : ∃ z, z = (aRu X (xIt X 0 i f)).1 := ⟨_, rfl⟩
        obtain rfl : r9 = some (pI z) := by rw [hz]; exact ht2.2.1
        show RR _ _ _ _ _ _ [pI z] _ _
        exact K h2 len2 z (onF_tr hf1 hf2) (by rw [xIt_s]; exact hc2) hz
  refine R_iconst dX11_runsTillOut_0 (?_ : RR _ _ _ _ 1 _ _ _ _)
  refine R_istore_n dX11_runsTillOut_1 (Nat.le_of_ble_eq_true rfl) (?_ : RR _ _ _ _ 2 [_, _, _, _, _, _, _] _ _ _)
  refine R_iconst dX11_runsTillOut_2 (?_ : RR _ _ _ _ 3 _ _ _ _)
  refine R_istore dX11_runsTillOut_3 (Nat.le_of_ble_eq_true rfl) (?_ : RR _ _ _ _ 5 [_, _, _, _, _, _, _] _ _ _)
  refine R_iconst dX11_runsTillOut_5 (?_ : RR _ _ _ _ 6 _ _ _ _)
  refine R_istore dX11_runsTillOut_6 (Nat.le_of_ble_eq_true rfl) (?_ : RR _ _ _ _ 8 [_, _, _, _, _, _, _] _ _ _)
  exact L m 0 h len _ (by omega) onF_rf hc (fun j hj => by omega)
end AR
