section OG
variable {X : Cx} {H : Nat} {h : Nat → Int → Int} {n t r : Nat} {f : Int → Int} {len : Nat} {bh : Int}
theorem C_often {m : Nat} (hX : xOK X H) (hC : CO X H h n t r) (hc : Cpl X H h t f len) (hnow : f 1 ≤ 1000000000) (hbh : bh = 0 ∨ bh = 1) (hm : m ≤ 60) (hun : h r 4 = 0 → noN (xS X)) : RR mX5_often 5 0 0 0 (pm_ent [pR 35, pI m, pR n, pR t, pR 11, pR r, pI bh] 9) [] (shp0, rf0, h) (fun r' g' => r' = none ∧ ∃ h' len', g' = (shp0, rf0, h') ∧ onF t r h h' ∧ Cpl X H h' t (xIt X bh m f) len') := by
  obtain ⟨c1, c2, c3, c4, c5, c6, ⟨t1, t2, t3⟩, c8, c9, c10, c11⟩ := id hC
  obtain ⟨u0, u1, u2, u3, u4, u5, u6, u7, u8⟩ := id t1
  obtain ⟨v0, v1, v2, v3, v4⟩ := id t3
  suffices hSS : ∀ Q : Option PV → PH → Prop, (∀ h' len', onF t r h h' → Cpl X H h' t (xIt X bh m f) len' → Q none (shp0, rf0, h')) → RR mX5_often 5 0 0 0 [pR 35, pI m, pR n, pR t, pR 11, pR r, pI bh, pU, pU] [] (shp0, rf0, h) Q from hSS _ (fun h' len' q1 q2 => ⟨rfl, h', len', rfl, q1, q2⟩)
  intro Q hQ
  have L : ∀ (k i : Nat) (h1 : Nat → Int → Int) (f1 : Int → Int) (len1 : Nat) (w : PV), i + k = m + 1 → 1 ≤ i → onF t r h h1 → Cpl X H h1 t f1 len1 → xIt X bh k f1 = xIt X bh m f → f1 1 ≤ 1000000000 + 9 * i → RR mX5_often 5 0 0 3 [pR 35, pI m, pR n, pR t, pR 11, pR r, pI bh, pI i, w] [] (shp0, rf0, h1) Q := by
    intro k
    induction k with
    | zero =>
      intro i h1 f1 len1 w hi hi1 hf1 hc1 hx hb
      have hq := hQ h1 len1 hf1 (by rw [← hx]; exact hc1)
      refine R_iload dX5_often_3 rfl (?_ : RR _ _ _ _ 5 _ _ _ _)
      refine R_iload_n dX5_often_5 rfl (?_ : RR _ _ _ _ 6 _ _ _ _)
      refine R_icmp_gt (t := 57) dX5_often_6 rfl (fun c6 => ?_) (fun c6 => ?_)
      rotate_left
      · exfalso; omega
      exact R_return dX5_often_57 trivial hq
    | succ k ih =>
      intro i h1 f1 len1 w hi hi1 hf1 hc1 hx hb
      have hs1 := xStep_1 (bh := bh) hX hc1.1
      have hgood := hc1.1
      have er : h1 r = h r := hf1 r (by omega) (by omega) (by omega) (by omega) (by omega) (by omega) (by omega)
      have K : ∀ (h2 : Nat → Int → Int) (len2 : Nat) (z : Int), onF t r h1 h2 → Cpl X H h2 t (xStep X bh f1) len2 → z = (if xCrs X f1 bh ≠ 2 ∧ 0 ≤ xE X (2 * f1 0 + xCrs X f1 bh) then xCrs X f1 bh else 2) → RR mX5_often 5 0 0 21 [pR 35, pI m, pR n, pR t, pR 11, pR r, pI bh, pI i, w] [pI z] (shp0, rf0, h2) Q := by
        intro h2 len2 z hf2 hc2 hz
        have hcb := xCrs_b (X := X) (f := f1) (bh := bh)
        have hzb : 0 ≤ z ∧ z ≤ 2 := by rw [hz]; split <;> omega
        have er2 : h2 r = h r := (hf2 r (by omega) (by omega) (by omega) (by omega) (by omega) (by omega) (by omega)).trans er
        have en2 := hc2.2.2.1
        have hln2 := hc2.1
        have IH := fun w => ih (i + 1) h2 (xStep X bh f1) len2 w (by omega) (by omega) (onF_tr hf1 hf2) hc2 hx (by omega)
        by_cases hst : z = 2 ∧ h r 4 = 0
        · have hno := hun hst.2
          have hns : ¬ (xCrs X f1 bh ≠ 2 ∧ 0 ≤ xE X (2 * f1 0 + xCrs X f1 bh)) := fun q => by
            rw [if_pos q] at hz
            exact q.1 (hz.symm.trans hst.1)
          have e1 : xStep X bh f1 = fup f1 1 (f1 1 + 1) := by
            unfold xStep xRun
            rw [if_neg hns]
          have e2 : xIt X bh m f = fup (xStep X bh f1) 1 (h2 t 1 + (m - i)) := by
            rw [← hx, xIt_stay hno hX (k + 1) f1 hgood hns, e1, fup_fup, en2, e1, fup_s]
            congr 1
            omega
          have hf1' := hgood.2.1
          have hq := hQ (rup h2 t (fup (h2 t) 1 (h2 t 1 + (m - i)))) len2 (fun a a1 a2 a3 a4 a5 a6 a7 => by rw [rup_n a1]; exact (onF_tr hf1 hf2) a a1 a2 a3 a4 a5 a6 a7) (by
            rw [e2]
            obtain ⟨d1, d2, d3, d4, d5, d6, d7, d8⟩ := id hc2
            refine ⟨by rw [rup_n (by omega)]; exact fOK_stay d1 (by rw [d3, e1, fup_s]; omega), ?_, ?_, ?_, ?_, fun c hcc => ?_, fun c hcc hm => ?_, fun p hp => ?_⟩
            · rw [rup_s, fup_n (by omega), fup_n (by omega)]; exact d2
            · rw [rup_s, fup_s, fup_s]
            · rw [rup_s, fup_n (by omega)]; exact d4
            · rw [rup_s, fup_n (by omega)]; exact d5
            · rw [rup_n (by omega), fup_mP (by omega)]; exact d6 c hcc
            · rw [fup_mP (by omega)] at hm
              rw [rup_n (by omega), fup_mA (by omega)]; exact d7 c hcc hm
            · rw [rup_n (by omega), fup_mS (by omega)]; exact d8 p hp)
          have hn1 : h2 t 1 = f1 1 + 1 := by rw [en2, e1, fup_s]
          refine R_istore dX5_often_21 (Nat.le_of_ble_eq_true rfl) (?_ : RR _ _ _ _ 23 [_, _, _, _, _, _, _, _, _] _ _ _)
          refine R_iload dX5_often_23 rfl (?_ : RR _ _ _ _ 25 _ _ _ _)
          refine R_iconst dX5_often_25 (?_ : RR _ _ _ _ 26 _ _ _ _)
          refine R_icmp_ne (t := 51) dX5_often_26 rfl (fun c26 => ?_) (fun c26 => ?_)
          · first | (exfalso; omega) | (rw [er2] at *; exfalso; omega)
          refine R_aload dX5_often_29 rfl (?_ : RR _ _ _ _ 31 _ _ _ _)
          refine R_geti (z := 4) dX5_often_31 flX5_72 cok_4 rfl (by decide) rfl (fun q31 => (?_ : RR _ _ _ _ 34 _ _ _ _))
          rw [er2] at q31 ⊢
          refine R_if_ne (t := 51) dX5_often_34 rfl (fun c34 => ?_) (fun c34 => ?_)
          · first | (exfalso; omega) | (rw [er2] at *; exfalso; omega)
          refine R_aload_n dX5_often_37 rfl (?_ : RR _ _ _ _ 38 _ _ _ _)
          refine R_dup dX5_often_38 (fun _ => rfl) (?_ : RR _ _ _ _ 39 _ _ _ _)
          refine R_geti (z := 1) dX5_often_39 flX5_51 cok_9 rfl (by decide) rfl (fun q39 => (?_ : RR _ _ _ _ 42 _ _ _ _))
          refine R_iload_n dX5_often_42 rfl (?_ : RR _ _ _ _ 43 _ _ _ _)
          refine R_iload dX5_often_43 rfl (?_ : RR _ _ _ _ 45 _ _ _ _)
          refine R_isub dX5_often_45 (?_ : RR _ _ _ _ 46 _ _ _ _)
          refine R_iadd dX5_often_46 (?_ : RR _ _ _ _ 47 _ _ _ _)
          refine R_puti (zk := 1) dX5_often_47 flX5_51 cok_9 (by decide) (fun q hq => by cases hq; rfl) rfl (?_ : RR _ _ _ _ 50 _ _ _ _)
          exact R_return dX5_often_50 trivial hq
        · refine R_istore dX5_often_21 (Nat.le_of_ble_eq_true rfl) (?_ : RR _ _ _ _ 23 [_, _, _, _, _, _, _, _, _] _ _ _)
          refine R_iload dX5_often_23 rfl (?_ : RR _ _ _ _ 25 _ _ _ _)
          refine R_iconst dX5_often_25 (?_ : RR _ _ _ _ 26 _ _ _ _)
          refine R_icmp_ne (t := 51) dX5_often_26 rfl (fun c26 => ?_) (fun c26 => ?_)
          · refine R_iinc dX5_often_51 rfl (Nat.le_of_ble_eq_true rfl) (?_ : RR _ _ _ _ 54 [_, _, _, _, _, _, _, _, _] _ _ _)
            refine R_goto (t := 3) dX5_often_54 rfl (?_ : RR _ _ _ _ 3 _ _ _ _)
            exact IH _
          · refine R_aload dX5_often_29 rfl (?_ : RR _ _ _ _ 31 _ _ _ _)
            refine R_geti (z := 4) dX5_often_31 flX5_72 cok_4 rfl (by decide) rfl (fun q31 => (?_ : RR _ _ _ _ 34 _ _ _ _))
            rw [er2] at q31 ⊢
            refine R_if_ne (t := 51) dX5_often_34 rfl (fun c34 => ?_) (fun c34 => ?_)
            · first
              | (exfalso; omega)
              | (refine R_iinc dX5_often_51 rfl (Nat.le_of_ble_eq_true rfl) (?_ : RR _ _ _ _ 54 [_, _, _, _, _, _, _, _, _] _ _ _)
                 refine R_goto (t := 3) dX5_often_54 rfl (?_ : RR _ _ _ _ 3 _ _ _ _)
                 exact IH _)
            · first
              | (exfalso; omega)
              | (exfalso; omega
                 refine R_aload_n dX5_often_37 rfl (?_ : RR _ _ _ _ 38 _ _ _ _)
                 refine R_dup dX5_often_38 (fun _ => rfl) (?_ : RR _ _ _ _ 39 _ _ _ _)
                 refine R_geti (z := 1) dX5_often_39 flX5_51 cok_9 rfl (by decide) rfl (fun q39 => (?_ : RR _ _ _ _ 42 _ _ _ _))
                 refine R_iload_n dX5_often_42 rfl (?_ : RR _ _ _ _ 43 _ _ _ _)
                 refine R_iload dX5_often_43 rfl (?_ : RR _ _ _ _ 45 _ _ _ _)
                 refine R_isub dX5_often_45 (?_ : RR _ _ _ _ 46 _ _ _ _)
                 refine R_iadd dX5_often_46 (?_ : RR _ _ _ _ 47 _ _ _ _)
                 refine R_puti (zk := 1) dX5_often_47 flX5_51 cok_9 (by decide) (fun q hq => by cases hq; rfl) rfl (?_ : RR _ _ _ _ 50 _ _ _ _)
                 exact R_return dX5_often_50 trivial hQ)
      refine R_iload dX5_often_3 rfl (?_ : RR _ _ _ _ 5 _ _ _ _)
      refine R_iload_n dX5_often_5 rfl (?_ : RR _ _ _ _ 6 _ _ _ _)
      refine R_icmp_gt (t := 57) dX5_often_6 rfl (fun c6 => ?_) (fun c6 => ?_)
      · exfalso; omega
      refine R_aload_n dX5_often_9 rfl (?_ : RR _ _ _ _ 10 _ _ _ _)
      refine R_aload_n dX5_often_10 rfl (?_ : RR _ _ _ _ 11 _ _ _ _)
      refine R_aload_n dX5_often_11 rfl (?_ : RR _ _ _ _ 12 _ _ _ _)
      refine R_aload dX5_often_12 rfl (?_ : RR _ _ _ _ 14 _ _ _ _)
      refine R_aload dX5_often_14 rfl (?_ : RR _ _ _ _ 16 _ _ _ _)
      refine R_iload dX5_often_16 rfl (?_ : RR _ _ _ _ 18 _ _ _ _)
      refine R_qV5 dX5_often_18 mvX5_once mlX5_68 (by decide) (by decide) (Nat.le_of_ble_eq_true rfl) (Nat.le_of_ble_eq_true rfl) (C_once hX (CO_fr hC hf1) hc1 (by omega) hbh) (fun r9 g9 hq9 => (?_ : RR _ _ _ _ 21 _ _ _ _))
      obtain ⟨h2, len2, rfl, hf2, hc2, ht2⟩ := hq9
      obtain ⟨z, hz⟩ : ∃ z, z = (if xCrs X f1 bh ≠ 2 ∧ 0 ≤ xE X (2 * f1 0 + xCrs X f1 bh) then xCrs X f1 bh else 2) := ⟨_, rfl⟩
      obtain rfl : r9 = some (pI z) := by rw [hz]; exact ht2.2.1
      show RR _ _ _ _ _ _ [pI z] _ _
      exact K h2 len2 z hf2 hc2 hz
  refine R_iconst dX5_often_0 (?_ : RR _ _ _ _ 1 _ _ _ _)
  refine R_istore dX5_often_1 (Nat.le_of_ble_eq_true rfl) (?_ : RR _ _ _ _ 3 [_, _, _, _, _, _, _, _, _] _ _ _)
  exact L m 1 h f len _ (by omega) (by omega) onF_rf hc rfl (by omega)
end OG
