/-! the law's loop -/
theorem G_n64 {sc : SC} {M : PMt} {d kc ks pc a n : Nat} {ls st : List PV} {Q : Option PV → PH → Prop} {h : Nat → Int → Int} (hc : shp0[a]? = some (102, n)) (kk : (∀ j, r64 (h a j)) → RG sc M d kc ks pc ls st (shp0, rf0, h) Q) : RG sc M d kc ks pc ls st (shp0, rf0, h) Q :=
  fun E p l e R s m args below meth c H locs cells slots Qf L hF h1 h2 h3 h4 hR hS hL hq hZ => kk (fun j => (hR.2.2 a _ hc j).2) E p l e R s m args below meth c H locs cells slots Qf L hF h1 h2 h3 h4 hR hS hL hq hZ
theorem LW {sc : SC} (hsc : sc.1 ≤ 2560) (hv : ∀ j, r32 (sc.2.1 j)) : ∀ (n i k : Nat) (h : Nat → Int → Int) (x5 x6 x7 : PV), sc.1 < i + 5 * (n + 1) → i ≤ 2560 → k + n ≤ 1000 → SR k h → RG sc mL_law 762 n (6 * n) 23 [pR 1300, pR 0, pR 147, pR 178, pI i, x5, x6, x7] [] (shp0, rf0, h) (fun r _ => r = some (pI 1)) := by
  intro n
  induction n with
  | zero =>
    intro i k h x5 x6 x7 h1 h2 h3 hs
    refine G_iload dL_law_23 rfl (?_ : RG _ _ _ _ _ 25 _ _ _ _)
    refine G_aload_n dL_law_25 rfl (?_ : RG _ _ _ _ _ 26 _ _ _ _)
    refine G_slen dL_law_26 hsc (?_ : RG _ _ _ _ _ 27 _ _ _ _)
    refine G_iconst dL_law_27 (?_ : RG _ _ _ _ _ 28 _ _ _ _)
    refine G_isub dL_law_28 (?_ : RG _ _ _ _ _ 29 _ _ _ _)
    refine G_icmp_gt (t := 1452) dL_law_29 rfl (fun c29 => ?_) (fun c29 => ?_)
    · refine G_iconst dL_law_1452 (?_ : RG _ _ _ _ _ 1453 _ _ _ _)
      exact G_ireturn dL_law_1453 (Or.inr rfl) rfl
    · exfalso; omega
  | succ n ih =>
    intro i k h x5 x6 x7 h1 h2 h3 hs
    suffices hh : RG sc mL_law 762 (1 + n) (6 + 6 * n) 23 [pR 1300, pR 0, pR 147, pR 178, pI i, x5, x6, x7] [] (shp0, rf0, h) (fun r _ => r = some (pI 1)) by
      rw [show n + 1 = 1 + n by omega, show 6 * (1 + n) = 6 + 6 * n by omega]
      exact hh
    refine G_iload dL_law_23 rfl (?_ : RG _ _ _ _ _ 25 _ _ _ _)
    refine G_aload_n dL_law_25 rfl (?_ : RG _ _ _ _ _ 26 _ _ _ _)
    refine G_slen dL_law_26 hsc (?_ : RG _ _ _ _ _ 27 _ _ _ _)
    refine G_iconst dL_law_27 (?_ : RG _ _ _ _ _ 28 _ _ _ _)
    refine G_isub dL_law_28 (?_ : RG _ _ _ _ _ 29 _ _ _ _)
    refine G_icmp_gt (t := 1452) dL_law_29 rfl (fun c29 => ?_) (fun c29 => ?_)
    · refine G_iconst dL_law_1452 (?_ : RG _ _ _ _ _ 1453 _ _ _ _)
      exact G_ireturn dL_law_1453 (Or.inr rfl) rfl
    · have hi : i + 5 ≤ sc.1 := by omega
      have nx : ∀ (k9 : Nat) (x5 x6 x7 : PV) (h4 : Nat → Int → Int), k9 ≤ k + 1 → SR k9 h4 → RG sc mL_law 762 n (6 * n) 1446 [pR 1300, pR 0, pR 147, pR 178, pI i, x5, x6, x7] [] (shp0, rf0, h4) (fun r _ => r = some (pI 1)) := by
        intro k9 x5 x6 x7 h4 hk hs4
        refine G_iinc dL_law_1446 rfl (Nat.le_of_ble_eq_true rfl) (?_ : RG _ _ _ _ _ 1449 [_, _, _, _, _, _, _, _] _ _ _)
        refine G_goto (t := 23) dL_law_1449 rfl (?_ : RG _ _ _ _ _ 23 _ _ _ _)
        have q := ih (i + 5) k9 h4 x5 x6 x7 (by omega) (by omega) (by omega) hs4
        rw [show (((i + 5 : Nat)) : Int) = (i : Int) + 5 by omega] at q
        exact q
      refine G_aload_n dL_law_32 rfl (?_ : RG _ _ _ _ _ 33 _ _ _ _)
      refine G_iload dL_law_33 rfl (?_ : RG _ _ _ _ _ 35 _ _ _ _)
      refine G_sld (j := i) dL_law_35 rfl hsc (by omega) (?_ : RG _ _ _ _ _ 36 _ _ _ _)
      refine G_bipush dL_law_36 rfl (?_ : RG _ _ _ _ _ 38 _ _ _ _)
      refine G_iand dL_law_38 (?_ : RG _ _ _ _ _ 39 _ _ _ _)
      have hr : r32 (iAnd (sc.2.1 i) 63) := iAnd_r
      generalize iAnd (sc.2.1 i) 63 = v at *
      by_cases y : 0 ≤ v ∧ v ≤ 42
      · have n1 : ∀ h4, SR (k + 1) h4 → RG sc mL_law 762 (1 + n) (6 + 6 * n) 1446 [pR 1300, pR 0, pR 147, pR 178, pI i, x5, x6, x7] [] (shp0, rf0, h4) (fun r _ => r = some (pI 1)) := fun h4 q => RG.mono (nx (k + 1) x5 x6 x7 h4 (Nat.le_refl _) q)
        have n2 : ∀ x5 x6 x7 h4, SR (k + 1) h4 → RG sc mL_law 762 n (6 * n) 1446 [pR 1300, pR 0, pR 147, pR 178, pI i, x5, x6, x7] [] (shp0, rf0, h4) (fun r _ => r = some (pI 1)) := fun x5 x6 x7 h4 q => nx (k + 1) x5 x6 x7 h4 (Nat.le_refl _) q
        have hk : k ≤ 1000 := by omega
        have : v = 0 ∨ v = 1 ∨ v = 2 ∨ v = 3 ∨ v = 4 ∨ v = 5 ∨ v = 6 ∨ v = 7 ∨ v = 8 ∨ v = 9 ∨ v = 10 ∨ v = 11 ∨ v = 12 ∨ v = 13 ∨ v = 14 ∨ v = 15 ∨ v = 16 ∨ v = 17 ∨ v = 18 ∨ v = 19 ∨ v = 20 ∨ v = 21 ∨ v = 22 ∨ v = 23 ∨ v = 24 ∨ v = 25 ∨ v = 26 ∨ v = 27 ∨ v = 28 ∨ v = 29 ∨ v = 30 ∨ v = 31 ∨ v = 32 ∨ v = 33 ∨ v = 34 ∨ v = 35 ∨ v = 36 ∨ v = 37 ∨ v = 38 ∨ v = 39 ∨ v = 40 ∨ v = 41 ∨ v = 42 := by omega
        rcases this with rfl | rfl | rfl | rfl | rfl | rfl | rfl | rfl | rfl | rfl | rfl | rfl | rfl | rfl | rfl | rfl | rfl | rfl | rfl | rfl | rfl | rfl | rfl | rfl | rfl | rfl | rfl | rfl | rfl | rfl | rfl | rfl | rfl | rfl | rfl | rfl | rfl | rfl | rfl | rfl | rfl | rfl | rfl
        · exact G_tabIn (t := 224) (off := 185) dL_law_39 (by decide) (by decide) rfl rfl (LC_0 hsc hv hi hk hs n1)
        · exact G_tabIn (t := 249) (off := 210) dL_law_39 (by decide) (by decide) rfl rfl (LC_1 hsc hv hi hk hs n1)
        · exact G_tabIn (t := 274) (off := 235) dL_law_39 (by decide) (by decide) rfl rfl (LC_2 hsc hv hi hk hs n1)
        · exact G_tabIn (t := 287) (off := 248) dL_law_39 (by decide) (by decide) rfl rfl (LC_3 hsc hv hi hk hs n1)
        · exact G_tabIn (t := 300) (off := 261) dL_law_39 (by decide) (by decide) rfl rfl (LC_4 hsc hv hi hk hs n1)
        · exact G_tabIn (t := 313) (off := 274) dL_law_39 (by decide) (by decide) rfl rfl (LC_5 hsc hv hi hk hs n1)
        · exact G_tabIn (t := 326) (off := 287) dL_law_39 (by decide) (by decide) rfl rfl (LC_6 hsc hv hi hs n2)
        · exact G_tabIn (t := 394) (off := 355) dL_law_39 (by decide) (by decide) rfl rfl (LC_7 hsc hv hi hs n2)
        · exact G_tabIn (t := 462) (off := 423) dL_law_39 (by decide) (by decide) rfl rfl (LC_8 hsc hv hi hs n2)
        · exact G_tabIn (t := 530) (off := 491) dL_law_39 (by decide) (by decide) rfl rfl (LC_9 hsc hv hi hk hs n1)
        · exact G_tabIn (t := 591) (off := 552) dL_law_39 (by decide) (by decide) rfl rfl (LC_10 hsc hv hi hk hs n1)
        · exact G_tabIn (t := 604) (off := 565) dL_law_39 (by decide) (by decide) rfl rfl (LC_11 hsc hv hi hk hs n1)
        · exact G_tabIn (t := 641) (off := 602) dL_law_39 (by decide) (by decide) rfl rfl (LC_12 hsc hv hi hk hs n1)
        · exact G_tabIn (t := 654) (off := 615) dL_law_39 (by decide) (by decide) rfl rfl (LC_13 hsc hv hi hk hs n1)
        · exact G_tabIn (t := 679) (off := 640) dL_law_39 (by decide) (by decide) rfl rfl (LC_14 hsc hv hi hk hs n1)
        · exact G_tabIn (t := 716) (off := 677) dL_law_39 (by decide) (by decide) rfl rfl (LC_15 hsc hv hi hk hs n1)
        · exact G_tabIn (t := 741) (off := 702) dL_law_39 (by decide) (by decide) rfl rfl (LC_16 hsc hv hi hk hs n1)
        · exact G_tabIn (t := 754) (off := 715) dL_law_39 (by decide) (by decide) rfl rfl (LC_17 hsc hv hi hk hs n1)
        · exact G_tabIn (t := 767) (off := 728) dL_law_39 (by decide) (by decide) rfl rfl (LC_18 hsc hv hi hk hs n1)
        · exact G_tabIn (t := 804) (off := 765) dL_law_39 (by decide) (by decide) rfl rfl (LC_19 hsc hv hi hk hs n1)
        · exact G_tabIn (t := 817) (off := 778) dL_law_39 (by decide) (by decide) rfl rfl (LC_20 hsc hv hi hk hs n1)
        · exact G_tabIn (t := 842) (off := 803) dL_law_39 (by decide) (by decide) rfl rfl (LC_21 hsc hv hi hk hs n1)
        · exact G_tabIn (t := 867) (off := 828) dL_law_39 (by decide) (by decide) rfl rfl (LC_22 hsc hv hi hk hs n1)
        · exact G_tabIn (t := 892) (off := 853) dL_law_39 (by decide) (by decide) rfl rfl (LC_23 hsc hv hi hk hs n1)
        · exact G_tabIn (t := 917) (off := 878) dL_law_39 (by decide) (by decide) rfl rfl (LC_24 hsc hv hi hk hs n1)
        · exact G_tabIn (t := 954) (off := 915) dL_law_39 (by decide) (by decide) rfl rfl (LC_25 hsc hv hi hk hs n1)
        · exact G_tabIn (t := 979) (off := 940) dL_law_39 (by decide) (by decide) rfl rfl (LC_26 hsc hv hi hk hs n1)
        · exact G_tabIn (t := 1004) (off := 965) dL_law_39 (by decide) (by decide) rfl rfl (LC_27 hsc hv hi hk hs n1)
        · exact G_tabIn (t := 1029) (off := 990) dL_law_39 (by decide) (by decide) rfl rfl (LC_28 hsc hv hi hk hs n1)
        · exact G_tabIn (t := 1054) (off := 1015) dL_law_39 (by decide) (by decide) rfl rfl (LC_29 hsc hv hi hk hs n1)
        · exact G_tabIn (t := 1067) (off := 1028) dL_law_39 (by decide) (by decide) rfl rfl (LC_30 hsc hv hi hk hs n1)
        · exact G_tabIn (t := 1092) (off := 1053) dL_law_39 (by decide) (by decide) rfl rfl (LC_31 hsc hv hi hk hs n1)
        · exact G_tabIn (t := 1141) (off := 1102) dL_law_39 (by decide) (by decide) rfl rfl (LC_32 hsc hv hi hk hs n1)
        · exact G_tabIn (t := 1154) (off := 1115) dL_law_39 (by decide) (by decide) rfl rfl (LC_33 hsc hv hi hk hs n1)
        · exact G_tabIn (t := 1167) (off := 1128) dL_law_39 (by decide) (by decide) rfl rfl (LC_34 hsc hv hi hk hs n1)
        · exact G_tabIn (t := 1192) (off := 1153) dL_law_39 (by decide) (by decide) rfl rfl (LC_35 hsc hv hi hk hs n1)
        · exact G_tabIn (t := 1205) (off := 1166) dL_law_39 (by decide) (by decide) rfl rfl (LC_36 hsc hv hi hk hs n1)
        · exact G_tabIn (t := 1254) (off := 1215) dL_law_39 (by decide) (by decide) rfl rfl (LC_37 hsc hv hi hk hs n1)
        · exact G_tabIn (t := 1279) (off := 1240) dL_law_39 (by decide) (by decide) rfl rfl (LC_38 hsc hv hi hk hs n1)
        · exact G_tabIn (t := 1316) (off := 1277) dL_law_39 (by decide) (by decide) rfl rfl (LC_39 hsc hv hi hk hs n1)
        · exact G_tabIn (t := 1341) (off := 1302) dL_law_39 (by decide) (by decide) rfl rfl (LC_40 hsc hv hi hk hs n1)
        · exact G_tabIn (t := 1366) (off := 1327) dL_law_39 (by decide) (by decide) rfl rfl (LC_41 hsc hv hi hk hs n1)
        · exact G_tabIn (t := 1391) (off := 1352) dL_law_39 (by decide) (by decide) rfl rfl (G_n64 (a := 146) rfl (fun h64 => LC_42 hsc hv hi hs h64 n2))
      · exact G_tabOut (t := 1446) dL_law_39 rfl (by omega) (RG.mono (nx k x5 x6 x7 h (by omega) hs))
