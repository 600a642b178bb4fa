section RU9
variable {h h1 h2 h3 h4 : Nat → Int → Int} {N d p b l m n : Nat} {σ : Int → Int} {v : (Int → Int) → Int} {u : Bool}
abbrev rkO (m : Nat) : Int := if m = 0 then 0 else if m = 1 then 3 else 5
theorem wk_rk {c : Int} (hm : m ≤ 2) (hc : 0 ≤ amI (m + 1) c) : (0 ≤ amI (m + 1) c + rkO m ∧ amI (m + 1) c + rkO m ≤ 6) ∧ amI (m + 1) c ≤ 2 ∧ ∀ x y : Int, wkS (amI (m + 1) c + rkO m) x y = rk c x y := by
  have : m = 0 ∨ m = 1 ∨ m = 2 := by omega
  rcases this with rfl | rfl | rfl
  · have e : amI (0 + 1) c = if c = 60 then 0 else if c = 62 then 1 else if c = 61 then 2 else -1 := amI_1
    have : c = 60 ∨ c = 62 ∨ c = 61 := by
      by_cases y1 : c = 60
      · exact Or.inl y1
      · by_cases y2 : c = 62
        · exact Or.inr (Or.inl y2)
        · by_cases y3 : c = 61
          · exact Or.inr (Or.inr y3)
          · rw [e, if_neg y1, if_neg y2, if_neg y3] at hc; omega
    rcases this with rfl | rfl | rfl
    · rw [e]; exact ⟨by decide, by decide, fun x y => rfl⟩
    · rw [e]; exact ⟨by decide, by decide, fun x y => rfl⟩
    · rw [e]; exact ⟨by decide, by decide, fun x y => rfl⟩
  · have e : amI (1 + 1) c = if c = 43 then 0 else if c = 45 then 1 else -1 := amI_2
    have : c = 43 ∨ c = 45 := by
      by_cases y1 : c = 43
      · exact Or.inl y1
      · by_cases y2 : c = 45
        · exact Or.inr y2
        · rw [e, if_neg y1, if_neg y2] at hc; omega
    rcases this with rfl | rfl
    · rw [e]; exact ⟨by decide, by decide, fun x y => rfl⟩
    · rw [e]; exact ⟨by decide, by decide, fun x y => rfl⟩
  · have e : amI (2 + 1) c = if c = 42 then 0 else if c = 47 then 1 else -1 := amI_3
    have : c = 42 ∨ c = 47 := by
      by_cases y1 : c = 42
      · exact Or.inl y1
      · by_cases y2 : c = 47
        · exact Or.inr y2
        · rw [e, if_neg y1, if_neg y2] at hc; omega
    rcases this with rfl | rfl
    · rw [e]; exact ⟨by decide, by decide, fun x y => rfl⟩
    · rw [e]; exact ⟨by decide, by decide, fun x y => rfl⟩
/-- from the loop's head to behind takesOf -/
theorem MRK_24 {D : Nat} {Q : Option PV → PH → Prop} {w3 : PV} {z : Int} (hm : m ≤ 2) (hD : 6 ≤ D) (hT : MT mX12_takesOf 5 [pR 147, pR (1000 + (m + 1))] h1 (some (pI z)) h2) (K : RR mX12_readsRank D 0 0 53 [pR 147, pI m, pI 1, w3] [pI z] (shp0, rf0, h2) Q) : RR mX12_readsRank D 0 0 24 [pR 147, pI m, pI 1, w3] [] (shp0, rf0, h1) Q := by
  have : m = 0 ∨ m = 1 ∨ m = 2 := by omega
  rcases this with rfl | rfl | rfl
  · have K : RR mX12_readsRank D 0 0 53 [pR 147, pI 0, pI 1, w3] [pI z] (shp0, rf0, h2) Q := K
    have hT : MT mX12_takesOf 5 [pR 147, pR (1000 + 1)] h1 (some (pI z)) h2 := hT
    show RR mX12_readsRank D 0 0 24 [pR 147, pI 0, pI 1, w3] [] (shp0, rf0, h1) Q
    refine R_iload_n dX12_readsRank_24 rfl (?_ : RR _ _ _ _ 25 _ _ _ _)
    refine R_if_eq (t := 113) dX12_readsRank_25 rfl (fun c25 => ?_) (fun c25 => ?_)
    · exfalso; omega
    refine R_aload_n dX12_readsRank_28 rfl (?_ : RR _ _ _ _ 29 _ _ _ _)
    refine R_iload_n dX12_readsRank_29 rfl (?_ : RR _ _ _ _ 30 _ _ _ _)
    refine R_if_ne (t := 38) dX12_readsRank_30 rfl (fun c30 => ?_) (fun c30 => ?_)
    · exfalso; omega
    refine R_ldcS (i := 1) (by decide) rfl dX12_readsRank_33 (?_ : RR _ _ _ _ 35 _ _ _ _)
    refine R_goto (t := 50) dX12_readsRank_35 rfl (?_ : RR _ _ _ _ 50 _ _ _ _)
    refine R_cVi1 dX12_readsRank_50 mvX12_takesOf mlX12_245 (by decide) (by omega) (Nat.le_of_ble_eq_true rfl) (Nat.le_of_ble_eq_true rfl) (hT) (?_ : RR _ _ _ _ 53 _ _ _ _)
    exact K
  · have K : RR mX12_readsRank D 0 0 53 [pR 147, pI 1, pI 1, w3] [pI z] (shp0, rf0, h2) Q := K
    have hT : MT mX12_takesOf 5 [pR 147, pR (1000 + 2)] h1 (some (pI z)) h2 := hT
    show RR mX12_readsRank D 0 0 24 [pR 147, pI 1, pI 1, w3] [] (shp0, rf0, h1) Q
    refine R_iload_n dX12_readsRank_24 rfl (?_ : RR _ _ _ _ 25 _ _ _ _)
    refine R_if_eq (t := 113) dX12_readsRank_25 rfl (fun c25 => ?_) (fun c25 => ?_)
    · exfalso; omega
    refine R_aload_n dX12_readsRank_28 rfl (?_ : RR _ _ _ _ 29 _ _ _ _)
    refine R_iload_n dX12_readsRank_29 rfl (?_ : RR _ _ _ _ 30 _ _ _ _)
    refine R_if_ne (t := 38) dX12_readsRank_30 rfl (fun c30 => ?_) (fun c30 => ?_)
    rotate_left
    · exfalso; omega
    refine R_iload_n dX12_readsRank_38 rfl (?_ : RR _ _ _ _ 39 _ _ _ _)
    refine R_iconst dX12_readsRank_39 (?_ : RR _ _ _ _ 40 _ _ _ _)
    refine R_icmp_ne (t := 48) dX12_readsRank_40 rfl (fun c40 => ?_) (fun c40 => ?_)
    · exfalso; omega
    refine R_ldcS (i := 2) (by decide) rfl dX12_readsRank_43 (?_ : RR _ _ _ _ 45 _ _ _ _)
    refine R_goto (t := 50) dX12_readsRank_45 rfl (?_ : RR _ _ _ _ 50 _ _ _ _)
    refine R_cVi1 dX12_readsRank_50 mvX12_takesOf mlX12_245 (by decide) (by omega) (Nat.le_of_ble_eq_true rfl) (Nat.le_of_ble_eq_true rfl) (hT) (?_ : RR _ _ _ _ 53 _ _ _ _)
    exact K
  · have K : RR mX12_readsRank D 0 0 53 [pR 147, pI 2, pI 1, w3] [pI z] (shp0, rf0, h2) Q := K
    have hT : MT mX12_takesOf 5 [pR 147, pR (1000 + 3)] h1 (some (pI z)) h2 := hT
    show RR mX12_readsRank D 0 0 24 [pR 147, pI 2, pI 1, w3] [] (shp0, rf0, h1) Q
    refine R_iload_n dX12_readsRank_24 rfl (?_ : RR _ _ _ _ 25 _ _ _ _)
    refine R_if_eq (t := 113) dX12_readsRank_25 rfl (fun c25 => ?_) (fun c25 => ?_)
    · exfalso; omega
    refine R_aload_n dX12_readsRank_28 rfl (?_ : RR _ _ _ _ 29 _ _ _ _)
    refine R_iload_n dX12_readsRank_29 rfl (?_ : RR _ _ _ _ 30 _ _ _ _)
    refine R_if_ne (t := 38) dX12_readsRank_30 rfl (fun c30 => ?_) (fun c30 => ?_)
    rotate_left
    · exfalso; omega
    refine R_iload_n dX12_readsRank_38 rfl (?_ : RR _ _ _ _ 39 _ _ _ _)
    refine R_iconst dX12_readsRank_39 (?_ : RR _ _ _ _ 40 _ _ _ _)
    refine R_icmp_ne (t := 48) dX12_readsRank_40 rfl (fun c40 => ?_) (fun c40 => ?_)
    rotate_left
    · exfalso; omega
    refine R_ldcS (i := 3) (by decide) rfl dX12_readsRank_48 (?_ : RR _ _ _ _ 50 _ _ _ _)
    refine R_cVi1 dX12_readsRank_50 mvX12_takesOf mlX12_245 (by decide) (by omega) (Nat.le_of_ble_eq_true rfl) (Nat.le_of_ble_eq_true rfl) (hT) (?_ : RR _ _ _ _ 53 _ _ _ _)
    exact K
/-- the code of a sign, and on -/
theorem MRK_72 {D : Nat} {Q : Option PV → PH → Prop} {z : Int} (hm : m ≤ 2) (hD : 6 ≤ D) (hz : 0 ≤ z ∧ z ≤ 2) (hC : MT mX12_codes 0 [pR 147, pI (2000 + (z + rkO m))] h1 none h2) (K : m ≠ 0 → RR mX12_readsRank D 0 0 24 [pR 147, pI m, pI 1, pI z] [] (shp0, rf0, h2) Q) (hq : m = 0 → Q (some (pI 1)) (shp0, rf0, h2)) : RR mX12_readsRank D 0 0 72 [pR 147, pI m, pI 1, pI z] [] (shp0, rf0, h1) Q := by
  have : m = 0 ∨ m = 1 ∨ m = 2 := by omega
  rcases this with rfl | rfl | rfl
  · have hq := hq rfl
    have hC : MT mX12_codes 0 [pR 147, pI (2000 + (z + 0))] h1 none h2 := hC
    rw [show 2000 + (z + 0) = 2000 + z + 0 by omega] at hC
    show RR mX12_readsRank D 0 0 72 [pR 147, pI 0, pI 1, pI z] [] (shp0, rf0, h1) Q
    clear K
    refine R_aload_n dX12_readsRank_72 rfl (?_ : RR _ _ _ _ 73 _ _ _ _)
    refine R_sipush dX12_readsRank_73 rfl (?_ : RR _ _ _ _ 76 _ _ _ _)
    refine R_iload_n dX12_readsRank_76 rfl (?_ : RR _ _ _ _ 77 _ _ _ _)
    refine R_iadd dX12_readsRank_77 (?_ : RR _ _ _ _ 78 _ _ _ _)
    refine R_iload_n dX12_readsRank_78 rfl (?_ : RR _ _ _ _ 79 _ _ _ _)
    refine R_if_ne (t := 86) dX12_readsRank_79 rfl (fun c79 => ?_) (fun c79 => ?_)
    · exfalso; omega
    refine R_iconst dX12_readsRank_82 (?_ : RR _ _ _ _ 83 _ _ _ _)
    refine R_goto (t := 96) dX12_readsRank_83 rfl (?_ : RR _ _ _ _ 96 _ _ _ _)
    refine R_iadd dX12_readsRank_96 (?_ : RR _ _ _ _ 97 _ _ _ _)
    refine R_cVv1 dX12_readsRank_97 mvX12_codes mlX12_236 (by decide) (by omega) (Nat.le_of_ble_eq_true rfl) (Nat.le_of_ble_eq_true rfl) (hC) (?_ : RR _ _ _ _ 100 _ _ _ _)
    refine R_iload_n dX12_readsRank_100 rfl (?_ : RR _ _ _ _ 101 _ _ _ _)
    refine R_if_le (t := 108) dX12_readsRank_101 rfl (fun c101 => ?_) (fun c101 => ?_)
    rotate_left
    · exfalso; omega
    refine R_iconst dX12_readsRank_108 (?_ : RR _ _ _ _ 109 _ _ _ _)
    refine R_istore_n dX12_readsRank_109 (Nat.le_of_ble_eq_true rfl) (?_ : RR _ _ _ _ 110 [_, _, _, _] _ _ _)
    refine R_goto (t := 24) dX12_readsRank_110 rfl (?_ : RR _ _ _ _ 24 _ _ _ _)
    refine R_iload_n dX12_readsRank_24 rfl (?_ : RR _ _ _ _ 25 _ _ _ _)
    refine R_if_eq (t := 113) dX12_readsRank_25 rfl (fun c25 => ?_) (fun c25 => ?_)
    rotate_left
    · exfalso; omega
    refine R_iconst dX12_readsRank_113 (?_ : RR _ _ _ _ 114 _ _ _ _)
    exact R_ireturn dX12_readsRank_114 (by first | exact Or.inl rfl | exact Or.inr rfl | exact ok_ite | omega | assumption) hq
  · have K := K (by omega)
    have hC : MT mX12_codes 0 [pR 147, pI (2000 + (z + 3))] h1 none h2 := hC
    rw [show 2000 + (z + 3) = 2000 + z + 3 by omega] at hC
    have K : RR mX12_readsRank D 0 0 24 [pR 147, pI 1, pI 1, pI z] [] (shp0, rf0, h2) Q := K
    show RR mX12_readsRank D 0 0 72 [pR 147, pI 1, pI 1, pI z] [] (shp0, rf0, h1) Q
    clear hq
    refine R_aload_n dX12_readsRank_72 rfl (?_ : RR _ _ _ _ 73 _ _ _ _)
    refine R_sipush dX12_readsRank_73 rfl (?_ : RR _ _ _ _ 76 _ _ _ _)
    refine R_iload_n dX12_readsRank_76 rfl (?_ : RR _ _ _ _ 77 _ _ _ _)
    refine R_iadd dX12_readsRank_77 (?_ : RR _ _ _ _ 78 _ _ _ _)
    refine R_iload_n dX12_readsRank_78 rfl (?_ : RR _ _ _ _ 79 _ _ _ _)
    refine R_if_ne (t := 86) dX12_readsRank_79 rfl (fun c79 => ?_) (fun c79 => ?_)
    rotate_left
    · exfalso; omega
    refine R_iload_n dX12_readsRank_86 rfl (?_ : RR _ _ _ _ 87 _ _ _ _)
    refine R_iconst dX12_readsRank_87 (?_ : RR _ _ _ _ 88 _ _ _ _)
    refine R_icmp_ne (t := 95) dX12_readsRank_88 rfl (fun c88 => ?_) (fun c88 => ?_)
    · exfalso; omega
    refine R_iconst dX12_readsRank_91 (?_ : RR _ _ _ _ 92 _ _ _ _)
    refine R_goto (t := 96) dX12_readsRank_92 rfl (?_ : RR _ _ _ _ 96 _ _ _ _)
    refine R_iadd dX12_readsRank_96 (?_ : RR _ _ _ _ 97 _ _ _ _)
    refine R_cVv1 dX12_readsRank_97 mvX12_codes mlX12_236 (by decide) (by omega) (Nat.le_of_ble_eq_true rfl) (Nat.le_of_ble_eq_true rfl) (hC) (?_ : RR _ _ _ _ 100 _ _ _ _)
    refine R_iload_n dX12_readsRank_100 rfl (?_ : RR _ _ _ _ 101 _ _ _ _)
    refine R_if_le (t := 108) dX12_readsRank_101 rfl (fun c101 => ?_) (fun c101 => ?_)
    · exfalso; omega
    refine R_iconst dX12_readsRank_104 (?_ : RR _ _ _ _ 105 _ _ _ _)
    refine R_goto (t := 109) dX12_readsRank_105 rfl (?_ : RR _ _ _ _ 109 _ _ _ _)
    refine R_istore_n dX12_readsRank_109 (Nat.le_of_ble_eq_true rfl) (?_ : RR _ _ _ _ 110 [_, _, _, _] _ _ _)
    refine R_goto (t := 24) dX12_readsRank_110 rfl (?_ : RR _ _ _ _ 24 _ _ _ _)
    exact K
  · have K := K (by omega)
    have hC : MT mX12_codes 0 [pR 147, pI (2000 + (z + 5))] h1 none h2 := hC
    rw [show 2000 + (z + 5) = 2000 + z + 5 by omega] at hC
    have K : RR mX12_readsRank D 0 0 24 [pR 147, pI 2, pI 1, pI z] [] (shp0, rf0, h2) Q := K
    show RR mX12_readsRank D 0 0 72 [pR 147, pI 2, pI 1, pI z] [] (shp0, rf0, h1) Q
    clear hq
    refine R_aload_n dX12_readsRank_72 rfl (?_ : RR _ _ _ _ 73 _ _ _ _)
    refine R_sipush dX12_readsRank_73 rfl (?_ : RR _ _ _ _ 76 _ _ _ _)
    refine R_iload_n dX12_readsRank_76 rfl (?_ : RR _ _ _ _ 77 _ _ _ _)
    refine R_iadd dX12_readsRank_77 (?_ : RR _ _ _ _ 78 _ _ _ _)
    refine R_iload_n dX12_readsRank_78 rfl (?_ : RR _ _ _ _ 79 _ _ _ _)
    refine R_if_ne (t := 86) dX12_readsRank_79 rfl (fun c79 => ?_) (fun c79 => ?_)
    rotate_left
    · exfalso; omega
    refine R_iload_n dX12_readsRank_86 rfl (?_ : RR _ _ _ _ 87 _ _ _ _)
    refine R_iconst dX12_readsRank_87 (?_ : RR _ _ _ _ 88 _ _ _ _)
    refine R_icmp_ne (t := 95) dX12_readsRank_88 rfl (fun c88 => ?_) (fun c88 => ?_)
    rotate_left
    · exfalso; omega
    refine R_iconst dX12_readsRank_95 (?_ : RR _ _ _ _ 96 _ _ _ _)
    refine R_iadd dX12_readsRank_96 (?_ : RR _ _ _ _ 97 _ _ _ _)
    refine R_cVv1 dX12_readsRank_97 mvX12_codes mlX12_236 (by decide) (by omega) (Nat.le_of_ble_eq_true rfl) (Nat.le_of_ble_eq_true rfl) (hC) (?_ : RR _ _ _ _ 100 _ _ _ _)
    refine R_iload_n dX12_readsRank_100 rfl (?_ : RR _ _ _ _ 101 _ _ _ _)
    refine R_if_le (t := 108) dX12_readsRank_101 rfl (fun c101 => ?_) (fun c101 => ?_)
    · exfalso; omega
    refine R_iconst dX12_readsRank_104 (?_ : RR _ _ _ _ 105 _ _ _ _)
    refine R_goto (t := 109) dX12_readsRank_105 rfl (?_ : RR _ _ _ _ 109 _ _ _ _)
    refine R_istore_n dX12_readsRank_109 (Nat.le_of_ble_eq_true rfl) (?_ : RR _ _ _ _ 110 [_, _, _, _] _ _ _)
    refine R_goto (t := 24) dX12_readsRank_110 rfl (?_ : RR _ _ _ _ 24 _ _ _ _)
    exact K
theorem M_loop (ih : ∀ N', N' < N → mLv σ b N') (hσn : ∀ p : Nat, b ≤ p → σ p = -1) (hb : b ≤ 40) (hm : m ≤ 2) (hd : d ≤ 4) (hl : l ≤ p) (ht : mqrT σ b h) : ∀ (N1 : Nat), N1 < N → ∀ (q k0 : Nat) (v : (Int → Int) → Int) (u : Bool) (h1 : Nat → Int → Int) (w3 : PV), q ≤ b → mqrF h h1 l → mqrS h1 q (l + k0) d b → k0 + p ≤ q → SgM (h1 159) l k0 v → rpM (m + 4) q ≤ N1 → RR mX12_readsRank (2 * N + 8) 0 0 24 [pR 147, pI m, pI 1, w3] [] (shp0, rf0, h1) (mLP (rp σ N1 (m + 4) d q v u) p l d b h) := by
  intro N1
  induction N1 with
  | zero => intro hN q k0 v u h1 w3 hq _ _ _ _ hM; exfalso; unfold rpM at hM; rw [if_neg (by omega)] at hM; omega
  | succ N1 ihl =>
    intro hN q k0 v u h1 w3 hq f1 s1 k0b g1 hM
    unfold rpM at hM
    rw [if_neg (by omega)] at hM
    obtain ⟨t1, t2, t3, t4⟩ := id s1
    have hT := T_X12_takesOf (h := h1) (i := m + 1) (σ := σ) (by omega) t1 t4 hq (by omega) (mqrT_fr ht f1) hσn
    have e0 : rp σ (N1 + 1) (m + 4) d q v u = (if 0 ≤ amI (m + 1) (σ q) then (if (rp σ N1 (m + 1) d (q + 1) v u).2.1 ∧ m + 4 ≠ 4 then rp σ N1 (m + 4) d (rp σ N1 (m + 1) d (q + 1) v u).1 (rpo (σ q) v (rp σ N1 (m + 1) d (q + 1) v u)).2.2.1 (rp σ N1 (m + 1) d (q + 1) v u).2.2.2 else rpo (σ q) v (rp σ N1 (m + 1) d (q + 1) v u)) else (q, true, v, u)) := by
      show (if m + 4 = 3 then _ else if m + 4 < 3 then _ else _) = _
      rw [if_neg (by omega), if_neg (by omega)]
      rfl
    rw [e0]
    clear e0
    by_cases c1 : 0 ≤ amI (m + 1) (σ q)
    · rw [if_pos c1]
      rw [if_pos c1] at hT
      obtain ⟨wb, wz, wk⟩ := wk_rk hm c1
      have hqb : q < b := by
        by_cases z : q < b
        · exact z
        · rw [hσn q (by omega), am_no (m + 1) (by omega)] at c1; omega
      obtain ⟨h5, h5e⟩ : ∃ h5, h5 = rup h1 147 (fup (h1 147) 16 ((q : Int) + 1)) := ⟨_, rfl⟩
      rw [← h5e] at hT
      have f5 : mqrF h1 h5 (l + k0) := ⟨fun a a1 a2 => by rw [h5e, rup_n a1], fun j j1 j2 j3 => by rw [h5e, rup_s, fup_n j1], fun j hj => by rw [h5e, rup_n (by omega)]⟩
      have s5 : mqrS h5 (q + 1) (l + k0) d b := ⟨by rw [h5e, rup_s, fup_s]; rfl, by rw [h5e, rup_s, fup_n (by omega)]; exact t2, by rw [h5e, rup_s, fup_n (by omega)]; exact t3, by rw [h5e, rup_s, fup_n (by omega)]; exact t4⟩
      have hM2 : rpM (m + 1) (q + 1) ≤ N1 := by unfold rpM; rw [if_pos (by omega)]; omega
      have IH := ih N1 (by omega) (m + 1) d (q + 1) (l + k0) u v h5 (by omega) hd (by omega) (by omega) hM2 (mqrT_fr (mqrT_fr ht f1) f5) s5
      have hbx := rp_b (σ := σ) hσn hb N1 (m + 1) d (q + 1) v u (by omega) (by omega) hM2
      have IHL := ihl (by omega)
      generalize rp σ N1 (m + 1) d (q + 1) v u = x at *
      rw [show ((m + 1 : Nat) : Int) = (m : Int) + 1 by omega] at IH
      obtain ⟨z, hz⟩ : ∃ z, z = amI (m + 1) (σ q) := ⟨_, rfl⟩
      rw [← hz] at hT wb wz wk c1
      have K67 : ∀ r' g', mLP x (q + 1) (l + k0) d b h5 r' g' → ∃ y : Int, r' = some (pI y) ∧ RR mX12_readsRank (2 * N + 8) 0 0 67 [pR 147, pI m, pI 1, pI z] [pI y] g' (mLP (if x.2.1 = true ∧ m + 4 ≠ 4 then rp σ N1 (m + 4) d x.1 (rpo (σ q) v x).2.2.1 x.2.2.2 else rpo (σ q) v x) p l d b h) := by
        intro r' g' hc
        obtain ⟨h6, k, rfl, f6, i6, l6, b6, kb, ⟨o6, rfl⟩ | ⟨o6, rfl, d6, g6⟩⟩ := hc
        · refine ⟨0, rfl, ?_⟩
          rw [if_neg (fun w => by rw [o6] at w; cases w.1)]
          have hq2 : mLP (rpo (σ q) v x) p l d b h (some (pI 0)) (shp0, rf0, h6) := ⟨h6, k0 + k, rfl, mqrF_tr f1 (mqrF_tr f5 f6 (Nat.le_refl _)) (by omega), i6, by rw [l6]; omega, b6, by show k0 + k + p ≤ x.1; omega, Or.inl ⟨o6, rfl⟩⟩
          generalize mLP (rpo (σ q) v x) p l d b h = QQ at *
          clear IHL IH ihl g1
          refine R_if_ne (t := 72) dX12_readsRank_67 rfl (fun c67 => ?_) (fun c67 => ?_)
          · exfalso; omega
          refine R_iconst dX12_readsRank_70 (?_ : RR _ _ _ _ 71 _ _ _ _)
          exact R_ireturn dX12_readsRank_71 (by first | exact Or.inl rfl | exact Or.inr rfl | exact ok_ite | omega | assumption) hq2
        · refine ⟨1, rfl, ?_⟩
          have hC := T_X12_codes (h := h6) (l := l + k0 + k) (c := 2000 + (z + rkO m)) l6 (by omega) (by omega)
          obtain ⟨h7, h7e⟩ : ∃ h7, h7 = rup (rup h6 147 (fup (h6 147) 24 (((l + k0 + k : Nat) : Int) + 1))) 159 (fup (h6 159) ((l + k0 + k : Nat) : Int) (2000 + (z + rkO m))) := ⟨_, rfl⟩
          rw [← h7e] at hC
          have f0 := mqrF_tr f1 (mqrF_tr f5 f6 (Nat.le_refl _)) (show l ≤ l + k0 by omega)
          have f7 : mqrF h h7 l := ⟨fun a a1 a2 => by rw [h7e, rup_n a2, rup_n a1]; exact f0.1 a a1 a2, fun j j1 j2 j3 => by rw [h7e, rup_n (by omega), rup_s, fup_n j3]; exact f0.2.1 j j1 j2 j3, fun j hj => by rw [h7e, rup_s, fup_n (by omega)]; exact f0.2.2 j hj⟩
          have s7 : mqrS h7 x.1 (l + (k0 + k + 1)) d b := ⟨by rw [h7e, rup_n (by omega), rup_s, fup_n (by omega)]; exact i6, by rw [h7e, rup_n (by omega), rup_s, fup_s]; omega, by rw [h7e, rup_n (by omega), rup_s, fup_n (by omega)]; exact d6, by rw [h7e, rup_n (by omega), rup_s, fup_n (by omega)]; exact b6⟩
          have g7 : SgM (h7 159) l (k0 + k + 1) (rpo (σ q) v x).2.2.1 := by
            have e33 : h7 159 = fup (h6 159) ((l + k0 + k : Nat) : Int) (2000 + (z + rkO m)) := by rw [h7e, rup_s]
            rw [e33]
            refine SgM_v (SgM_op (c := z + rkO m) (SgM_cg g1 (fun j hj => ?_)) (SgM_cg g6 (fun j hj => fup_n (by omega))) (by rw [show l + (k0 + k) = l + k0 + k by omega]; exact fup_s) wb) (fun th _ => ?_)
            · rw [fup_n (by omega), f6.2.2 _ (by omega), f5.2.2 _ (by omega)]
            · show w32 (wkS (z + rkO m) (v th) (x.2.2.1 th)) = w32 (rk (σ q) (v th) (x.2.2.1 th))
              rw [wk]
          have K72 : RR mX12_readsRank (2 * N + 8) 0 0 72 [pR 147, pI m, pI 1, pI z] [] (shp0, rf0, h6) (mLP (if x.2.1 = true ∧ m + 4 ≠ 4 then rp σ N1 (m + 4) d x.1 (rpo (σ q) v x).2.2.1 x.2.2.2 else rpo (σ q) v x) p l d b h) := by
            refine MRK_72 hm (by omega) (by omega) hC (fun m0 => ?_) (fun m0 => ?_)
            · rw [if_pos ⟨o6, by omega⟩]
              exact IHL x.1 (k0 + k + 1) (rpo (σ q) v x).2.2.1 x.2.2.2 h7 (pI z) hbx.2.1 f7 s7 (by omega) g7 (by unfold rpM; rw [if_neg (by omega)]; omega)
            · rw [if_neg (fun w => w.2 (by omega))]
              exact ⟨h7, k0 + k + 1, rfl, f7, s7.1, by rw [s7.2.1], s7.2.2.2, by show k0 + k + 1 + p ≤ x.1; omega, Or.inr ⟨o6, rfl, s7.2.2.1, g7⟩⟩
          generalize mLP (if x.2.1 = true ∧ m + 4 ≠ 4 then rp σ N1 (m + 4) d x.1 (rpo (σ q) v x).2.2.1 x.2.2.2 else rpo (σ q) v x) p l d b h = QQ at *
          clear IHL IH ihl g1 g6 g7 h7e
          refine R_if_ne (t := 72) dX12_readsRank_67 rfl (fun c67 => ?_) (fun c67 => ?_)
          rotate_left
          · exfalso; omega
          exact K72
      refine MRK_24 hm (by omega) hT ?_
      generalize mLP (if x.2.1 = true ∧ m + 4 ≠ 4 then rp σ N1 (m + 4) d x.1 (rpo (σ q) v x).2.2.1 x.2.2.2 else rpo (σ q) v x) p l d b h = QQ at *
      clear IHL ihl g1 h5e
      refine R_istore_n dX12_readsRank_53 (Nat.le_of_ble_eq_true rfl) (?_ : RR _ _ _ _ 54 [_, _, _, _] _ _ _)
      refine R_iload_n dX12_readsRank_54 rfl (?_ : RR _ _ _ _ 55 _ _ _ _)
      refine R_if_ge (t := 60) dX12_readsRank_55 rfl (fun c55 => ?_) (fun c55 => ?_)
      rotate_left
      · exfalso; omega
      refine R_aload_n dX12_readsRank_60 rfl (?_ : RR _ _ _ _ 61 _ _ _ _)
      refine R_iload_n dX12_readsRank_61 rfl (?_ : RR _ _ _ _ 62 _ _ _ _)
      refine R_iconst dX12_readsRank_62 (?_ : RR _ _ _ _ 63 _ _ _ _)
      refine R_iadd dX12_readsRank_63 (?_ : RR _ _ _ _ 64 _ _ _ _)
      refine R_qV1 dX12_readsRank_64 mvX12_readsRank mlX12_248 (by decide) (by omega) (Nat.le_of_ble_eq_true rfl) (Nat.le_of_ble_eq_true rfl) (IH) (fun r9 g9 hq9 => (?_ : RR _ _ _ _ 67 _ _ _ _))
      obtain ⟨y, rfl, KK⟩ := K67 _ _ hq9
      show RR _ _ _ _ _ _ [pI y] _ _
      exact KK
    · rw [if_neg c1]
      have e1 : amI (m + 1) (σ q) = -1 := by
        have := amgG_b (i := m + 1) (c := σ q) (stN (m + 1)) 0
        unfold amI at c1 ⊢
        omega
      rw [if_neg c1, e1, ← t1, fup_self, rup_self] at hT
      have hq2 : mLP (q, true, v, u) p l d b h (some (pI 1)) (shp0, rf0, h1) := ⟨h1, k0, rfl, f1, t1, t2, t4, k0b, Or.inr ⟨rfl, rfl, t3, g1⟩⟩
      refine MRK_24 hm (by omega) hT ?_
      generalize mLP (q, true, v, u) p l d b h = QQ at *
      clear ihl g1
      refine R_istore_n dX12_readsRank_53 (Nat.le_of_ble_eq_true rfl) (?_ : RR _ _ _ _ 54 [_, _, _, _] _ _ _)
      refine R_iload_n dX12_readsRank_54 rfl (?_ : RR _ _ _ _ 55 _ _ _ _)
      refine R_if_ge (t := 60) dX12_readsRank_55 rfl (fun c55 => ?_) (fun c55 => ?_)
      · exfalso; omega
      refine R_iconst dX12_readsRank_58 (?_ : RR _ _ _ _ 59 _ _ _ _)
      exact R_ireturn dX12_readsRank_59 (by first | exact Or.inl rfl | exact Or.inr rfl | exact ok_ite | omega | assumption) hq2
theorem M_rank (ih : ∀ N', N' < N → mLv σ b N') (hth : mTh σ b N) (hσn : ∀ p : Nat, b ≤ p → σ p = -1) (hb : b ≤ 40) : mLv σ b N := by
  intro m d p l u v h hm hd hp hl hN ht hs
  show RR _ _ _ _ _ [pR 147, pI m, pU, pU] _ _ _
  by_cases m3 : m = 3
  · subst m3
    have hT := hth d p l u v h hd hp hl hN ht hs
    show RR mX12_readsRank _ _ _ _ [pR 147, pI 3, pU, pU] _ _ _
    refine R_iload_n dX12_readsRank_0 rfl (?_ : RR _ _ _ _ 1 _ _ _ _)
    refine R_iconst dX12_readsRank_1 (?_ : RR _ _ _ _ 2 _ _ _ _)
    refine R_icmp_ne (t := 10) dX12_readsRank_2 rfl (fun c2 => ?_) (fun c2 => ?_)
    · exfalso; omega
    refine R_aload_n dX12_readsRank_5 rfl (?_ : RR _ _ _ _ 6 _ _ _ _)
    refine R_qV0 dX12_readsRank_6 mvX12_readsThing mlX12_233 (by decide) (by omega) (Nat.le_of_ble_eq_true rfl) (Nat.le_of_ble_eq_true rfl) (hT) (fun r9 g9 hq9 => (?_ : RR _ _ _ _ 9 _ _ _ _))
    obtain ⟨z, hz, rfl⟩ := mLP_z hq9
    show RR _ _ _ _ _ _ [pI z] _ _
    exact R_ireturn dX12_readsRank_9 (by first | exact Or.inl rfl | exact Or.inr rfl | exact ok_ite | omega | assumption) hq9
  · obtain ⟨N', rfl⟩ : ∃ N', N = N' + 1 := ⟨N - 1, by unfold rpM at hN; rw [if_pos hm] at hN; omega⟩
    unfold rpM at hN
    rw [if_pos hm] at hN
    have hM2 : rpM (m + 1) p ≤ N' := by unfold rpM; rw [if_pos (by omega)]; omega
    have IH := ih N' (by omega) (m + 1) d p l u v h (by omega) hd hp hl hM2 ht hs
    have hbx := rp_b (σ := σ) hσn hb N' (m + 1) d p v u (by omega) hp hM2
    have e0 : rp σ (N' + 1) m d p v u = (if (rp σ N' (m + 1) d p v u).2.1 then rp σ N' (m + 4) d (rp σ N' (m + 1) d p v u).1 (rp σ N' (m + 1) d p v u).2.2.1 (rp σ N' (m + 1) d p v u).2.2.2 else rp σ N' (m + 1) d p v u) := by
      show (if m = 3 then _ else if m < 3 then _ else _) = _
      rw [if_neg m3, if_pos (by omega)]
    rw [e0]
    clear e0
    have LL := M_loop (N := N' + 1) (h := h) (p := p) (l := l) (d := d) (m := m) ih hσn hb (by omega) hd hl ht N' (by omega)
    generalize rp σ N' (m + 1) d p v u = x at *
    rw [show ((m + 1 : Nat) : Int) = (m : Int) + 1 by omega] at IH
    have K17 : ∀ r' g', mLP x p l d b h r' g' → ∃ z : Int, r' = some (pI z) ∧ RR mX12_readsRank (2 * (N' + 1) + 8) 0 0 17 [pR 147, pI m, pU, pU] [pI z] g' (mLP (if x.2.1 = true then rp σ N' (m + 4) d x.1 x.2.2.1 x.2.2.2 else x) p l d b h) := by
      intro r' g' hc
      obtain ⟨h6, k, rfl, f6, i6, l6, b6, kb, ⟨o6, rfl⟩ | ⟨o6, rfl, d6, g6⟩⟩ := id hc
      · refine ⟨0, rfl, ?_⟩
        rw [if_neg (fun w => by rw [o6] at w; cases w)]
        generalize mLP x p l d b h = QQ at *
        clear LL IH
        refine R_if_ne (t := 22) dX12_readsRank_17 rfl (fun c17 => ?_) (fun c17 => ?_)
        · exfalso; omega
        refine R_iconst dX12_readsRank_20 (?_ : RR _ _ _ _ 21 _ _ _ _)
        exact R_ireturn dX12_readsRank_21 (by first | exact Or.inl rfl | exact Or.inr rfl | exact ok_ite | omega | assumption) hc
      · refine ⟨1, rfl, ?_⟩
        rw [if_pos o6]
        have hx := hbx.2.2 o6 (by omega)
        have K := LL x.1 k x.2.2.1 x.2.2.2 h6 pU hbx.2.1 f6 ⟨i6, l6, d6, b6⟩ kb g6 (by unfold rpM; rw [if_neg (by omega)]; omega)
        generalize mLP (rp σ N' (m + 4) d x.1 x.2.2.1 x.2.2.2) p l d b h = QQ at *
        clear LL IH g6 hc
        refine R_if_ne (t := 22) dX12_readsRank_17 rfl (fun c17 => ?_) (fun c17 => ?_)
        rotate_left
        · exfalso; omega
        refine R_iconst dX12_readsRank_22 (?_ : RR _ _ _ _ 23 _ _ _ _)
        refine R_istore_n dX12_readsRank_23 (Nat.le_of_ble_eq_true rfl) (?_ : RR _ _ _ _ 24 [_, _, _, _] _ _ _)
        exact K
    clear LL
    generalize mLP (if x.2.1 = true then rp σ N' (m + 4) d x.1 x.2.2.1 x.2.2.2 else x) p l d b h = QQ at *
    refine R_iload_n dX12_readsRank_0 rfl (?_ : RR _ _ _ _ 1 _ _ _ _)
    refine R_iconst dX12_readsRank_1 (?_ : RR _ _ _ _ 2 _ _ _ _)
    refine R_icmp_ne (t := 10) dX12_readsRank_2 rfl (fun c2 => ?_) (fun c2 => ?_)
    rotate_left
    · exfalso; omega
    refine R_aload_n dX12_readsRank_10 rfl (?_ : RR _ _ _ _ 11 _ _ _ _)
    refine R_iload_n dX12_readsRank_11 rfl (?_ : RR _ _ _ _ 12 _ _ _ _)
    refine R_iconst dX12_readsRank_12 (?_ : RR _ _ _ _ 13 _ _ _ _)
    refine R_iadd dX12_readsRank_13 (?_ : RR _ _ _ _ 14 _ _ _ _)
    refine R_qV1 dX12_readsRank_14 mvX12_readsRank mlX12_248 (by decide) (by omega) (Nat.le_of_ble_eq_true rfl) (Nat.le_of_ble_eq_true rfl) (IH) (fun r9 g9 hq9 => (?_ : RR _ _ _ _ 17 _ _ _ _))
    obtain ⟨z, rfl, KK⟩ := K17 _ _ hq9
    show RR _ _ _ _ _ _ [pI z] _ _
    exact KK
theorem M_all (hσn : ∀ p : Nat, b ≤ p → σ p = -1) (hb : b ≤ 40) : ∀ N, mLv σ b N ∧ mTh σ b N := by
  intro N
  induction N using Nat.strongRecOn with
  | _ N ih =>
    have hth : mTh σ b N := M_thing (fun N' h' => (ih N' h').1) (fun N' h' => (ih N' h').2) hσn hb
    exact ⟨M_rank (fun N' h' => (ih N' h').1) hth hσn hb, hth⟩
end RU9
