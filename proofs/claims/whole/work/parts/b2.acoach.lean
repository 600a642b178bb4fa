section ACO
variable {k : Nat} {h h1 h2 h3 h4 : Nat → Int → Int} {sem : Sem} {H np nc len n : Nat} {X X' : Cx} {f s : Int → Int}
/-- the class reads nothing, or finds a fault -/
theorem C_coaches_no {r : Int} (h1n : h 1 1 = n) (hn80 : n ≤ 80) (hr0 : r ≤ 0) (hrb : -100 ≤ r) (hck : MT mX11_checkCoaches 2 [pR 0] h (some (pI r)) (rup h 1 (fup (h 1) 2 n))) : MT mX11_coaches 3 [pR 0] h (some (pI r)) (rup h 1 (fup (fup (h 1) 2 n) 1 0)) := by
  refine MT.of (fun Q hQ => (?_ : RR mX11_coaches _ _ _ _ [pR 0, pU, pU] _ _ _))
  refine R_aload_n dX11_coaches_0 rfl (?_ : RR _ _ _ _ 1 _ _ _ _)
  refine R_cVi0 dX11_coaches_1 mvX11_checkCoaches mlX11_125 (by decide) (by decide) (Nat.le_of_ble_eq_true rfl) (Nat.le_of_ble_eq_true rfl) (hck) (?_ : RR _ _ _ _ 4 _ _ _ _)
  try simp (disch := omega) only [rup_rup, rup_sort, rupS_def, rup_s, rup_n, fup_fup, fup_s, fup_n]
  refine R_istore_n dX11_coaches_4 (Nat.le_of_ble_eq_true rfl) (?_ : RR _ _ _ _ 5 [_, _, _] _ _ _)
  refine R_iconst dX11_coaches_5 (?_ : RR _ _ _ _ 6 _ _ _ _)
  refine R_istore_n dX11_coaches_6 (Nat.le_of_ble_eq_true rfl) (?_ : RR _ _ _ _ 7 [_, _, _] _ _ _)
  skip
  refine R_iload_n dX11_coaches_7 rfl (?_ : RR _ _ _ _ 8 _ _ _ _)
  refine R_iload_n dX11_coaches_8 rfl (?_ : RR _ _ _ _ 9 _ _ _ _)
  refine R_icmp_ge (t := 42) dX11_coaches_9 rfl (fun c9 => ?_) (fun c9 => ?_)
  rotate_left
  · exfalso; omega
  refine R_aload_n dX11_coaches_42 rfl (?_ : RR _ _ _ _ 43 _ _ _ _)
  refine R_getr dX11_coaches_43 flX11_10 cok_11 rfl (by decide) (?_ : RR _ _ _ _ 46 _ _ _ _)
  refine R_iconst dX11_coaches_46 (?_ : RR _ _ _ _ 47 _ _ _ _)
  refine R_puti (zk := 1) dX11_coaches_47 flX11_91 cok_7 (by decide) (fun q hq => by cases hq; rfl) rfl (?_ : RR _ _ _ _ 50 _ _ _ _)
  try simp (disch := omega) only [rup_rup, rup_sort, rupS_def, rup_s, rup_n, fup_fup, fup_s, fup_n]
  refine R_iload_n dX11_coaches_50 rfl (?_ : RR _ _ _ _ 51 _ _ _ _)
  refine R_if_le (t := 61) dX11_coaches_51 rfl (fun c51 => ?_) (fun c51 => ?_)
  rotate_left
  · exfalso; omega
  refine R_iload_n dX11_coaches_61 rfl (?_ : RR _ _ _ _ 62 _ _ _ _)
  exact R_ireturn dX11_coaches_62 trivial hQ
def cfF (h h1 : Nat → Int → Int) : Prop := ∀ a, ¬ (a = 1 ∨ (14 ≤ a ∧ a ≤ 18)) → h1 a = h a
theorem C_coaches (hs : SRx k h sem H np nc len) (h1n : h 1 1 = n) (hn1 : 1 ≤ n) (hn80 : n ≤ 80) (hs2 : ∀ i : Nat, i < n → h 2 i = s i ∧ 0 ≤ s i ∧ s i ≤ 255) (hg : ∀ i, i < n → coG s H nc i) : RR mX11_coaches 3 0 0 0 (pm_ent [pR 0] 3) [] (shp0, rf0, h) (fun r' g' => r' = some (pI n) ∧ ∃ h2, g' = (shp0, rf0, h2) ∧ (∀ a, ¬ (a = 1 ∨ (14 ≤ a ∧ a ≤ 18) ∨ a = 44 ∨ a = 47) → h2 a = h a) ∧ h2 1 1 = 0 ∧ Cpl (cxM sem h np (nc + n)) H h2 14 (coF s (h 154) nc len n).1 (coF s (h 154) nc len n).2 ∧ h2 44 3 = 0 ∧ h2 44 4 = h 44 4 ∧ ∀ i : Nat, i < 3 → h2 47 i = 0) := by
  have x6 := sR6 hs
  have hH := sRH hs
  have t14 := isTr_14
  have h3H : h 3 0 = H := hs.1.2.2.2.1
  have hcp := hs.2.2.2.1.1
  have e2 : h 14 2 = nc := hcp.2.2.2.1
  have hck := T_X11_checkCoaches (s := s) h1n hn80 hs2 h3H hH.2 e2 x6 (Or.inl ⟨rfl, hg⟩)
  have hln : len ≤ nc := hcp.1.2.2.1
  show RR _ _ _ _ _ [pR 0, pU, pU] _ _ _
  suffices hS : ∀ Q : Option PV → PH → Prop, (∀ h2, (∀ a, ¬ (a = 1 ∨ (14 ≤ a ∧ a ≤ 18) ∨ a = 44 ∨ a = 47) → h2 a = h a) → h2 1 1 = 0 → Cpl (cxM sem h np (nc + n)) H h2 14 (coF s (h 154) nc len n).1 (coF s (h 154) nc len n).2 → h2 44 3 = 0 → h2 44 4 = h 44 4 → (∀ i : Nat, i < 3 → h2 47 i = 0) → Q (some (pI n)) (shp0, rf0, h2)) → RR mX11_coaches 3 0 0 0 [pR 0, pU, pU] [] (shp0, rf0, h) Q from hS _ (fun h2 q1 q2 q3 q4 q5 q6 => ⟨rfl, h2, rfl, q1, q2, q3, q4, q5, q6⟩)
  intro Q hQ
  have L : ∀ (j i : Nat) (h1 : Nat → Int → Int), i + j = n → cfF h h1 → h1 1 1 = n → h1 1 2 = n → Cpl (cxM sem h np (nc + i)) H h1 14 (coF s (h 154) nc len i).1 (coF s (h 154) nc len i).2 → RR mX11_coaches 3 0 0 7 [pR 0, pI n, pI i] [] (shp0, rf0, h1) Q := by
    intro j
    induction j with
    | zero =>
      intro i h1 hi hf g1 g2 hc
      obtain rfl : i = n := by omega
      have hq := hQ (rup (rup (rup h1 1 (fup (h1 1) 1 0)) 44 (fup (h1 44) 3 0)) 47 (fup (fup (fup (h1 47) 0 0) 1 0) 2 0)) (fun a q => by rw [rup_n (by omega), rup_n (by omega), rup_n (by omega)]; exact hf a (by omega)) (by rw [rup_n (by omega), rup_n (by omega), rup_s, fup_s]) (Cpl_fr hc (fun a a1 a2 => by rw [rup_n (by omega), rup_n (by omega), rup_n (by omega)])) (by rw [rup_n (by omega), rup_s, fup_s]) (by rw [rup_n (by omega), rup_s, fup_n (by omega), hf 44 (by omega)]) (fun i' hi' => by
        rw [rup_s]
        have : i' = 0 ∨ i' = 1 ∨ i' = 2 := by omega
        rcases this with rfl | rfl | rfl
        · rw [fup_n (by omega), fup_n (by omega)]; exact fup_s
        · rw [fup_n (by omega)]; exact fup_s
        · exact fup_s)
      refine R_iload_n dX11_coaches_7 rfl (?_ : RR _ _ _ _ 8 _ _ _ _)
      refine R_iload_n dX11_coaches_8 rfl (?_ : RR _ _ _ _ 9 _ _ _ _)
      refine R_icmp_ge (t := 42) dX11_coaches_9 rfl (fun c9 => ?_) (fun c9 => ?_)
      rotate_left
      · exfalso; omega
      refine R_aload_n dX11_coaches_42 rfl (?_ : RR _ _ _ _ 43 _ _ _ _)
      refine R_getr dX11_coaches_43 flX11_10 cok_11 rfl (by decide) (?_ : RR _ _ _ _ 46 _ _ _ _)
      refine R_iconst dX11_coaches_46 (?_ : RR _ _ _ _ 47 _ _ _ _)
      refine R_puti (zk := 1) dX11_coaches_47 flX11_91 cok_7 (by decide) (fun q hq => by cases hq; rfl) rfl (?_ : RR _ _ _ _ 50 _ _ _ _)
      try simp (disch := omega) only [rup_rup, rup_sort, rupS_def, rup_s, rup_n, fup_fup, fup_s, fup_n]
      refine R_iload_n dX11_coaches_50 rfl (?_ : RR _ _ _ _ 51 _ _ _ _)
      refine R_if_le (t := 61) dX11_coaches_51 rfl (fun c51 => ?_) (fun c51 => ?_)
      · exfalso; omega
      refine R_aload_n dX11_coaches_54 rfl (?_ : RR _ _ _ _ 55 _ _ _ _)
      refine R_getr dX11_coaches_55 flX11_66 cok_11 rfl (by decide) (?_ : RR _ _ _ _ 58 _ _ _ _)
      refine R_cVv0 dX11_coaches_58 mvX1_forgetAll mlX11_122 (by decide) (by decide) (Nat.le_of_ble_eq_true rfl) (Nat.le_of_ble_eq_true rfl) (T_X1_forgetAll) (?_ : RR _ _ _ _ 61 _ _ _ _)
      try simp (disch := omega) only [rup_rup, rup_sort, rupS_def, rup_s, rup_n, fup_fup, fup_s, fup_n]
      refine R_iload_n dX11_coaches_61 rfl (?_ : RR _ _ _ _ 62 _ _ _ _)
      exact R_ireturn dX11_coaches_62 trivial hq
    | succ j ih =>
      intro i h1 hi hf g1 g2 hc
      obtain ⟨q1, q2⟩ := hg i (by omega)
      have hli : (coF s (h 154) nc len i).2 ≤ len + i := coF_len i
      have g3 : h1 3 0 = H := by rw [hf 3 (by omega)]; exact h3H
      have hsb := hs2 i (by omega)
      have hsi : signAt h1 i = s i := by
        unfold signAt
        rw [g2, if_pos (by omega), hf 2 (by omega)]
        exact hsb.1
      have hnum := T_X7_numberAt (h := h1) (p := i) (f := 97) (m := H) (by rw [hsi]; omega)
      rw [show numAt h1 i 97 H = coZ s i by
        unfold numAt coZ
        rw [hsi]
        by_cases y : s i = 43
        · rw [if_pos y, if_neg (by omega)]
        · rw [if_neg y, if_pos (by omega)]] at hnum
      have hz : coZ s i = -1 ∨ (0 ≤ coZ s i ∧ coZ s i < H) := by
        unfold coZ
        by_cases y : s i = 43
        · rw [if_pos y]; exact Or.inl rfl
        · rw [if_neg y]; right; omega
      have c2 : h1 14 2 = ((nc + i : Nat) : Int) := hc.2.2.2.1
      have c3 : h1 14 3 = ((coF s (h 154) nc len i).2 : Int) := hc.2.2.2.2.1
      have IH := ih (i + 1)
      rw [show coF s (h 154) nc len (i + 1) = (coA (coF s (h 154) nc len i).1 (nc + i) (coF s (h 154) nc len i).2 (coZ s i), coL (coZ s i) (coF s (h 154) nc len i).2) from rfl] at IH
      generalize coF s (h 154) nc len i = cf at hc c3 hli IH
      generalize coZ s i = z at hnum hz IH
      have hadd := T_X9_add (t := 14) (n := nc + i) (l := cf.2) (z := z) (h := h1) c2 c3 t14 (by omega) (by omega) (by omega)
      have key : ∀ h5, h5 = (if z = -1 then rup (rup (rup h1 14 (fup (fup (h1 14) 2 ((nc + i : Nat) + 1)) 3 (cf.2 + 1))) (14 + 1) (fup (h1 (14 + 1)) cf.2 (nc + i : Nat))) (14 + 2) (fup (h1 (14 + 2)) (nc + i : Nat) cf.2) else rup (rup (rup h1 14 (fup (h1 14) 2 ((nc + i : Nat) + 1))) (14 + 2) (fup (h1 (14 + 2)) (nc + i : Nat) (-1))) (14 + 3) (fup (h1 (14 + 3)) (nc + i : Nat) z)) → RR mX11_coaches 3 0 0 7 [pR 0, pI n, pI ((i : Int) + 1)] [] (shp0, rf0, h5) Q := fun h5 h5e => by
        have fr : ∀ a, ¬ (14 ≤ a ∧ a ≤ 18) → h5 a = h1 a := fun a q => by
          rw [h5e]
          split
          · rw [rup_n (by omega), rup_n (by omega), rup_n (by omega)]
          · rw [rup_n (by omega), rup_n (by omega), rup_n (by omega)]
        refine IH h5 (by omega) (fun a q => by rw [fr a (by omega)]; exact hf a q) (by rw [fr 1 (by omega)]; exact g1) (by rw [fr 1 (by omega)]; exact g2) (coA_Cpl (X := cxM sem h np (nc + i)) hc (show nc + i < 6 from q2) (show nc + (i + 1) = nc + i + 1 by omega) rfl rfl hz ?_ ?_ ?_ ?_ ?_ ?_ ?_)
        all_goals rw [h5e]
        all_goals by_cases q : z = -1
        all_goals first | simp only [if_pos q] | simp only [if_neg q]
        · intro j j1 j2; rw [rup_n (by omega), rup_n (by omega), rup_s, fup_n (by omega), fup_n (by omega)]
        · intro j j1 j2; rw [rup_n (by omega), rup_n (by omega), rup_s, fup_n (by omega)]
        · rw [rup_n (by omega), rup_n (by omega), rup_s, fup_n (by omega), fup_s]; rfl
        · rw [rup_n (by omega), rup_n (by omega), rup_s, fup_s]; rfl
        · rw [rup_n (by omega), rup_n (by omega), rup_s, fup_s]; unfold coL; rw [if_pos q]; rfl
        · rw [rup_n (by omega), rup_n (by omega), rup_s, fup_n (by omega)]; unfold coL; rw [if_neg q]; exact c3
        · rw [rup_n (by omega), rup_s]; rfl
        · rw [rup_n (by omega), rup_n (by omega), rup_n (by omega)]
        · rw [rup_s]; rfl
        · rw [rup_n (by omega), rup_s]; rfl
        · rw [rup_n (by omega), rup_n (by omega), rup_n (by omega)]
        · rw [rup_s]; rfl
        · rw [rup_n (by omega), rup_n (by omega), rup_n (by omega)]
        · rw [rup_n (by omega), rup_n (by omega), rup_n (by omega)]
      have KK := key _ rfl
      generalize (if z = -1 then rup (rup (rup h1 14 (fup (fup (h1 14) 2 ((nc + i : Nat) + 1)) 3 (cf.2 + 1))) (14 + 1) (fup (h1 (14 + 1)) cf.2 (nc + i : Nat))) (14 + 2) (fup (h1 (14 + 2)) (nc + i : Nat) cf.2) else rup (rup (rup h1 14 (fup (h1 14) 2 ((nc + i : Nat) + 1))) (14 + 2) (fup (h1 (14 + 2)) (nc + i : Nat) (-1))) (14 + 3) (fup (h1 (14 + 3)) (nc + i : Nat) z)) = h5 at hadd KK
      refine R_iload_n dX11_coaches_7 rfl (?_ : RR _ _ _ _ 8 _ _ _ _)
      refine R_iload_n dX11_coaches_8 rfl (?_ : RR _ _ _ _ 9 _ _ _ _)
      refine R_icmp_ge (t := 42) dX11_coaches_9 rfl (fun c9 => ?_) (fun c9 => ?_)
      · exfalso; omega
      refine R_aload_n dX11_coaches_12 rfl (?_ : RR _ _ _ _ 13 _ _ _ _)
      refine R_getr dX11_coaches_13 flX11_36 cok_11 rfl (by decide) (?_ : RR _ _ _ _ 16 _ _ _ _)
      refine R_aload_n dX11_coaches_16 rfl (?_ : RR _ _ _ _ 17 _ _ _ _)
      refine R_getr dX11_coaches_17 flX11_10 cok_11 rfl (by decide) (?_ : RR _ _ _ _ 20 _ _ _ _)
      refine R_iload_n dX11_coaches_20 rfl (?_ : RR _ _ _ _ 21 _ _ _ _)
      refine R_bipush dX11_coaches_21 rfl (?_ : RR _ _ _ _ 23 _ _ _ _)
      refine R_aload_n dX11_coaches_23 rfl (?_ : RR _ _ _ _ 24 _ _ _ _)
      refine R_getr dX11_coaches_24 flX11_19 cok_11 rfl (by decide) (?_ : RR _ _ _ _ 27 _ _ _ _)
      refine R_geti (z := 0) dX11_coaches_27 flX11_129 cok_0 rfl (by decide) rfl (fun q27 => (?_ : RR _ _ _ _ 30 _ _ _ _))
      rw [g3] at q27 ⊢
      refine R_cVi3 dX11_coaches_30 mvX7_numberAt mlX11_132 (by decide) (by decide) (Nat.le_of_ble_eq_true rfl) (Nat.le_of_ble_eq_true rfl) (hnum) (?_ : RR _ _ _ _ 33 _ _ _ _)
      refine R_cVv1 dX11_coaches_33 mvX9_add mlX11_136 (by decide) (by decide) (Nat.le_of_ble_eq_true rfl) (Nat.le_of_ble_eq_true rfl) (hadd) (?_ : RR _ _ _ _ 36 _ _ _ _)
      refine R_iinc dX11_coaches_36 rfl (Nat.le_of_ble_eq_true rfl) (?_ : RR _ _ _ _ 39 [_, _, _] _ _ _)
      refine R_goto (t := 7) dX11_coaches_39 rfl (?_ : RR _ _ _ _ 7 _ _ _ _)
      exact KK
  have L0 := L n 0 (rup h 1 (fup (h 1) 2 n)) (by omega) (fun a q => rup_n (by omega)) (by rw [rup_s, fup_n (by omega)]; exact h1n) (by rw [rup_s, fup_s]) (Cpl_fr hcp (fun a a1 a2 => rup_n (by omega)))
  refine R_aload_n dX11_coaches_0 rfl (?_ : RR _ _ _ _ 1 _ _ _ _)
  refine R_cVi0 dX11_coaches_1 mvX11_checkCoaches mlX11_125 (by decide) (by decide) (Nat.le_of_ble_eq_true rfl) (Nat.le_of_ble_eq_true rfl) (hck) (?_ : RR _ _ _ _ 4 _ _ _ _)
  refine R_istore_n dX11_coaches_4 (Nat.le_of_ble_eq_true rfl) (?_ : RR _ _ _ _ 5 [_, _, _] _ _ _)
  refine R_iconst dX11_coaches_5 (?_ : RR _ _ _ _ 6 _ _ _ _)
  refine R_istore_n dX11_coaches_6 (Nat.le_of_ble_eq_true rfl) (?_ : RR _ _ _ _ 7 [_, _, _] _ _ _)
  exact L0
end ACO
