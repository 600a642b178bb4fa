section AFE
variable {k : Nat} {h h1 h2 h3 h4 : Nat → Int → Int} {sem : Sem} {H np nc len : Nat} {v : Int} {W R F : Int → Int} {G : Nat} {en : Int} {st : Nat → Bool}
theorem mq_ft (e4 : h4 = rup (rup h3 147 (fup (h3 147) 0 0)) 147 (fup (rup h3 147 (fup (h3 147) 0 0) 147) 38 1000000)) (hf : ftE h4 h1) : mqF h3 h1 ∧ h1 147 1 = h3 147 1 ∧ h1 148 = h3 148 := by
  have e : ∀ a, a ≠ 147 → h4 a = h3 a := fun a a1 => by rw [e4, rup_n a1, rup_n a1]
  have ej : ∀ j : Int, j ≠ 0 → j ≠ 38 → h4 147 j = h3 147 j := fun j j1 j2 => by rw [e4, rup_s, fup_n j2, rup_s, fup_n j1]
  refine ⟨⟨fun a q => by rw [hf.1 a (by omega) (by omega) (by omega)]; exact e a (by omega), fun j q => by rw [hf.2 j (by omega) (by omega)]; exact ej j (by omega) (by omega), fun q => by rw [hf.2 30 (by omega) (by omega), ej 30 (by omega) (by omega)]; exact q, fun j q => by rw [hf.1 155 (by omega) (by omega) (by omega), e 155 (by omega)]⟩, by rw [hf.2 1 (by omega) (by omega)]; exact ej 1 (by omega) (by omega), by rw [hf.1 148 (by omega) (by omega) (by omega)]; exact e 148 (by omega)⟩
theorem getD_take {L : List Int} {m : Nat} (hm : m < L.length) : (L.take m).reverse = (L.take m).reverse ∧ (L.getD m 0 :: (L.take m).reverse) = (L.take (m + 1)).reverse := ⟨rfl, by
  rw [List.take_succ, List.reverse_append]
  simp [List.getD_eq_getElem?_getD, List.getElem?_eq_getElem hm]⟩
theorem M_fetch {T : Int × List Int} (hh : ftH W R (h 151) G H (stS (h 154) nc) en) (hen : 0 ≤ en ∧ en < H) (hRG : R G = h 154 0) (h147 : h 147 3 = H) (h4c : h 147 4 = nc) (h6 : nc ≤ 6) (hT : T = toS W R G en G (2 ^ G - 1) G) (e : ∀ a, 147 ≤ a → h3 a = h a) : RR mX12_fetch 8 0 0 0 (pm_ent [pR 147, pI en] 4) [] (shp0, rf0, h3) (mQ h3 (if T.1 < 100000 then T.1 else -2) (if T.1 < 100000 then some T.2 else none)) := by
  have r154 := isRw_154
  obtain ⟨f1, f2, f3, f4, f5, f6, f7, f8, f9⟩ := id hh
  have hDb := ftH_D hh
  have hEb := ftH_E hh
  have hTb := toS_b hDb hEb G (2 ^ G - 1) G (by omega) (by omega)
  rw [← hT] at hTb
  obtain ⟨st, hst⟩ : ∃ st, st = stS (h 154) nc := ⟨_, rfl⟩
  rw [← hst] at hh f2 f6 f8
  obtain ⟨h4, h4e⟩ : ∃ h4, h4 = rup h3 147 (fup (h3 147) 0 0) := ⟨_, rfl⟩
  have fr : ∀ a, 147 < a → h4 a = h a := fun a a1 => by rw [h4e, rup_n (by omega)]; exact e a (by omega)
  have fj : ∀ j : Int, j ≠ 0 → h4 147 j = h 147 j := fun j j1 => by rw [h4e, rup_s, fup_n j1, e 147 (by omega)]
  have g3 : h4 147 3 = H := by rw [fj 3 (by omega)]; exact h147
  have g4 : h4 147 4 = nc := by rw [fj 4 (by omega)]; exact h4c
  have g154 : h4 154 = h 154 := fr 154 (by omega)
  obtain ⟨h5, h5e⟩ : ∃ h5, h5 = rup h4 147 (fup (h4 147) 38 1000000) := ⟨_, rfl⟩
  have S12 : bset st H < 4096 := bset_4096 (by omega)
  have hG12 : 2 ^ G - 1 < 4096 := by
    have : 2 ^ G ≤ 2 ^ 6 := Nat.pow_le_pow_right (by omega) f3
    omega
  have hpG : pop 12 (2 ^ G - 1) = G := (show ∀ G, G < 7 → pop 12 (2 ^ G - 1) = G by decide) G (by omega)
  have hcall := FT_all hh G (2 ^ G - 1) (bset st H) G 0 [] 1000000 [] h5 hpG hG12 (fun g hg => by rw [Nat.testBit_two_pow_sub_one] at hg; simpa using hg) ⟨S12, fun c => by
    rw [bset_bit, Nat.testBit_two_pow_sub_one]
    by_cases q1 : c < H
    · cases q2 : st c
      · simp
      · have := cG_t q2 q1
        simp [q1, f2]; omega
    · simp [q1]⟩ (by omega) (by simp) (by simp) (by omega) (fun k hk => by simp at hk) ⟨by rw [h5e, rup_s, fup_s], fun z => by omega⟩ (by rw [h5e, rup_s, fup_n (by omega)]; exact g3) (by rw [h5e, rup_n (by omega)]; exact fr 151 (by omega))
  rw [← hT, hRG] at hcall
  have hcm : cmb 0 [] 1000000 [] T = if T.1 < 100000 then (T.1, T.2) else (1000000, []) := by
    unfold cmb
    by_cases q : T.1 < 100000
    · rw [if_pos (by omega), if_pos q, Int.zero_add, List.nil_append]
    · rw [if_neg (fun z => q z.1), if_neg q]
  rw [hcm] at hcall
  show RR _ _ _ _ _ [pR 147, pI en, pU, pU] _ _ _
  have K75 : ∀ (h2 : Nat → Int → Int) (w3 : PV), ftE h5 h2 → bsP (if T.1 < 100000 then (T.1, T.2) else (1000000, [])).1 (if T.1 < 100000 then (T.1, T.2) else (1000000, [])).2 h2 → RR mX12_fetch 8 0 0 75 [pR 147, pI en, pI (bset st H : Nat), pI H] [] (shp0, rf0, h2) (mQ h3 (if T.1 < 100000 then T.1 else -2) (if T.1 < 100000 then some T.2 else none)) := by
    intro h2 w3 hf2 hb2
    obtain ⟨m1, m2, m3⟩ := mq_ft (h3 := h3) (h4 := h5) (h1 := h2) (by rw [h5e, h4e]) hf2
    by_cases q : T.1 < 100000
    · rw [if_pos q] at hb2 ⊢
      rw [if_pos q]
      obtain ⟨b1, b2⟩ := hb2
      obtain ⟨b3, b4⟩ := b2 (by dsimp only; omega)
      have b1 : h2 147 38 = T.1 := b1
      have b3 : h2 147 37 = (T.2.length : Int) := b3
      have b4 : ∀ k : Nat, k < T.2.length → h2 168 k = T.2.getD k 0 ∧ 0 ≤ T.2.getD k 0 ∧ T.2.getD k 0 ≤ 8 := b4
      have hTl : T.2.length = G := by omega
      have L : ∀ (j m : Nat), m + j = T.2.length → RR mX12_fetch 8 0 0 94 [pR 147, pI en, pI (bset st H : Nat), pI m] [] (shp0, rf0, tmR h2 (T.2.take m).reverse) (mQ h3 T.1 (some T.2)) := by
        intro j
        induction j with
        | zero =>
          intro m hm
          obtain rfl : m = T.2.length := by omega
          have c37 : tmR h2 (T.2.take T.2.length).reverse 147 37 = (T.2.length : Int) := by rw [tmR_j (by omega)]; exact b3
          have c38 : tmR h2 (T.2.take T.2.length).reverse 147 38 = T.1 := by rw [tmR_j (by omega)]; exact b1
          rw [List.take_length] at c37 c38 ⊢
          refine R_iload_n dX12_fetch_94 rfl (?_ : RR _ _ _ _ 95 _ _ _ _)
          refine R_aload_n dX12_fetch_95 rfl (?_ : RR _ _ _ _ 96 _ _ _ _)
          refine R_geti (z := 37) dX12_fetch_96 flX12_435 cok_12 rfl (by decide) rfl (fun q96 => (?_ : RR _ _ _ _ 99 _ _ _ _))
          rw [c37] at q96 ⊢
          refine R_icmp_ge (t := 119) dX12_fetch_99 rfl (fun c99 => ?_) (fun c99 => ?_)
          rotate_left
          · exfalso; omega
          refine R_aload_n dX12_fetch_119 rfl (?_ : RR _ _ _ _ 120 _ _ _ _)
          refine R_geti (z := 38) dX12_fetch_120 flX12_432 cok_12 rfl (by decide) rfl (fun q120 => (?_ : RR _ _ _ _ 123 _ _ _ _))
          rw [c38] at q120 ⊢
          exact R_ireturn dX12_fetch_123 trivial (mQ_tm m1 (by simp))
        | succ j ih =>
          intro m hm
          have IH := ih (m + 1) (by omega)
          have c37 : tmR h2 (T.2.take m).reverse 147 37 = (T.2.length : Int) := by rw [tmR_j (by omega)]; exact b3
          have c168 : tmR h2 (T.2.take m).reverse 168 m = T.2.getD m 0 := by rw [tmR_n (by omega) (by omega)]; exact (b4 m (by omega)).1
          have hb4 := (b4 m (by omega)).2
          rw [← (getD_take (show m < T.2.length by omega)).2] at IH
          have hln : (T.2.take m).reverse.length < 24 := by simp; omega
          generalize T.2.getD m 0 = x at c168 hb4 IH
          refine R_iload_n dX12_fetch_94 rfl (?_ : RR _ _ _ _ 95 _ _ _ _)
          refine R_aload_n dX12_fetch_95 rfl (?_ : RR _ _ _ _ 96 _ _ _ _)
          refine R_geti (z := 37) dX12_fetch_96 flX12_435 cok_12 rfl (by decide) rfl (fun q96 => (?_ : RR _ _ _ _ 99 _ _ _ _))
          rw [c37] at q96 ⊢
          refine R_icmp_ge (t := 119) dX12_fetch_99 rfl (fun c99 => ?_) (fun c99 => ?_)
          · exfalso; omega
          refine R_aload_n dX12_fetch_102 rfl (?_ : RR _ _ _ _ 103 _ _ _ _)
          refine R_aload_n dX12_fetch_103 rfl (?_ : RR _ _ _ _ 104 _ _ _ _)
          refine R_getr dX12_fetch_104 flX12_75 cok_12 rfl (by decide) (?_ : RR _ _ _ _ 107 _ _ _ _)
          refine R_iload_n dX12_fetch_107 rfl (?_ : RR _ _ _ _ 108 _ _ _ _)
          refine R_iald dX12_fetch_108 (fun q108 => (?_ : RR _ _ _ _ 109 _ _ _ _))
          rw [c168] at q108 ⊢
          refine R_i2l dX12_fetch_109 (by first | assumption | omega) (?_ : RR _ _ _ _ 110 _ _ _ _)
          refine R_cVv1 dX12_fetch_110 mvX12_enters mlX12_116 (by decide) (by decide) (Nat.le_of_ble_eq_true rfl) (Nat.le_of_ble_eq_true rfl) (T_tma hln (by omega)) (?_ : RR _ _ _ _ 113 _ _ _ _)
          refine R_iinc dX12_fetch_113 rfl (Nat.le_of_ble_eq_true rfl) (?_ : RR _ _ _ _ 116 [_, _, _, _] _ _ _)
          refine R_goto (t := 94) dX12_fetch_116 rfl (?_ : RR _ _ _ _ 94 _ _ _ _)
          exact IH
      have L0 := L T.2.length 0 (by omega)
      rw [List.take_zero, List.reverse_nil] at L0
      refine R_aload_n dX12_fetch_75 rfl (?_ : RR _ _ _ _ 76 _ _ _ _)
      refine R_geti (z := 38) dX12_fetch_76 flX12_432 cok_12 rfl (by decide) rfl (fun q76 => (?_ : RR _ _ _ _ 79 _ _ _ _))
      rw [b1] at q76 ⊢
      refine R_ldc (z := 1000000) dX12_fetch_79 kwX12_138 (?_ : RR _ _ _ _ 81 _ _ _ _)
      refine R_icmp_lt (t := 87) dX12_fetch_81 rfl (fun c81 => ?_) (fun c81 => ?_)
      rotate_left
      · exfalso; omega
      refine R_aload_n dX12_fetch_87 rfl (?_ : RR _ _ _ _ 88 _ _ _ _)
      refine R_iconst dX12_fetch_88 (?_ : RR _ _ _ _ 89 _ _ _ _)
      refine R_puti (zk := 1) dX12_fetch_89 flX12_113 cok_12 (by decide) (fun q hq => by cases hq; rfl) rfl (?_ : RR _ _ _ _ 92 _ _ _ _)
      show RR _ _ _ _ _ _ _ (shp0, rf0, tmR h2 []) _
      refine R_iconst dX12_fetch_92 (?_ : RR _ _ _ _ 93 _ _ _ _)
      refine R_istore_n dX12_fetch_93 (Nat.le_of_ble_eq_true rfl) (?_ : RR _ _ _ _ 94 [_, _, _, _] _ _ _)
      exact L0
    · rw [if_neg q] at hb2 ⊢
      rw [if_neg q]
      have b1 : h2 147 38 = 1000000 := hb2.1
      have hq : mQ h3 (-2) none (some (pI (-2))) (shp0, rf0, h2) := ⟨h2, rfl, rfl, m1, m2, m3⟩
      refine R_aload_n dX12_fetch_75 rfl (?_ : RR _ _ _ _ 76 _ _ _ _)
      refine R_geti (z := 38) dX12_fetch_76 flX12_432 cok_12 rfl (by decide) rfl (fun q76 => (?_ : RR _ _ _ _ 79 _ _ _ _))
      rw [b1] at q76 ⊢
      refine R_ldc (z := 1000000) dX12_fetch_79 kwX12_138 (?_ : RR _ _ _ _ 81 _ _ _ _)
      refine R_icmp_lt (t := 87) dX12_fetch_81 rfl (fun c81 => ?_) (fun c81 => ?_)
      · exfalso; omega
      refine R_bipush dX12_fetch_84 rfl (?_ : RR _ _ _ _ 86 _ _ _ _)
      exact R_ireturn dX12_fetch_86 trivial hq
  have L : ∀ (j c : Nat), c + j = H → RR mX12_fetch 8 0 0 19 [pR 147, pI en, pI (bset st c : Nat), pI c] [] (shp0, rf0, h4) (mQ h3 (if T.1 < 100000 then T.1 else -2) (if T.1 < 100000 then some T.2 else none)) := by
    intro j
    induction j with
    | zero =>
      intro c hc
      obtain rfl : c = H := by omega
      have r0 := f5 G (by omega)
      rw [hRG] at r0
      have KK := fun h2 hf2 hb2 => K75 h2 pU hf2 hb2
      have g0 : h5 154 0 = h 154 0 := by rw [h5e, rup_n (by omega), g154]
      refine R_iload_n dX12_fetch_19 rfl (?_ : RR _ _ _ _ 20 _ _ _ _)
      refine R_aload_n dX12_fetch_20 rfl (?_ : RR _ _ _ _ 21 _ _ _ _)
      refine R_geti (z := 3) dX12_fetch_21 flX12_13 cok_12 rfl (by decide) rfl (fun q21 => (?_ : RR _ _ _ _ 24 _ _ _ _))
      rw [g3] at q21 ⊢
      refine R_icmp_ge (t := 55) dX12_fetch_24 rfl (fun c24 => ?_) (fun c24 => ?_)
      rotate_left
      · exfalso; omega
      refine R_aload_n dX12_fetch_55 rfl (?_ : RR _ _ _ _ 56 _ _ _ _)
      refine R_ldc (z := 1000000) dX12_fetch_56 kwX12_138 (?_ : RR _ _ _ _ 58 _ _ _ _)
      refine R_puti (zk := 38) dX12_fetch_58 flX12_432 cok_12 (by decide) (fun q hq => by cases hq; rfl) rfl (?_ : RR _ _ _ _ 61 _ _ _ _)
      rw [← h5e]
      refine R_aload_n dX12_fetch_61 rfl (?_ : RR _ _ _ _ 62 _ _ _ _)
      refine R_aload_n dX12_fetch_62 rfl (?_ : RR _ _ _ _ 63 _ _ _ _)
      refine R_getr dX12_fetch_63 flX12_33 cok_12 rfl (by decide) (?_ : RR _ _ _ _ 66 _ _ _ _)
      refine R_iconst dX12_fetch_66 (?_ : RR _ _ _ _ 67 _ _ _ _)
      refine R_iald dX12_fetch_67 (fun q67 => (?_ : RR _ _ _ _ 68 _ _ _ _))
      rw [g0] at q67 ⊢
      refine R_iload_n dX12_fetch_68 rfl (?_ : RR _ _ _ _ 69 _ _ _ _)
      refine R_iconst dX12_fetch_69 (?_ : RR _ _ _ _ 70 _ _ _ _)
      refine R_iconst dX12_fetch_70 (?_ : RR _ _ _ _ 71 _ _ _ _)
      refine R_iload_n dX12_fetch_71 rfl (?_ : RR _ _ _ _ 72 _ _ _ _)
      refine R_qV5 dX12_fetch_72 mvX12_fetches mlX12_438 (by decide) (by omega) (Nat.le_of_ble_eq_true rfl) (Nat.le_of_ble_eq_true rfl) (hcall) (fun r9 g9 hq9 => (?_ : RR _ _ _ _ 75 _ _ _ _))
      obtain ⟨rfl, h6, rfl, hf6, hk6, hb6⟩ := hq9
      show RR _ _ _ _ _ _ [] _ _
      exact KK h6 hf6 hb6
    | succ j ih =>
      intro c hc
      have IH := ih (c + 1) (by omega)
      have hT2 := T_X12_standingAt (h := h4) (r := 154) (nc := nc) (c := (c : Int)) g4
      rw [g154] at hT2
      have hsc : bset (fun j : Nat => decide (mP (h 154) j < 0 ∧ mA (h 154) j = (c : Int))) nc ≠ 0 ↔ st c = true := by rw [hst]; unfold stS; rw [decide_eq_true_iff]
      have hb0 := bset_31 (P := fun j : Nat => decide (mP (h 154) j < 0 ∧ mA (h 154) j = (c : Int))) (n := nc) (by omega)
      have hbc := bset_4096 (P := st) (n := c) (by omega)
      generalize bset (fun j : Nat => decide (mP (h 154) j < 0 ∧ mA (h 154) j = (c : Int))) nc = B at hT2 hsc hb0
      by_cases z : st c = true
      · have hB := hsc.mpr z
        have e9 := bset_or (P := st) (n := c) (by omega) z
        refine R_iload_n dX12_fetch_19 rfl (?_ : RR _ _ _ _ 20 _ _ _ _)
        refine R_aload_n dX12_fetch_20 rfl (?_ : RR _ _ _ _ 21 _ _ _ _)
        refine R_geti (z := 3) dX12_fetch_21 flX12_13 cok_12 rfl (by decide) rfl (fun q21 => (?_ : RR _ _ _ _ 24 _ _ _ _))
        rw [g3] at q21 ⊢
        refine R_icmp_ge (t := 55) dX12_fetch_24 rfl (fun c24 => ?_) (fun c24 => ?_)
        · exfalso; omega
        refine R_iload_n dX12_fetch_27 rfl (?_ : RR _ _ _ _ 28 _ _ _ _)
        refine R_aload_n dX12_fetch_28 rfl (?_ : RR _ _ _ _ 29 _ _ _ _)
        refine R_aload_n dX12_fetch_29 rfl (?_ : RR _ _ _ _ 30 _ _ _ _)
        refine R_getr dX12_fetch_30 flX12_33 cok_12 rfl (by decide) (?_ : RR _ _ _ _ 33 _ _ _ _)
        refine R_iload_n dX12_fetch_33 rfl (?_ : RR _ _ _ _ 34 _ _ _ _)
        refine R_cVi2 dX12_fetch_34 mvX12_standingAt mlX12_314 (by decide) (by decide) (Nat.le_of_ble_eq_true rfl) (Nat.le_of_ble_eq_true rfl) (hT2) (?_ : RR _ _ _ _ 37 _ _ _ _)
        refine R_if_eq (t := 46) dX12_fetch_37 rfl (fun c37 => ?_) (fun c37 => ?_)
        · exfalso; omega
        refine R_iconst dX12_fetch_40 (?_ : RR _ _ _ _ 41 _ _ _ _)
        refine R_iload_n dX12_fetch_41 rfl (?_ : RR _ _ _ _ 42 _ _ _ _)
        refine R_ishl dX12_fetch_42 (?_ : RR _ _ _ _ 43 _ _ _ _)
        refine R_goto (t := 47) dX12_fetch_43 rfl (?_ : RR _ _ _ _ 47 _ _ _ _)
        refine R_ior dX12_fetch_47 (?_ : RR _ _ _ _ 48 _ _ _ _)
        rw [e9]
        refine R_istore_n dX12_fetch_48 (Nat.le_of_ble_eq_true rfl) (?_ : RR _ _ _ _ 49 [_, _, _, _] _ _ _)
        refine R_iinc dX12_fetch_49 rfl (Nat.le_of_ble_eq_true rfl) (?_ : RR _ _ _ _ 52 [_, _, _, _] _ _ _)
        refine R_goto (t := 19) dX12_fetch_52 rfl (?_ : RR _ _ _ _ 19 _ _ _ _)
        exact IH
      · have hB : B = 0 := Decidable.byContradiction (fun w => z (hsc.mp w))
        have e9 := bset_no (P := st) (n := c) (by simpa using z)
        rw [e9] at IH
        refine R_iload_n dX12_fetch_19 rfl (?_ : RR _ _ _ _ 20 _ _ _ _)
        refine R_aload_n dX12_fetch_20 rfl (?_ : RR _ _ _ _ 21 _ _ _ _)
        refine R_geti (z := 3) dX12_fetch_21 flX12_13 cok_12 rfl (by decide) rfl (fun q21 => (?_ : RR _ _ _ _ 24 _ _ _ _))
        rw [g3] at q21 ⊢
        refine R_icmp_ge (t := 55) dX12_fetch_24 rfl (fun c24 => ?_) (fun c24 => ?_)
        · exfalso; omega
        refine R_iload_n dX12_fetch_27 rfl (?_ : RR _ _ _ _ 28 _ _ _ _)
        refine R_aload_n dX12_fetch_28 rfl (?_ : RR _ _ _ _ 29 _ _ _ _)
        refine R_aload_n dX12_fetch_29 rfl (?_ : RR _ _ _ _ 30 _ _ _ _)
        refine R_getr dX12_fetch_30 flX12_33 cok_12 rfl (by decide) (?_ : RR _ _ _ _ 33 _ _ _ _)
        refine R_iload_n dX12_fetch_33 rfl (?_ : RR _ _ _ _ 34 _ _ _ _)
        refine R_cVi2 dX12_fetch_34 mvX12_standingAt mlX12_314 (by decide) (by decide) (Nat.le_of_ble_eq_true rfl) (Nat.le_of_ble_eq_true rfl) (hT2) (?_ : RR _ _ _ _ 37 _ _ _ _)
        refine R_if_eq (t := 46) dX12_fetch_37 rfl (fun c37 => ?_) (fun c37 => ?_)
        rotate_left
        · exfalso; omega
        refine R_iconst dX12_fetch_46 (?_ : RR _ _ _ _ 47 _ _ _ _)
        refine R_ior dX12_fetch_47 (?_ : RR _ _ _ _ 48 _ _ _ _)
        rw [iOr_0 (by omega)]
        refine R_istore_n dX12_fetch_48 (Nat.le_of_ble_eq_true rfl) (?_ : RR _ _ _ _ 49 [_, _, _, _] _ _ _)
        refine R_iinc dX12_fetch_49 rfl (Nat.le_of_ble_eq_true rfl) (?_ : RR _ _ _ _ 52 [_, _, _, _] _ _ _)
        refine R_goto (t := 19) dX12_fetch_52 rfl (?_ : RR _ _ _ _ 19 _ _ _ _)
        exact IH
  have L0 := L H 0 (by omega)
  refine R_aload_n dX12_fetch_0 rfl (?_ : RR _ _ _ _ 1 _ _ _ _)
  refine R_iconst dX12_fetch_1 (?_ : RR _ _ _ _ 2 _ _ _ _)
  refine R_puti (zk := 0) dX12_fetch_2 flX12_106 cok_12 (by decide) (fun q hq => by cases hq; rfl) rfl (?_ : RR _ _ _ _ 5 _ _ _ _)
  rw [← h4e]
  refine R_aload_n dX12_fetch_5 rfl (?_ : RR _ _ _ _ 6 _ _ _ _)
  refine R_iload_n dX12_fetch_6 rfl (?_ : RR _ _ _ _ 7 _ _ _ _)
  refine R_cVi1 dX12_fetch_7 mvX12_isHalt mlX12_306 (by decide) (by decide) (Nat.le_of_ble_eq_true rfl) (Nat.le_of_ble_eq_true rfl) (T_X12_isHalt (by rw [g3]; omega)) (?_ : RR _ _ _ _ 10 _ _ _ _)
  rw [g3, if_pos (by omega)]
  refine R_if_ne (t := 15) dX12_fetch_10 rfl (fun c10 => ?_) (fun c10 => ?_)
  rotate_left
  · exfalso; omega
  refine R_iconst dX12_fetch_15 (?_ : RR _ _ _ _ 16 _ _ _ _)
  refine R_istore_n dX12_fetch_16 (Nat.le_of_ble_eq_true rfl) (?_ : RR _ _ _ _ 17 [_, _, _, _] _ _ _)
  refine R_iconst dX12_fetch_17 (?_ : RR _ _ _ _ 18 _ _ _ _)
  refine R_istore_n dX12_fetch_18 (Nat.le_of_ble_eq_true rfl) (?_ : RR _ _ _ _ 19 [_, _, _, _] _ _ _)
  exact L0
theorem A_fetch (hs : SRx k h sem H np nc len) (hv : r32 v) : AG mX11_fetch mX12_fetch 4 8 [pI v] k h := by
  have x6 := sR6 hs
  obtain ⟨o1, o2, o3, o4, o5, o6, o7, o8, o9⟩ : xOK (cxM sem h np nc) H := hs.1.2.2.2.2.1
  have o7 : farB (h 151) := o7
  obtain ⟨c1, c2, c3, c4, c5, c6, c7⟩ := hs.1.2.2.2.2.2.2.1
  have h3H : h 3 0 = H := hs.1.2.2.2.1
  have h147 : h 147 3 = H := hs.1.1
  have h4c : h 147 4 = nc := hs.1.2.1
  obtain ⟨hf, e0, e1, e2, e3, ep, ea, es⟩ := id hs.2.2.2.1.1
  have n3 := isNet_3
  by_cases q : 0 ≤ v ∧ v < H
  · obtain ⟨G, hG⟩ : ∃ G, G = cG (stS (h 154) nc) H := ⟨_, rfl⟩
    obtain ⟨R, hR⟩ : ∃ R, R = fup (ptR (stS (h 154) nc) (h 143) H) G (h 14 0) := ⟨_, rfl⟩
    have hG6 : cG (stS (h 154) nc) H ≤ 6 := Nat.le_trans (cG_le nc) x6
    have hen0 : 0 ≤ h 154 0 ∧ h 154 0 < H := hf.1
    have hRG : R G = h 154 0 := by rw [hR, fup_s]; exact e0
    have hRg : ∀ g : Nat, g < G → ∃ c : Nat, c < H ∧ stS (h 154) nc c = true ∧ cG (stS (h 154) nc) c = g ∧ R g = (c : Int) := fun g hg => by
      obtain ⟨c, y1, y2, y3, y4⟩ := ptR_p (st := stS (h 154) nc) (p0 := h 143) H g (by omega)
      exact ⟨c, y1, y2, y3, by rw [hR, fup_n (by omega)]; exact y4⟩
    have hRb : ∀ g : Nat, g ≤ G → 0 ≤ R g ∧ R g < H := fun g hg => by
      by_cases z : g = G
      · rw [z, hRG]; exact hen0
      · obtain ⟨c, y1, y2, y3, y4⟩ := hRg g (by omega)
        rw [y4]; omega
    have hRc : ∀ c : Nat, c < H → stS (h 154) nc c = true → R (cG (stS (h 154) nc) c) = (c : Int) := fun c hc hz => by
      have hl := cG_t hz hc
      obtain ⟨c', y1, y2, y3, y4⟩ := hRg (cG (stS (h 154) nc) c) (by omega)
      rw [y4, cG_inj y2 hz y3]
    have hW : ∀ a b : Int, 0 ≤ a → a < H → 0 ≤ b → b < H → h 6 (a * 9 + b) = nds (h 151) (a * 9 + b) := c1.2
    have hh : ftH (h 6) R (h 151) G H (stS (h 154) nc) v := by
      refine ⟨o7, hG, by omega, o2, fun g hg => by have := hRb g hg; omega, hRc, by omega, fun i c hi hc hz => ?_, fun i hi => ?_⟩
      · unfold toD
        rw [hRc c hc hz]
        have := hRb i hi
        exact hW _ _ this.1 this.2 (by omega) (by omega)
      · have := hRb i hi
        exact hW _ _ this.1 this.2 q.1 q.2
    refine A_q hs (C_fetch (st := stS (h 154) nc) (nc := nc) q h3H o2 e2 x6 (fun c hc => ?_) hG6 hG hR (by rw [e0]; omega) rfl c6 rfl (ftH_D hh) (ftH_E hh) rfl) (fun h3 e => M_fetch hh q hRG h147 h4c x6 rfl e) (fun L e => ?_)
    · rw [show bset (fun j => decide (h (14 + 2) j = -1 ∧ h (14 + 3) j = (c : Int))) nc = bset (fun j : Nat => decide (mP (h 154) j < 0 ∧ mA (h 154) j = (c : Int))) nc from bset_congr (fun j hj => by
        have h1 := ep j hj
        have h2 := ea j hj
        have h3 := fOK_pl hf (c := (j : Int)) (by omega) (show (j : Int) < nc by omega)
        rw [h1]
        by_cases z : mP (h 154) j = -1
        · rw [h2 z, z]; simp
        · rw [decide_eq_false (fun w => z w.1), decide_eq_false (fun w => by omega)])]
      unfold stS
      rw [decide_eq_true_iff]
    · split at e
      · rename_i z
        injection e with e
        have := toS_b (ftH_D hh) (ftH_E hh) G (2 ^ G - 1) G (by omega) (by omega)
        rw [← e]
        omega
      · cases e
  · refine A_q hs (z := -1) (o := none) (cQ_no (M := mX11_fetch) (d := 4) (As := [pR 0, pI v]) (MT.of (fun Q hQ => (?_ : RR mX11_fetch _ _ _ _ [pR 0, pI v, pU] _ _ _)))) (fun h3 e => mQ_thr (M := mX12_fetch) (d := 8) (As := [pR 147, pI v]) (MT.of (fun Q hQ => (?_ : RR mX12_fetch _ _ _ _ [pR 147, pI v, pU, pU] _ _ _)))) (fun L e => by cases e)
    · refine R_aload_n dX11_fetch_0 rfl (?_ : RR _ _ _ _ 1 _ _ _ _)
      refine R_getr dX11_fetch_1 flX11_19 cok_11 rfl (by decide) (?_ : RR _ _ _ _ 4 _ _ _ _)
      refine R_iload_n dX11_fetch_4 rfl (?_ : RR _ _ _ _ 5 _ _ _ _)
      refine R_cVi1 dX11_fetch_5 mvX0_has mlX11_289 (by decide) (by decide) (Nat.le_of_ble_eq_true rfl) (Nat.le_of_ble_eq_true rfl) (T_X0_has) (?_ : RR _ _ _ _ 8 _ _ _ _)
      rw [h3H, if_neg q]
      refine R_if_ne (t := 13) dX11_fetch_8 rfl (fun c8 => ?_) (fun c8 => ?_)
      · exfalso; omega
      refine R_iconst dX11_fetch_11 (?_ : RR _ _ _ _ 12 _ _ _ _)
      exact R_ireturn dX11_fetch_12 trivial hQ
    · have g3 : rup h3 147 (fup (h3 147) 0 0) 147 3 = H := by rw [rup_s, fup_n (by omega), e 147 (by omega)]; exact h147
      refine R_aload_n dX12_fetch_0 rfl (?_ : RR _ _ _ _ 1 _ _ _ _)
      refine R_iconst dX12_fetch_1 (?_ : RR _ _ _ _ 2 _ _ _ _)
      refine R_puti (zk := 0) dX12_fetch_2 flX12_106 cok_12 (by decide) (fun q hq => by cases hq; rfl) rfl (?_ : RR _ _ _ _ 5 _ _ _ _)
      refine R_aload_n dX12_fetch_5 rfl (?_ : RR _ _ _ _ 6 _ _ _ _)
      refine R_iload_n dX12_fetch_6 rfl (?_ : RR _ _ _ _ 7 _ _ _ _)
      refine R_cVi1 dX12_fetch_7 mvX12_isHalt mlX12_306 (by decide) (by decide) (Nat.le_of_ble_eq_true rfl) (Nat.le_of_ble_eq_true rfl) (T_X12_isHalt (by rw [g3]; omega)) (?_ : RR _ _ _ _ 10 _ _ _ _)
      rw [g3, if_neg (by omega)]
      refine R_if_ne (t := 15) dX12_fetch_10 rfl (fun c10 => ?_) (fun c10 => ?_)
      · exfalso; omega
      refine R_iconst dX12_fetch_13 (?_ : RR _ _ _ _ 14 _ _ _ _)
      exact R_ireturn dX12_fetch_14 trivial hQ
end AFE
