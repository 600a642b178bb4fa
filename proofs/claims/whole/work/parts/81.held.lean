/-- behind a held vote: what each has and wishes, and the sums -/
def heldP (X : Cx) (f : Int → Int) (h h' : Nat → Int → Int) : Prop := (∀ a, ¬ (a = 31 ∨ (37 ≤ a ∧ a ≤ 43)) → h' a = h a) ∧ (∀ p : Nat, p < xP X → h' 37 p = xV X f p ∧ h' 38 p = xWi X f p) ∧ (∀ c w : Int, 0 ≤ c → c < xC X → 0 ≤ w → w < 3 → h' 39 (3 * c + w) = poS (fun p => decide (mS f p = c)) (xV X f) (xWi X f) (xP X) w) ∧ ∀ j, 0 ≤ j ∧ j < 3 → h' 40 j = poS (ridP f) (xV X f) (xWi X f) (xP X) j
theorem xV_b {X : Cx} {f : Int → Int} {p : Int} : 0 ≤ xV X f p ∧ xV X f p ≤ 99 := vtS_b
section HV
variable {k : Nat} {h h1 h2 h3 h4 : Nat → Int → Int} {sem : Sem} {H np nc len : Nat} {v : Int}
theorem C_held (hs : SRx k h sem H np nc len) : RR mX11_heldVote 4 0 0 0 (pm_ent [pR 0] 1) [] (shp0, rf0, h) (fun r' g' => r' = some (pR 36) ∧ ∃ h', g' = (shp0, rf0, h') ∧ heldP (cxM sem h np nc) (h 154) h h') := by
  obtain ⟨X, hXe⟩ : ∃ X, X = cxM sem h np nc := ⟨_, rfl⟩
  have hX := hs.1.2.2.2.2.1
  have hC := hs.1.2.2.2.2.2.2.1
  have hc := hs.2.2.2.1.1
  have hsm : xS X = sem := by rw [hXe]; rfl
  have hXP : xP X = np := by rw [hXe]; rfl
  rw [← hXe] at hX hC hc ⊢
  obtain ⟨c1, c2, c3, c4, c5, c6, ⟨t1, t2, t3⟩, c8, c9, c10, c11⟩ := id hC
  obtain ⟨hf, e0, e1, e2, e3, ep, ea, es⟩ := id hc
  obtain ⟨x1, x2, x3, x4, x5, x6, x7, x8, x9⟩ := id hX
  obtain ⟨f0, f1, fl, fo, fp, fs⟩ := id hf
  suffices hS : ∀ Q : Option PV → PH → Prop, (∀ h', heldP X (h 154) h h' → Q (some (pR 36)) (shp0, rf0, h')) → RR mX11_heldVote 4 0 0 0 [pR 0] [] (shp0, rf0, h) Q from hS _ (fun h' q => ⟨rfl, h', rfl, q⟩)
  intro Q hQ
  have hT := T_X10_hold (n := 3) (t := 14) (r := 29) (sem := xS X) (np := xP X) (h := h) c2.1 c4 c5 c6 (fun j hj => by
    rw [es j hj]
    have := fs j hj
    omega) (fun j hj hn => by
    rw [es j hj] at hn ⊢
    have := fs j hj
    rw [cpl_hal hc (by omega) (by omega)]
    have := fOK_hal hf (c := mS (h 154) j) (by omega) (by omega)
    omega) (fun j hj => by
    rw [(c2.2 j hj).1]
    have := x9 j hj
    omega) (by rw [e1]; omega) c3
  refine R_aload_n dX11_heldVote_0 rfl (?_ : RR _ _ _ _ 1 _ _ _ _)
  refine R_getr dX11_heldVote_1 flX11_59 cok_11 rfl (by decide) (?_ : RR _ _ _ _ 4 _ _ _ _)
  refine R_getr dX11_heldVote_4 flX11_301 cok_5 rfl (by decide) (?_ : RR _ _ _ _ 7 _ _ _ _)
  refine R_aload_n dX11_heldVote_7 rfl (?_ : RR _ _ _ _ 8 _ _ _ _)
  refine R_getr dX11_heldVote_8 flX11_19 cok_11 rfl (by decide) (?_ : RR _ _ _ _ 11 _ _ _ _)
  refine R_aload_n dX11_heldVote_11 rfl (?_ : RR _ _ _ _ 12 _ _ _ _)
  refine R_getr dX11_heldVote_12 flX11_36 cok_11 rfl (by decide) (?_ : RR _ _ _ _ 15 _ _ _ _)
  refine R_aload_n dX11_heldVote_15 rfl (?_ : RR _ _ _ _ 16 _ _ _ _)
  refine R_getr dX11_heldVote_16 flX11_29 cok_11 rfl (by decide) (?_ : RR _ _ _ _ 19 _ _ _ _)
  refine R_aload_n dX11_heldVote_19 rfl (?_ : RR _ _ _ _ 20 _ _ _ _)
  refine R_getr dX11_heldVote_20 flX11_49 cok_11 rfl (by decide) (?_ : RR _ _ _ _ 23 _ _ _ _)
  refine R_qV4 dX11_heldVote_23 mvX10_hold mlX11_461 (by decide) (by decide) (Nat.le_of_ble_eq_true rfl) (Nat.le_of_ble_eq_true rfl) (hT) (fun r9 g9 hq9 => (?_ : RR _ _ _ _ 26 _ _ _ _))
  obtain ⟨rfl, th, sk, rfl⟩ := hq9
  show RR _ _ _ _ _ _ [] _ _
  refine R_aload_n dX11_heldVote_26 rfl (?_ : RR _ _ _ _ 27 _ _ _ _)
  refine R_getr dX11_heldVote_27 flX11_59 cok_11 rfl (by decide) (?_ : RR _ _ _ _ 30 _ _ _ _)
  refine R_getr dX11_heldVote_30 flX11_301 cok_5 rfl (by decide) (?_ : RR _ _ _ _ 33 _ _ _ _)
  exact R_areturn dX11_heldVote_33 trivial (hQ _ ⟨fun a q => by unfold hoH; simp (disch := omega) only [rup_n], fun p hp => ⟨by unfold hoH; simp (disch := omega) only [rup_n, rup_s]; unfold voF; rw [if_pos (by omega)]; exact cpl_V hX hc c1 c2 hp, by unfold hoH; simp (disch := omega) only [rup_n, rup_s]; unfold voF; rw [if_pos (by omega)]; exact cpl_W hX hc c1 c2 hp⟩, fun c w c0 c1' w0 w1 => by rw [show hoH (xS X) h 3 14 29 (xP X) th sk 39 = onSu (xS X) h 3 14 (xP X) by unfold hoH onSu; simp (disch := omega) only [rup_n, rup_s]]; exact cr_su hX hc c1 c2 c0 c1' ⟨w0, w1⟩, fun j hj => by rw [show hoH (xS X) h 3 14 29 (xP X) th sk 40 = onAl (xS X) h 3 14 (xP X) by unfold hoH onAl; simp (disch := omega) only [rup_n, rup_s]]; exact cr_al hX hc c1 c2 hj⟩)
theorem sm_tail {g : Nat → Int} {i : Nat} : ∀ {n : Nat}, i ≤ n → (∀ j, i ≤ j → j < n → g j = 0) → sm g n = sm g i
  | 0, hi, _ => by rw [show i = 0 by omega]
  | n + 1, hi, hz => by
    by_cases q : i = n + 1
    · rw [q]
    · show sm g n + g n = _
      rw [sm_tail (by omega) (fun j h1 h2 => hz j h1 (by omega)), hz n (by omega) (by omega), Int.add_zero]
theorem tb_hi {S i j : Nat} (h : S / 2 ^ i = 0) (hj : i ≤ j) : S.testBit j = false := by
  have h1 : S < 2 ^ i := by
    rcases Nat.div_eq_zero_iff.mp h with z | z
    · have : 0 < 2 ^ i := Nat.pow_pos (by omega)
      omega
    · exact z
  exact Nat.testBit_lt_two_pow (Nat.lt_of_lt_of_le h1 (Nat.pow_le_pow_right (by omega) hj))
theorem T_X10_votesIn {S : Nat} (hS : S < 4096) : MT mX10_votesIn 0 [pR 36, pI S] h (some (pI (sm (fun p => if S.testBit p then h 37 p else 0) 12))) h := by
  refine MT.of (fun Q hQ => (?_ : RR mX10_votesIn _ _ _ _ [pR 36, pI S, pU, pU] _ _ _))
  obtain ⟨G, hG⟩ : ∃ G : Nat → Int, G = fun p : Nat => if S.testBit p then h 37 p else 0 := ⟨_, rfl⟩
  rw [← hG] at hQ
  have L : ∀ (j i : Nat), i + j = 12 → RR mX10_votesIn 0 0 0 4 [pR 36, pI S, pI (sm G i), pI i] [] (shp0, rf0, h) Q := by
    intro j
    induction j with
    | zero =>
      intro i hi
      obtain rfl : i = 12 := by omega
      refine R_iload_n dX10_votesIn_4 rfl (?_ : RR _ _ _ _ 5 _ _ _ _)
      refine R_bipush dX10_votesIn_5 rfl (?_ : RR _ _ _ _ 7 _ _ _ _)
      refine R_icmp_ge (t := 44) dX10_votesIn_7 rfl (fun c7 => ?_) (fun c7 => ?_)
      rotate_left
      · exfalso; omega
      refine R_iload_n dX10_votesIn_44 rfl (?_ : RR _ _ _ _ 45 _ _ _ _)
      exact R_ireturn dX10_votesIn_45 trivial hQ
    | succ j ih =>
      intro i hi
      have hsh := iShr_nat (s := S) (i := i) (by omega) (by omega)
      have hbit := iBit (s := S) (i := i) (by omega) (by omega)
      have hdl : S / 2 ^ i ≤ S := Nat.div_le_self _ _
      obtain ⟨D, hD⟩ : ∃ D : Nat, D = S / 2 ^ i := ⟨_, rfl⟩
      rw [← hD] at hsh hdl
      have IH := ih (i + 1) (by omega)
      have e9 : sm G (i + 1) = sm G i + (if S.testBit i then h 37 i else 0) := by rw [hG]; rfl
      rw [e9] at IH
      by_cases y : D = 0
      · have et : sm G 12 = sm G i := sm_tail (by omega) (fun j h1 h2 => by rw [hG]; show (if S.testBit j = true then h 37 j else 0) = 0; rw [tb_hi (hD.symm.trans y) h1]; rfl)
        rw [et] at hQ
        refine R_iload_n dX10_votesIn_4 rfl (?_ : RR _ _ _ _ 5 _ _ _ _)
        refine R_bipush dX10_votesIn_5 rfl (?_ : RR _ _ _ _ 7 _ _ _ _)
        refine R_icmp_ge (t := 44) dX10_votesIn_7 rfl (fun c7 => ?_) (fun c7 => ?_)
        · exfalso; omega
        refine R_iload_n dX10_votesIn_10 rfl (?_ : RR _ _ _ _ 11 _ _ _ _)
        refine R_iload_n dX10_votesIn_11 rfl (?_ : RR _ _ _ _ 12 _ _ _ _)
        refine R_ishr dX10_votesIn_12 (?_ : RR _ _ _ _ 13 _ _ _ _)
        rw [hsh, y]
        refine R_if_eq (t := 44) dX10_votesIn_13 rfl (fun c13 => ?_) (fun c13 => ?_)
        rotate_left
        · exfalso; omega
        refine R_iload_n dX10_votesIn_44 rfl (?_ : RR _ _ _ _ 45 _ _ _ _)
        exact R_ireturn dX10_votesIn_45 trivial hQ
      · by_cases z : S.testBit i = true
        · rw [if_pos z] at IH hbit
          refine R_iload_n dX10_votesIn_4 rfl (?_ : RR _ _ _ _ 5 _ _ _ _)
          refine R_bipush dX10_votesIn_5 rfl (?_ : RR _ _ _ _ 7 _ _ _ _)
          refine R_icmp_ge (t := 44) dX10_votesIn_7 rfl (fun c7 => ?_) (fun c7 => ?_)
          · exfalso; omega
          refine R_iload_n dX10_votesIn_10 rfl (?_ : RR _ _ _ _ 11 _ _ _ _)
          refine R_iload_n dX10_votesIn_11 rfl (?_ : RR _ _ _ _ 12 _ _ _ _)
          refine R_ishr dX10_votesIn_12 (?_ : RR _ _ _ _ 13 _ _ _ _)
          rw [hsh]
          refine R_if_eq (t := 44) dX10_votesIn_13 rfl (fun c13 => ?_) (fun c13 => ?_)
          · exfalso; omega
          refine R_iload_n dX10_votesIn_16 rfl (?_ : RR _ _ _ _ 17 _ _ _ _)
          refine R_iload_n dX10_votesIn_17 rfl (?_ : RR _ _ _ _ 18 _ _ _ _)
          refine R_iload_n dX10_votesIn_18 rfl (?_ : RR _ _ _ _ 19 _ _ _ _)
          refine R_ishr dX10_votesIn_19 (?_ : RR _ _ _ _ 20 _ _ _ _)
          refine R_iconst dX10_votesIn_20 (?_ : RR _ _ _ _ 21 _ _ _ _)
          refine R_iand dX10_votesIn_21 (?_ : RR _ _ _ _ 22 _ _ _ _)
          rw [hbit]
          refine R_iconst dX10_votesIn_22 (?_ : RR _ _ _ _ 23 _ _ _ _)
          refine R_icmp_ne (t := 35) dX10_votesIn_23 rfl (fun c23 => ?_) (fun c23 => ?_)
          · exfalso; omega
          refine R_aload_n dX10_votesIn_26 rfl (?_ : RR _ _ _ _ 27 _ _ _ _)
          refine R_getr dX10_votesIn_27 flX10_9 cok_10 rfl (by decide) (?_ : RR _ _ _ _ 30 _ _ _ _)
          refine R_iload_n dX10_votesIn_30 rfl (?_ : RR _ _ _ _ 31 _ _ _ _)
          refine R_iald dX10_votesIn_31 (fun q31 => (?_ : RR _ _ _ _ 32 _ _ _ _))
          refine R_goto (t := 36) dX10_votesIn_32 rfl (?_ : RR _ _ _ _ 36 _ _ _ _)
          refine R_iadd dX10_votesIn_36 (?_ : RR _ _ _ _ 37 _ _ _ _)
          refine R_istore_n dX10_votesIn_37 (Nat.le_of_ble_eq_true rfl) (?_ : RR _ _ _ _ 38 [_, _, _, _] _ _ _)
          refine R_iinc dX10_votesIn_38 rfl (Nat.le_of_ble_eq_true rfl) (?_ : RR _ _ _ _ 41 [_, _, _, _] _ _ _)
          refine R_goto (t := 4) dX10_votesIn_41 rfl (?_ : RR _ _ _ _ 4 _ _ _ _)
          exact IH
        · rw [if_neg z] at IH hbit
          refine R_iload_n dX10_votesIn_4 rfl (?_ : RR _ _ _ _ 5 _ _ _ _)
          refine R_bipush dX10_votesIn_5 rfl (?_ : RR _ _ _ _ 7 _ _ _ _)
          refine R_icmp_ge (t := 44) dX10_votesIn_7 rfl (fun c7 => ?_) (fun c7 => ?_)
          · exfalso; omega
          refine R_iload_n dX10_votesIn_10 rfl (?_ : RR _ _ _ _ 11 _ _ _ _)
          refine R_iload_n dX10_votesIn_11 rfl (?_ : RR _ _ _ _ 12 _ _ _ _)
          refine R_ishr dX10_votesIn_12 (?_ : RR _ _ _ _ 13 _ _ _ _)
          rw [hsh]
          refine R_if_eq (t := 44) dX10_votesIn_13 rfl (fun c13 => ?_) (fun c13 => ?_)
          · exfalso; omega
          refine R_iload_n dX10_votesIn_16 rfl (?_ : RR _ _ _ _ 17 _ _ _ _)
          refine R_iload_n dX10_votesIn_17 rfl (?_ : RR _ _ _ _ 18 _ _ _ _)
          refine R_iload_n dX10_votesIn_18 rfl (?_ : RR _ _ _ _ 19 _ _ _ _)
          refine R_ishr dX10_votesIn_19 (?_ : RR _ _ _ _ 20 _ _ _ _)
          refine R_iconst dX10_votesIn_20 (?_ : RR _ _ _ _ 21 _ _ _ _)
          refine R_iand dX10_votesIn_21 (?_ : RR _ _ _ _ 22 _ _ _ _)
          rw [hbit]
          refine R_iconst dX10_votesIn_22 (?_ : RR _ _ _ _ 23 _ _ _ _)
          refine R_icmp_ne (t := 35) dX10_votesIn_23 rfl (fun c23 => ?_) (fun c23 => ?_)
          rotate_left
          · exfalso; omega
          refine R_iconst dX10_votesIn_35 (?_ : RR _ _ _ _ 36 _ _ _ _)
          refine R_iadd dX10_votesIn_36 (?_ : RR _ _ _ _ 37 _ _ _ _)
          refine R_istore_n dX10_votesIn_37 (Nat.le_of_ble_eq_true rfl) (?_ : RR _ _ _ _ 38 [_, _, _, _] _ _ _)
          refine R_iinc dX10_votesIn_38 rfl (Nat.le_of_ble_eq_true rfl) (?_ : RR _ _ _ _ 41 [_, _, _, _] _ _ _)
          refine R_goto (t := 4) dX10_votesIn_41 rfl (?_ : RR _ _ _ _ 4 _ _ _ _)
          exact IH
  refine R_iconst dX10_votesIn_0 (?_ : RR _ _ _ _ 1 _ _ _ _)
  refine R_istore_n dX10_votesIn_1 (Nat.le_of_ble_eq_true rfl) (?_ : RR _ _ _ _ 2 [_, _, _, _] _ _ _)
  refine R_iconst dX10_votesIn_2 (?_ : RR _ _ _ _ 3 _ _ _ _)
  refine R_istore_n dX10_votesIn_3 (Nat.le_of_ble_eq_true rfl) (?_ : RR _ _ _ _ 4 [_, _, _, _] _ _ _)
  exact L 12 0 (by omega)
theorem T_X10_othersThan {w : Int} (hw : r32 w) : MT mX10_othersThan 0 [pR 36, pI w] h (some (pI (bset (fun p => decide (h 38 p ≠ w ∧ 0 < h 37 p)) 12))) h := by
  refine MT.of (fun Q hQ => (?_ : RR mX10_othersThan _ _ _ _ [pR 36, pI w, pU, pU] _ _ _))
  generalize hP : (fun p : Nat => decide (h 38 p ≠ w ∧ 0 < h 37 p)) = P at hQ
  have L : ∀ k i : Nat, i + k = 12 → RR mX10_othersThan 0 0 0 4 [pR 36, pI w, pI (bset P i), pI i] [] (shp0, rf0, h) Q := by
    intro k
    induction k with
    | zero =>
      intro i hi 
      obtain rfl : i = 12 := by omega
      refine R_iload_n dX10_othersThan_4 rfl (?_ : RR _ _ _ _ 5 _ _ _ _)
      refine R_bipush dX10_othersThan_5 rfl (?_ : RR _ _ _ _ 7 _ _ _ _)
      refine R_icmp_ge (t := 41) dX10_othersThan_7 rfl (fun c7 => ?_) (fun c7 => ?_)
      rotate_left
      · exfalso; omega
      refine R_iload_n dX10_othersThan_41 rfl (?_ : RR _ _ _ _ 42 _ _ _ _)
      exact R_ireturn dX10_othersThan_42 trivial hQ
    | succ k ih =>
      intro i hi 
      refine R_iload_n dX10_othersThan_4 rfl (?_ : RR _ _ _ _ 5 _ _ _ _)
      refine R_bipush dX10_othersThan_5 rfl (?_ : RR _ _ _ _ 7 _ _ _ _)
      refine R_icmp_ge (t := 41) dX10_othersThan_7 rfl (fun c7 => ?_) (fun c7 => ?_)
      · exfalso; omega
      refine R_aload_n dX10_othersThan_10 rfl (?_ : RR _ _ _ _ 11 _ _ _ _)
      refine R_getr dX10_othersThan_11 flX10_15 cok_10 rfl (by decide) (?_ : RR _ _ _ _ 14 _ _ _ _)
      refine R_iload_n dX10_othersThan_14 rfl (?_ : RR _ _ _ _ 15 _ _ _ _)
      refine R_iald dX10_othersThan_15 (fun q15 => (?_ : RR _ _ _ _ 16 _ _ _ _))
      refine R_iload_n dX10_othersThan_16 rfl (?_ : RR _ _ _ _ 17 _ _ _ _)
      refine R_icmp_eq (t := 35) dX10_othersThan_17 rfl (fun c17 => ?_) (fun c17 => ?_)
      · rw [← bset_no (P := P) (n := i) (by rw [← hP]; exact decide_eq_false (fun z => z.1 c17))]
        refine R_iinc dX10_othersThan_35 rfl (Nat.le_of_ble_eq_true rfl) (?_ : RR _ _ _ _ 38 [_, _, _, _] _ _ _)
        refine R_goto (t := 4) dX10_othersThan_38 rfl (?_ : RR _ _ _ _ 4 _ _ _ _)
        exact ih (i + 1) (by omega)
      · refine R_aload_n dX10_othersThan_20 rfl (?_ : RR _ _ _ _ 21 _ _ _ _)
        refine R_getr dX10_othersThan_21 flX10_9 cok_10 rfl (by decide) (?_ : RR _ _ _ _ 24 _ _ _ _)
        refine R_iload_n dX10_othersThan_24 rfl (?_ : RR _ _ _ _ 25 _ _ _ _)
        refine R_iald dX10_othersThan_25 (fun q25 => (?_ : RR _ _ _ _ 26 _ _ _ _))
        refine R_if_le (t := 35) dX10_othersThan_26 rfl (fun c26 => ?_) (fun c26 => ?_)
        · rw [← bset_no (P := P) (n := i) (by rw [← hP]; exact decide_eq_false (by omega))]
          refine R_iinc dX10_othersThan_35 rfl (Nat.le_of_ble_eq_true rfl) (?_ : RR _ _ _ _ 38 [_, _, _, _] _ _ _)
          refine R_goto (t := 4) dX10_othersThan_38 rfl (?_ : RR _ _ _ _ 4 _ _ _ _)
          exact ih (i + 1) (by omega)
        · have e := bset_or (P := P) (n := i) (by omega) (by rw [← hP]; exact decide_eq_true ⟨c17, by omega⟩)
          refine R_iload_n dX10_othersThan_29 rfl (?_ : RR _ _ _ _ 30 _ _ _ _)
          refine R_iconst dX10_othersThan_30 (?_ : RR _ _ _ _ 31 _ _ _ _)
          refine R_iload_n dX10_othersThan_31 rfl (?_ : RR _ _ _ _ 32 _ _ _ _)
          refine R_ishl dX10_othersThan_32 (?_ : RR _ _ _ _ 33 _ _ _ _)
          refine R_ior dX10_othersThan_33 (?_ : RR _ _ _ _ 34 _ _ _ _)
          rw [e]
          refine R_istore_n dX10_othersThan_34 (Nat.le_of_ble_eq_true rfl) (?_ : RR _ _ _ _ 35 [_, _, _, _] _ _ _)
          refine R_iinc dX10_othersThan_35 rfl (Nat.le_of_ble_eq_true rfl) (?_ : RR _ _ _ _ 38 [_, _, _, _] _ _ _)
          refine R_goto (t := 4) dX10_othersThan_38 rfl (?_ : RR _ _ _ _ 4 _ _ _ _)
          exact ih (i + 1) (by omega)
  refine R_iconst dX10_othersThan_0 (?_ : RR _ _ _ _ 1 _ _ _ _)
  refine R_istore_n dX10_othersThan_1 (Nat.le_of_ble_eq_true rfl) (?_ : RR _ _ _ _ 2 [_, _, _, _] _ _ _)
  refine R_iconst dX10_othersThan_2 (?_ : RR _ _ _ _ 3 _ _ _ _)
  refine R_istore_n dX10_othersThan_3 (Nat.le_of_ble_eq_true rfl) (?_ : RR _ _ _ _ 4 [_, _, _, _] _ _ _)
  exact L 12 0 (by omega)
/-- sums, if these were for a wish -/
def wnG (V W su : Int → Int) (c w : Int) (S i : Nat) (j : Int) : Int := su (3 * c + j) + sm (fun p => if S.testBit p = true ∧ W p ≠ -1 then (if j = w then V p else 0) - (if W p = j then V p else 0) else 0) i
def wnV (V W su : Int → Int) (c w : Int) (S : Nat) : Int := chS (wnG V W su c w S 12 0) (wnG V W su c w S 12 1) (wnG V W su c w S 12 2)
def wnF (V W su : Int → Int) (c w : Int) (S : Nat) (f : Int → Int) (i : Nat) : Int → Int := fun j => if 0 ≤ j ∧ j < 3 then wnG V W su c w S i j else f j
theorem sm_abs {g : Nat → Int} {B : Int} (hB : 0 ≤ B) (hg : ∀ p, -B ≤ g p ∧ g p ≤ B) : ∀ n : Nat, -(B * n) ≤ sm g n ∧ sm g n ≤ B * n
  | 0 => by show -(B * ((0 : Nat) : Int)) ≤ 0 ∧ (0 : Int) ≤ B * ((0 : Nat) : Int); rw [show ((0 : Nat) : Int) = 0 from rfl, Int.mul_zero]; omega
  | n + 1 => by
    have h1 := sm_abs hB hg n
    have h2 := hg n
    show -(B * ((n + 1 : Nat) : Int)) ≤ sm g n + g n ∧ sm g n + g n ≤ B * ((n + 1 : Nat) : Int)
    rw [show ((n + 1 : Nat) : Int) = (n : Int) + 1 from rfl, Int.mul_add, Int.mul_one]
    omega
theorem wnG_b {V W su : Int → Int} {c w j : Int} {S : Nat} (hS : ∀ p : Nat, S.testBit p = true → 0 ≤ V p ∧ V p ≤ 99) (hsu : 0 ≤ su (3 * c + j) ∧ su (3 * c + j) ≤ 2000) {i : Nat} (hi : i ≤ 12) : -4000 ≤ wnG V W su c w S i j ∧ wnG V W su c w S i j ≤ 4000 := by
  have := sm_abs (g := fun p : Nat => if S.testBit p = true ∧ W p ≠ -1 then (if j = w then V p else 0) - (if W p = j then V p else 0) else 0) (B := 99) (by omega) (fun p => by
    show -99 ≤ (if S.testBit p = true ∧ W p ≠ -1 then (if j = w then V p else 0) - (if W p = j then V p else 0) else 0) ∧ (if S.testBit p = true ∧ W p ≠ -1 then (if j = w then V p else 0) - (if W p = j then V p else 0) else 0) ≤ 99
    split
    · rename_i z
      have := hS p z.1
      split <;> split <;> omega
    · omega) i
  unfold wnG
  omega
theorem wnF_no {V W su f : Int → Int} {c w : Int} {S i : Nat} (h : ¬ (S.testBit i = true ∧ W i ≠ -1)) : wnF V W su c w S f (i + 1) = wnF V W su c w S f i := by
  funext j
  unfold wnF
  split
  · unfold wnG
    show _ + (sm _ i + (if S.testBit i = true ∧ W i ≠ -1 then _ else 0)) = _
    rw [if_neg h, Int.add_zero]
  · rfl
theorem wnF_yes {V W su f : Int → Int} {c w : Int} {S i : Nat} (h : S.testBit i = true ∧ W i ≠ -1) (hW : 0 ≤ W i ∧ W i < 3) (hw : 0 ≤ w ∧ w < 3) : fup (fup (wnF V W su c w S f i) (W i) (wnF V W su c w S f i (W i) - V i)) w (fup (wnF V W su c w S f i) (W i) (wnF V W su c w S f i (W i) - V i) w + V i) = wnF V W su c w S f (i + 1) := by
  have key : ∀ j : Int, 0 ≤ j → j < 3 → wnF V W su c w S f (i + 1) j = wnF V W su c w S f i j + ((if j = w then V i else 0) - (if W i = j then V i else 0)) := fun j j0 j1 => by
    unfold wnF
    rw [if_pos ⟨j0, j1⟩, if_pos ⟨j0, j1⟩]
    unfold wnG
    show _ + (sm _ i + (if S.testBit i = true ∧ W i ≠ -1 then _ else 0)) = _
    rw [if_pos h]
    omega
  funext j
  by_cases q : 0 ≤ j ∧ j < 3
  · rw [key j q.1 q.2]
    by_cases y : j = w
    · subst y
      rw [fup_s, if_pos rfl]
      by_cases z : W i = j
      · rw [z, fup_s, if_pos rfl]
        omega
      · rw [fup_n (fun e => z e.symm), if_neg z]
        omega
    · rw [fup_n y, if_neg y]
      by_cases z : W i = j
      · rw [z, fup_s, if_pos rfl]
        omega
      · rw [fup_n (fun e => z e.symm), if_neg z]
        omega
  · rw [fup_n (by omega), fup_n (by omega)]
    unfold wnF
    rw [if_neg q, if_neg q]
theorem T_X10_voteIfWon {c w : Int} {S : Nat} (hS : S < 4096) (hc : 0 ≤ c ∧ c < 6) (hw : 0 ≤ w ∧ w < 3) (hV : ∀ p : Nat, S.testBit p = true → 0 ≤ h 37 p ∧ h 37 p ≤ 99) (hW : ∀ p : Nat, S.testBit p = true → h 38 p = -1 ∨ (0 ≤ h 38 p ∧ h 38 p < 3)) (hsu : ∀ j : Int, 0 ≤ j → j < 3 → 0 ≤ h 39 (3 * c + j) ∧ h 39 (3 * c + j) ≤ 2000) : MT mX10_voteIfWon 1 [pR 36, pI c, pI S, pI w] h (some (pI (wnV (h 37) (h 38) (h 39) c w S))) (rup h 42 (wnF (h 37) (h 38) (h 39) c w S (h 42) 12)) := by
  refine MT.of (fun Q hQ => (?_ : RR mX10_voteIfWon _ _ _ _ [pR 36, pI c, pI S, pI w, pU] _ _ _))
  obtain ⟨F, hF⟩ : ∃ F, F = wnF (h 37) (h 38) (h 39) c w S (h 42) := ⟨_, rfl⟩
  have hFb : ∀ (i : Nat) (j : Int), i ≤ 12 → 0 ≤ j → j < 3 → -4000 ≤ F i j ∧ F i j ≤ 4000 := fun i j hi j0 j1 => by
    rw [hF]
    unfold wnF
    rw [if_pos ⟨j0, j1⟩]
    exact wnG_b hV (hsu j j0 j1) hi
  have hv9 : wnV (h 37) (h 38) (h 39) c w S = chS (F 12 0) (F 12 1) (F 12 2) := by rw [hF]; rfl
  rw [hv9, ← hF] at hQ
  have E : ∀ w4 : PV, RR mX10_voteIfWon 1 0 0 115 [pR 36, pI c, pI S, pI w, w4] [] (shp0, rf0, rup h 42 (F 12)) Q := by
    intro w4
    refine R_aload_n dX10_voteIfWon_115 rfl (?_ : RR _ _ _ _ 116 _ _ _ _)
    refine R_getr dX10_voteIfWon_116 flX10_27 cok_10 rfl (by decide) (?_ : RR _ _ _ _ 119 _ _ _ _)
    refine R_iconst dX10_voteIfWon_119 (?_ : RR _ _ _ _ 120 _ _ _ _)
    refine R_iald dX10_voteIfWon_120 (fun q120 => (?_ : RR _ _ _ _ 121 _ _ _ _))
    try simp (disch := omega) only [rup_rup, rup_sort, rupS_def, rup_s, rup_n, fup_fup, fup_s, fup_n] at q120 ⊢
    refine R_aload_n dX10_voteIfWon_121 rfl (?_ : RR _ _ _ _ 122 _ _ _ _)
    refine R_getr dX10_voteIfWon_122 flX10_27 cok_10 rfl (by decide) (?_ : RR _ _ _ _ 125 _ _ _ _)
    refine R_iconst dX10_voteIfWon_125 (?_ : RR _ _ _ _ 126 _ _ _ _)
    refine R_iald dX10_voteIfWon_126 (fun q126 => (?_ : RR _ _ _ _ 127 _ _ _ _))
    try simp (disch := omega) only [rup_rup, rup_sort, rupS_def, rup_s, rup_n, fup_fup, fup_s, fup_n] at q126 ⊢
    refine R_aload_n dX10_voteIfWon_127 rfl (?_ : RR _ _ _ _ 128 _ _ _ _)
    refine R_getr dX10_voteIfWon_128 flX10_27 cok_10 rfl (by decide) (?_ : RR _ _ _ _ 131 _ _ _ _)
    refine R_iconst dX10_voteIfWon_131 (?_ : RR _ _ _ _ 132 _ _ _ _)
    refine R_iald dX10_voteIfWon_132 (fun q132 => (?_ : RR _ _ _ _ 133 _ _ _ _))
    try simp (disch := omega) only [rup_rup, rup_sort, rupS_def, rup_s, rup_n, fup_fup, fup_s, fup_n] at q132 ⊢
    refine R_cSi3 dX10_voteIfWon_133 msX10_choice mlX10_80 (by decide) (Nat.le_of_ble_eq_true rfl) (Nat.le_of_ble_eq_true rfl) (T_X10_choice) (?_ : RR _ _ _ _ 136 _ _ _ _)
    try simp (disch := omega) only [rup_rup, rup_sort, rupS_def, rup_s, rup_n, fup_fup, fup_s, fup_n]
    exact R_ireturn dX10_voteIfWon_136 trivial hQ
  have L : ∀ (j i : Nat), i + j = 12 → RR mX10_voteIfWon 1 0 0 36 [pR 36, pI c, pI S, pI w, pI i] [] (shp0, rf0, rup h 42 (F i)) Q := by
    intro j
    induction j with
    | zero =>
      intro i hi
      obtain rfl : i = 12 := by omega
      refine R_iload dX10_voteIfWon_36 rfl (?_ : RR _ _ _ _ 38 _ _ _ _)
      refine R_bipush dX10_voteIfWon_38 rfl (?_ : RR _ _ _ _ 40 _ _ _ _)
      refine R_icmp_ge (t := 115) dX10_voteIfWon_40 rfl (fun c40 => ?_) (fun c40 => ?_)
      rotate_left
      · exfalso; omega
      exact E _
    | succ j ih =>
      intro i hi
      have hsh := iShr_nat (s := S) (i := i) (by omega) (by omega)
      have hbit := iBit (s := S) (i := i) (by omega) (by omega)
      have hdl : S / 2 ^ i ≤ S := Nat.div_le_self _ _
      obtain ⟨D, hD⟩ : ∃ D : Nat, D = S / 2 ^ i := ⟨_, rfl⟩
      rw [← hD] at hsh hdl
      have IH := ih (i + 1) (by omega)
      by_cases y : D = 0
      · have et : F 12 = F i := by
          rw [hF]
          funext j
          unfold wnF
          split
          · unfold wnG
            rw [sm_tail (i := i) (n := 12) (by omega) (fun p h1 h2 => if_neg (fun z => by rw [tb_hi (hD.symm.trans y) h1] at z; cases z.1))]
          · rfl
        rw [et] at E
        refine R_iload dX10_voteIfWon_36 rfl (?_ : RR _ _ _ _ 38 _ _ _ _)
        refine R_bipush dX10_voteIfWon_38 rfl (?_ : RR _ _ _ _ 40 _ _ _ _)
        refine R_icmp_ge (t := 115) dX10_voteIfWon_40 rfl (fun c40 => ?_) (fun c40 => ?_)
        · exfalso; omega
        refine R_iload_n dX10_voteIfWon_43 rfl (?_ : RR _ _ _ _ 44 _ _ _ _)
        refine R_iload dX10_voteIfWon_44 rfl (?_ : RR _ _ _ _ 46 _ _ _ _)
        refine R_ishr dX10_voteIfWon_46 (?_ : RR _ _ _ _ 47 _ _ _ _)
        rw [hsh, y]
        refine R_if_eq (t := 115) dX10_voteIfWon_47 rfl (fun c47 => ?_) (fun c47 => ?_)
        rotate_left
        · exfalso; omega
        exact E _
      · by_cases z : S.testBit i = true
        · rw [if_pos z] at hbit
          have hVi := hV i z
          have hWi := hW i z
          by_cases u : h 38 i = -1
          · rw [show F (i + 1) = F i by rw [hF]; exact wnF_no (fun q => q.2 u)] at IH
            refine R_iload dX10_voteIfWon_36 rfl (?_ : RR _ _ _ _ 38 _ _ _ _)
            refine R_bipush dX10_voteIfWon_38 rfl (?_ : RR _ _ _ _ 40 _ _ _ _)
            refine R_icmp_ge (t := 115) dX10_voteIfWon_40 rfl (fun c40 => ?_) (fun c40 => ?_)
            · exfalso; omega
            refine R_iload_n dX10_voteIfWon_43 rfl (?_ : RR _ _ _ _ 44 _ _ _ _)
            refine R_iload dX10_voteIfWon_44 rfl (?_ : RR _ _ _ _ 46 _ _ _ _)
            refine R_ishr dX10_voteIfWon_46 (?_ : RR _ _ _ _ 47 _ _ _ _)
            rw [hsh]
            refine R_if_eq (t := 115) dX10_voteIfWon_47 rfl (fun c47 => ?_) (fun c47 => ?_)
            · exfalso; omega
            refine R_iload_n dX10_voteIfWon_50 rfl (?_ : RR _ _ _ _ 51 _ _ _ _)
            refine R_iload dX10_voteIfWon_51 rfl (?_ : RR _ _ _ _ 53 _ _ _ _)
            refine R_ishr dX10_voteIfWon_53 (?_ : RR _ _ _ _ 54 _ _ _ _)
            refine R_iconst dX10_voteIfWon_54 (?_ : RR _ _ _ _ 55 _ _ _ _)
            refine R_iand dX10_voteIfWon_55 (?_ : RR _ _ _ _ 56 _ _ _ _)
            rw [hbit]
            refine R_iconst dX10_voteIfWon_56 (?_ : RR _ _ _ _ 57 _ _ _ _)
            refine R_icmp_ne (t := 109) dX10_voteIfWon_57 rfl (fun c57 => ?_) (fun c57 => ?_)
            · exfalso; omega
            refine R_aload_n dX10_voteIfWon_60 rfl (?_ : RR _ _ _ _ 61 _ _ _ _)
            refine R_getr dX10_voteIfWon_61 flX10_15 cok_10 rfl (by decide) (?_ : RR _ _ _ _ 64 _ _ _ _)
            refine R_iload dX10_voteIfWon_64 rfl (?_ : RR _ _ _ _ 66 _ _ _ _)
            refine R_iald dX10_voteIfWon_66 (fun q66 => (?_ : RR _ _ _ _ 67 _ _ _ _))
            try simp (disch := omega) only [rup_rup, rup_sort, rupS_def, rup_s, rup_n, fup_fup, fup_s, fup_n] at q66 ⊢
            refine R_iconst dX10_voteIfWon_67 (?_ : RR _ _ _ _ 68 _ _ _ _)
            refine R_icmp_eq (t := 109) dX10_voteIfWon_68 rfl (fun c68 => ?_) (fun c68 => ?_)
            rotate_left
            · exfalso; omega
            refine R_iinc dX10_voteIfWon_109 rfl (Nat.le_of_ble_eq_true rfl) (?_ : RR _ _ _ _ 112 [_, _, _, _, _] _ _ _)
            refine R_goto (t := 36) dX10_voteIfWon_112 rfl (?_ : RR _ _ _ _ 36 _ _ _ _)
            exact IH
          · have e9 := wnF_yes (V := h 37) (W := h 38) (su := h 39) (f := h 42) (c := c) (w := w) (S := S) (i := i) ⟨z, u⟩ (by omega) hw
            rw [← hF] at e9
            rw [← e9] at IH
            have b1 := hFb i (h 38 i) (by omega) (by omega) (by omega)
            have b2 : -5000 ≤ fup (F i) (h 38 i) (F i (h 38 i) - h 37 i) w ∧ fup (F i) (h 38 i) (F i (h 38 i) - h 37 i) w ≤ 5000 := by
              have b3 := hFb i w (by omega) hw.1 hw.2
              unfold fup
              split <;> omega
            refine R_iload dX10_voteIfWon_36 rfl (?_ : RR _ _ _ _ 38 _ _ _ _)
            refine R_bipush dX10_voteIfWon_38 rfl (?_ : RR _ _ _ _ 40 _ _ _ _)
            refine R_icmp_ge (t := 115) dX10_voteIfWon_40 rfl (fun c40 => ?_) (fun c40 => ?_)
            · exfalso; omega
            refine R_iload_n dX10_voteIfWon_43 rfl (?_ : RR _ _ _ _ 44 _ _ _ _)
            refine R_iload dX10_voteIfWon_44 rfl (?_ : RR _ _ _ _ 46 _ _ _ _)
            refine R_ishr dX10_voteIfWon_46 (?_ : RR _ _ _ _ 47 _ _ _ _)
            rw [hsh]
            refine R_if_eq (t := 115) dX10_voteIfWon_47 rfl (fun c47 => ?_) (fun c47 => ?_)
            · exfalso; omega
            refine R_iload_n dX10_voteIfWon_50 rfl (?_ : RR _ _ _ _ 51 _ _ _ _)
            refine R_iload dX10_voteIfWon_51 rfl (?_ : RR _ _ _ _ 53 _ _ _ _)
            refine R_ishr dX10_voteIfWon_53 (?_ : RR _ _ _ _ 54 _ _ _ _)
            refine R_iconst dX10_voteIfWon_54 (?_ : RR _ _ _ _ 55 _ _ _ _)
            refine R_iand dX10_voteIfWon_55 (?_ : RR _ _ _ _ 56 _ _ _ _)
            rw [hbit]
            refine R_iconst dX10_voteIfWon_56 (?_ : RR _ _ _ _ 57 _ _ _ _)
            refine R_icmp_ne (t := 109) dX10_voteIfWon_57 rfl (fun c57 => ?_) (fun c57 => ?_)
            · exfalso; omega
            refine R_aload_n dX10_voteIfWon_60 rfl (?_ : RR _ _ _ _ 61 _ _ _ _)
            refine R_getr dX10_voteIfWon_61 flX10_15 cok_10 rfl (by decide) (?_ : RR _ _ _ _ 64 _ _ _ _)
            refine R_iload dX10_voteIfWon_64 rfl (?_ : RR _ _ _ _ 66 _ _ _ _)
            refine R_iald dX10_voteIfWon_66 (fun q66 => (?_ : RR _ _ _ _ 67 _ _ _ _))
            try simp (disch := omega) only [rup_rup, rup_sort, rupS_def, rup_s, rup_n, fup_fup, fup_s, fup_n] at q66 ⊢
            refine R_iconst dX10_voteIfWon_67 (?_ : RR _ _ _ _ 68 _ _ _ _)
            refine R_icmp_eq (t := 109) dX10_voteIfWon_68 rfl (fun c68 => ?_) (fun c68 => ?_)
            · exfalso; omega
            refine R_aload_n dX10_voteIfWon_71 rfl (?_ : RR _ _ _ _ 72 _ _ _ _)
            refine R_getr dX10_voteIfWon_72 flX10_27 cok_10 rfl (by decide) (?_ : RR _ _ _ _ 75 _ _ _ _)
            refine R_aload_n dX10_voteIfWon_75 rfl (?_ : RR _ _ _ _ 76 _ _ _ _)
            refine R_getr dX10_voteIfWon_76 flX10_15 cok_10 rfl (by decide) (?_ : RR _ _ _ _ 79 _ _ _ _)
            refine R_iload dX10_voteIfWon_79 rfl (?_ : RR _ _ _ _ 81 _ _ _ _)
            refine R_iald dX10_voteIfWon_81 (fun q81 => (?_ : RR _ _ _ _ 82 _ _ _ _))
            try simp (disch := omega) only [rup_rup, rup_sort, rupS_def, rup_s, rup_n, fup_fup, fup_s, fup_n] at q81 ⊢
            refine R_dup2 dX10_voteIfWon_82 (fun _ => rfl) (fun _ => rfl) (?_ : RR _ _ _ _ 83 _ _ _ _)
            refine R_iald dX10_voteIfWon_83 (fun q83 => (?_ : RR _ _ _ _ 84 _ _ _ _))
            try simp (disch := omega) only [rup_rup, rup_sort, rupS_def, rup_s, rup_n, fup_fup, fup_s, fup_n] at q83 ⊢
            refine R_aload_n dX10_voteIfWon_84 rfl (?_ : RR _ _ _ _ 85 _ _ _ _)
            refine R_getr dX10_voteIfWon_85 flX10_9 cok_10 rfl (by decide) (?_ : RR _ _ _ _ 88 _ _ _ _)
            refine R_iload dX10_voteIfWon_88 rfl (?_ : RR _ _ _ _ 90 _ _ _ _)
            refine R_iald dX10_voteIfWon_90 (fun q90 => (?_ : RR _ _ _ _ 91 _ _ _ _))
            try simp (disch := omega) only [rup_rup, rup_sort, rupS_def, rup_s, rup_n, fup_fup, fup_s, fup_n] at q90 ⊢
            refine R_isub dX10_voteIfWon_91 (?_ : RR _ _ _ _ 92 _ _ _ _)
            refine R_iast dX10_voteIfWon_92 (?_ : RR _ _ _ _ 93 _ _ _ _)
            try simp (disch := omega) only [rup_rup, rup_sort, rupS_def, rup_s, rup_n, fup_fup, fup_s, fup_n]
            refine R_aload_n dX10_voteIfWon_93 rfl (?_ : RR _ _ _ _ 94 _ _ _ _)
            refine R_getr dX10_voteIfWon_94 flX10_27 cok_10 rfl (by decide) (?_ : RR _ _ _ _ 97 _ _ _ _)
            refine R_iload_n dX10_voteIfWon_97 rfl (?_ : RR _ _ _ _ 98 _ _ _ _)
            refine R_dup2 dX10_voteIfWon_98 (fun _ => rfl) (fun _ => rfl) (?_ : RR _ _ _ _ 99 _ _ _ _)
            refine R_iald dX10_voteIfWon_99 (fun q99 => (?_ : RR _ _ _ _ 100 _ _ _ _))
            try simp (disch := omega) only [rup_rup, rup_sort, rupS_def, rup_s, rup_n, fup_fup, fup_s, fup_n] at q99 ⊢
            refine R_aload_n dX10_voteIfWon_100 rfl (?_ : RR _ _ _ _ 101 _ _ _ _)
            refine R_getr dX10_voteIfWon_101 flX10_9 cok_10 rfl (by decide) (?_ : RR _ _ _ _ 104 _ _ _ _)
            refine R_iload dX10_voteIfWon_104 rfl (?_ : RR _ _ _ _ 106 _ _ _ _)
            refine R_iald dX10_voteIfWon_106 (fun q106 => (?_ : RR _ _ _ _ 107 _ _ _ _))
            try simp (disch := omega) only [rup_rup, rup_sort, rupS_def, rup_s, rup_n, fup_fup, fup_s, fup_n] at q106 ⊢
            refine R_iadd dX10_voteIfWon_107 (?_ : RR _ _ _ _ 108 _ _ _ _)
            refine R_iast dX10_voteIfWon_108 (?_ : RR _ _ _ _ 109 _ _ _ _)
            try simp (disch := omega) only [rup_rup, rup_sort, rupS_def, rup_s, rup_n, fup_fup, fup_s, fup_n]
            refine R_iinc dX10_voteIfWon_109 rfl (Nat.le_of_ble_eq_true rfl) (?_ : RR _ _ _ _ 112 [_, _, _, _, _] _ _ _)
            refine R_goto (t := 36) dX10_voteIfWon_112 rfl (?_ : RR _ _ _ _ 36 _ _ _ _)
            exact IH
        · rw [if_neg z] at hbit
          rw [show F (i + 1) = F i by rw [hF]; exact wnF_no (fun q => z q.1)] at IH
          refine R_iload dX10_voteIfWon_36 rfl (?_ : RR _ _ _ _ 38 _ _ _ _)
          refine R_bipush dX10_voteIfWon_38 rfl (?_ : RR _ _ _ _ 40 _ _ _ _)
          refine R_icmp_ge (t := 115) dX10_voteIfWon_40 rfl (fun c40 => ?_) (fun c40 => ?_)
          · exfalso; omega
          refine R_iload_n dX10_voteIfWon_43 rfl (?_ : RR _ _ _ _ 44 _ _ _ _)
          refine R_iload dX10_voteIfWon_44 rfl (?_ : RR _ _ _ _ 46 _ _ _ _)
          refine R_ishr dX10_voteIfWon_46 (?_ : RR _ _ _ _ 47 _ _ _ _)
          rw [hsh]
          refine R_if_eq (t := 115) dX10_voteIfWon_47 rfl (fun c47 => ?_) (fun c47 => ?_)
          · exfalso; omega
          refine R_iload_n dX10_voteIfWon_50 rfl (?_ : RR _ _ _ _ 51 _ _ _ _)
          refine R_iload dX10_voteIfWon_51 rfl (?_ : RR _ _ _ _ 53 _ _ _ _)
          refine R_ishr dX10_voteIfWon_53 (?_ : RR _ _ _ _ 54 _ _ _ _)
          refine R_iconst dX10_voteIfWon_54 (?_ : RR _ _ _ _ 55 _ _ _ _)
          refine R_iand dX10_voteIfWon_55 (?_ : RR _ _ _ _ 56 _ _ _ _)
          rw [hbit]
          refine R_iconst dX10_voteIfWon_56 (?_ : RR _ _ _ _ 57 _ _ _ _)
          refine R_icmp_ne (t := 109) dX10_voteIfWon_57 rfl (fun c57 => ?_) (fun c57 => ?_)
          rotate_left
          · exfalso; omega
          refine R_iinc dX10_voteIfWon_109 rfl (Nat.le_of_ble_eq_true rfl) (?_ : RR _ _ _ _ 112 [_, _, _, _, _] _ _ _)
          refine R_goto (t := 36) dX10_voteIfWon_112 rfl (?_ : RR _ _ _ _ 36 _ _ _ _)
          exact IH
  have F0 : fup (fup (fup (h 42) 0 (h 39 (3 * c + 0))) (0 + 1) (h 39 (3 * c + (0 + 1)))) (0 + 1 + 1) (h 39 (3 * c + (0 + 1 + 1))) = F 0 := by
    rw [hF]
    funext j
    unfold wnF wnG fup
    show _ = if 0 ≤ j ∧ j < 3 then h 39 (3 * c + j) + 0 else h 42 j
    by_cases q : 0 ≤ j ∧ j < 3
    · rw [if_pos q]
      have : j = 0 ∨ j = 1 ∨ j = 2 := by omega
      rcases this with rfl | rfl | rfl
      · simp
      · simp
      · simp
    · rw [if_neg q, if_neg (by omega), if_neg (by omega), if_neg (by omega)]
  refine R_iconst dX10_voteIfWon_0 (?_ : RR _ _ _ _ 1 _ _ _ _)
  refine R_istore dX10_voteIfWon_1 (Nat.le_of_ble_eq_true rfl) (?_ : RR _ _ _ _ 3 [_, _, _, _, _] _ _ _)
  refine R_iload dX10_voteIfWon_3 rfl (?_ : RR _ _ _ _ 5 _ _ _ _)
  refine R_iconst dX10_voteIfWon_5 (?_ : RR _ _ _ _ 6 _ _ _ _)
  refine R_icmp_gt (t := 33) dX10_voteIfWon_6 rfl (fun c6 => ?_) (fun c6 => ?_)
  · exfalso; omega
  refine R_aload_n dX10_voteIfWon_9 rfl (?_ : RR _ _ _ _ 10 _ _ _ _)
  refine R_getr dX10_voteIfWon_10 flX10_27 cok_10 rfl (by decide) (?_ : RR _ _ _ _ 13 _ _ _ _)
  refine R_iload dX10_voteIfWon_13 rfl (?_ : RR _ _ _ _ 15 _ _ _ _)
  refine R_aload_n dX10_voteIfWon_15 rfl (?_ : RR _ _ _ _ 16 _ _ _ _)
  refine R_getr dX10_voteIfWon_16 flX10_18 cok_10 rfl (by decide) (?_ : RR _ _ _ _ 19 _ _ _ _)
  refine R_iconst dX10_voteIfWon_19 (?_ : RR _ _ _ _ 20 _ _ _ _)
  refine R_iload_n dX10_voteIfWon_20 rfl (?_ : RR _ _ _ _ 21 _ _ _ _)
  refine R_imul dX10_voteIfWon_21 (?_ : RR _ _ _ _ 22 _ _ _ _)
  refine R_iload dX10_voteIfWon_22 rfl (?_ : RR _ _ _ _ 24 _ _ _ _)
  refine R_iadd dX10_voteIfWon_24 (?_ : RR _ _ _ _ 25 _ _ _ _)
  refine R_iald dX10_voteIfWon_25 (fun q25 => (?_ : RR _ _ _ _ 26 _ _ _ _))
  try simp (disch := omega) only [rup_rup, rup_sort, rupS_def, rup_s, rup_n, fup_fup, fup_s, fup_n] at q25 ⊢
  refine R_iast dX10_voteIfWon_26 (?_ : RR _ _ _ _ 27 _ _ _ _)
  try simp (disch := omega) only [rup_rup, rup_sort, rupS_def, rup_s, rup_n, fup_fup, fup_s, fup_n]
  refine R_iinc dX10_voteIfWon_27 rfl (Nat.le_of_ble_eq_true rfl) (?_ : RR _ _ _ _ 30 [_, _, _, _, _] _ _ _)
  refine R_goto (t := 3) dX10_voteIfWon_30 rfl (?_ : RR _ _ _ _ 3 _ _ _ _)
  refine R_iload dX10_voteIfWon_3 rfl (?_ : RR _ _ _ _ 5 _ _ _ _)
  refine R_iconst dX10_voteIfWon_5 (?_ : RR _ _ _ _ 6 _ _ _ _)
  refine R_icmp_gt (t := 33) dX10_voteIfWon_6 rfl (fun c6 => ?_) (fun c6 => ?_)
  · exfalso; omega
  refine R_aload_n dX10_voteIfWon_9 rfl (?_ : RR _ _ _ _ 10 _ _ _ _)
  refine R_getr dX10_voteIfWon_10 flX10_27 cok_10 rfl (by decide) (?_ : RR _ _ _ _ 13 _ _ _ _)
  refine R_iload dX10_voteIfWon_13 rfl (?_ : RR _ _ _ _ 15 _ _ _ _)
  refine R_aload_n dX10_voteIfWon_15 rfl (?_ : RR _ _ _ _ 16 _ _ _ _)
  refine R_getr dX10_voteIfWon_16 flX10_18 cok_10 rfl (by decide) (?_ : RR _ _ _ _ 19 _ _ _ _)
  refine R_iconst dX10_voteIfWon_19 (?_ : RR _ _ _ _ 20 _ _ _ _)
  refine R_iload_n dX10_voteIfWon_20 rfl (?_ : RR _ _ _ _ 21 _ _ _ _)
  refine R_imul dX10_voteIfWon_21 (?_ : RR _ _ _ _ 22 _ _ _ _)
  refine R_iload dX10_voteIfWon_22 rfl (?_ : RR _ _ _ _ 24 _ _ _ _)
  refine R_iadd dX10_voteIfWon_24 (?_ : RR _ _ _ _ 25 _ _ _ _)
  refine R_iald dX10_voteIfWon_25 (fun q25 => (?_ : RR _ _ _ _ 26 _ _ _ _))
  try simp (disch := omega) only [rup_rup, rup_sort, rupS_def, rup_s, rup_n, fup_fup, fup_s, fup_n] at q25 ⊢
  refine R_iast dX10_voteIfWon_26 (?_ : RR _ _ _ _ 27 _ _ _ _)
  try simp (disch := omega) only [rup_rup, rup_sort, rupS_def, rup_s, rup_n, fup_fup, fup_s, fup_n]
  refine R_iinc dX10_voteIfWon_27 rfl (Nat.le_of_ble_eq_true rfl) (?_ : RR _ _ _ _ 30 [_, _, _, _, _] _ _ _)
  refine R_goto (t := 3) dX10_voteIfWon_30 rfl (?_ : RR _ _ _ _ 3 _ _ _ _)
  refine R_iload dX10_voteIfWon_3 rfl (?_ : RR _ _ _ _ 5 _ _ _ _)
  refine R_iconst dX10_voteIfWon_5 (?_ : RR _ _ _ _ 6 _ _ _ _)
  refine R_icmp_gt (t := 33) dX10_voteIfWon_6 rfl (fun c6 => ?_) (fun c6 => ?_)
  · exfalso; omega
  refine R_aload_n dX10_voteIfWon_9 rfl (?_ : RR _ _ _ _ 10 _ _ _ _)
  refine R_getr dX10_voteIfWon_10 flX10_27 cok_10 rfl (by decide) (?_ : RR _ _ _ _ 13 _ _ _ _)
  refine R_iload dX10_voteIfWon_13 rfl (?_ : RR _ _ _ _ 15 _ _ _ _)
  refine R_aload_n dX10_voteIfWon_15 rfl (?_ : RR _ _ _ _ 16 _ _ _ _)
  refine R_getr dX10_voteIfWon_16 flX10_18 cok_10 rfl (by decide) (?_ : RR _ _ _ _ 19 _ _ _ _)
  refine R_iconst dX10_voteIfWon_19 (?_ : RR _ _ _ _ 20 _ _ _ _)
  refine R_iload_n dX10_voteIfWon_20 rfl (?_ : RR _ _ _ _ 21 _ _ _ _)
  refine R_imul dX10_voteIfWon_21 (?_ : RR _ _ _ _ 22 _ _ _ _)
  refine R_iload dX10_voteIfWon_22 rfl (?_ : RR _ _ _ _ 24 _ _ _ _)
  refine R_iadd dX10_voteIfWon_24 (?_ : RR _ _ _ _ 25 _ _ _ _)
  refine R_iald dX10_voteIfWon_25 (fun q25 => (?_ : RR _ _ _ _ 26 _ _ _ _))
  try simp (disch := omega) only [rup_rup, rup_sort, rupS_def, rup_s, rup_n, fup_fup, fup_s, fup_n] at q25 ⊢
  refine R_iast dX10_voteIfWon_26 (?_ : RR _ _ _ _ 27 _ _ _ _)
  try simp (disch := omega) only [rup_rup, rup_sort, rupS_def, rup_s, rup_n, fup_fup, fup_s, fup_n]
  refine R_iinc dX10_voteIfWon_27 rfl (Nat.le_of_ble_eq_true rfl) (?_ : RR _ _ _ _ 30 [_, _, _, _, _] _ _ _)
  refine R_goto (t := 3) dX10_voteIfWon_30 rfl (?_ : RR _ _ _ _ 3 _ _ _ _)
  refine R_iload dX10_voteIfWon_3 rfl (?_ : RR _ _ _ _ 5 _ _ _ _)
  refine R_iconst dX10_voteIfWon_5 (?_ : RR _ _ _ _ 6 _ _ _ _)
  refine R_icmp_gt (t := 33) dX10_voteIfWon_6 rfl (fun c6 => ?_) (fun c6 => ?_)
  rotate_left
  · exfalso; omega
  refine R_iconst dX10_voteIfWon_33 (?_ : RR _ _ _ _ 34 _ _ _ _)
  refine R_istore dX10_voteIfWon_34 (Nat.le_of_ble_eq_true rfl) (?_ : RR _ _ _ _ 36 [_, _, _, _, _] _ _ _)
  rw [F0]
  exact L 12 0 (by omega)
/-- the vote of these alone -/
def amG (V W : Int → Int) (S i : Nat) (j : Int) : Int := sm (fun p => if S.testBit p = true ∧ W p = j then V p else 0) i
def amF (V W : Int → Int) (S : Nat) (f : Int → Int) (i : Nat) : Int → Int := fun j => if 0 ≤ j ∧ j < 3 then amG V W S i j else f j
theorem T_X10_voteAmong {S : Nat} (hS : S < 4096) (hV : ∀ p : Nat, S.testBit p = true → 0 ≤ h 37 p ∧ h 37 p ≤ 99) (hW : ∀ p : Nat, S.testBit p = true → h 38 p = -1 ∨ (0 ≤ h 38 p ∧ h 38 p < 3)) : MT mX10_voteAmong 1 [pR 36, pI S] h (some (pI (chS (amG (h 37) (h 38) S 12 0) (amG (h 37) (h 38) S 12 1) (amG (h 37) (h 38) S 12 2)))) (rup h 42 (amF (h 37) (h 38) S (h 42) 12)) := by
  refine MT.of (fun Q hQ => (?_ : RR mX10_voteAmong _ _ _ _ [pR 36, pI S, pU] _ _ _))
  obtain ⟨F, hF⟩ : ∃ F, F = amF (h 37) (h 38) S (h 42) := ⟨_, rfl⟩
  have hFb : ∀ (i : Nat) (j : Int), i ≤ 12 → 0 ≤ j → j < 3 → 0 ≤ F i j ∧ F i j ≤ 99 * i := fun i j hi j0 j1 => by
    rw [hF]
    unfold amF
    rw [if_pos ⟨j0, j1⟩]
    refine sm_b (by omega) (fun p => ?_) i
    split
    · rename_i z
      have := hV p z.1
      omega
    · omega
  have hv9 : chS (amG (h 37) (h 38) S 12 0) (amG (h 37) (h 38) S 12 1) (amG (h 37) (h 38) S 12 2) = chS (F 12 0) (F 12 1) (F 12 2) := by rw [hF]; rfl
  rw [hv9, ← hF] at hQ
  have E : ∀ w2 : PV, RR mX10_voteAmong 1 0 0 63 [pR 36, pI S, w2] [] (shp0, rf0, rup h 42 (F 12)) Q := by
    intro w2
    have b0 := hFb 12 0 (by omega) (by omega) (by omega)
    have b1 := hFb 12 1 (by omega) (by omega) (by omega)
    have b2 := hFb 12 2 (by omega) (by omega) (by omega)
    refine R_aload_n dX10_voteAmong_63 rfl (?_ : RR _ _ _ _ 64 _ _ _ _)
    refine R_getr dX10_voteAmong_64 flX10_27 cok_10 rfl (by decide) (?_ : RR _ _ _ _ 67 _ _ _ _)
    refine R_iconst dX10_voteAmong_67 (?_ : RR _ _ _ _ 68 _ _ _ _)
    refine R_iald dX10_voteAmong_68 (fun q68 => (?_ : RR _ _ _ _ 69 _ _ _ _))
    try simp (disch := omega) only [rup_rup, rup_sort, rupS_def, rup_s, rup_n, fup_fup, fup_s, fup_n] at q68 ⊢
    refine R_aload_n dX10_voteAmong_69 rfl (?_ : RR _ _ _ _ 70 _ _ _ _)
    refine R_getr dX10_voteAmong_70 flX10_27 cok_10 rfl (by decide) (?_ : RR _ _ _ _ 73 _ _ _ _)
    refine R_iconst dX10_voteAmong_73 (?_ : RR _ _ _ _ 74 _ _ _ _)
    refine R_iald dX10_voteAmong_74 (fun q74 => (?_ : RR _ _ _ _ 75 _ _ _ _))
    try simp (disch := omega) only [rup_rup, rup_sort, rupS_def, rup_s, rup_n, fup_fup, fup_s, fup_n] at q74 ⊢
    refine R_aload_n dX10_voteAmong_75 rfl (?_ : RR _ _ _ _ 76 _ _ _ _)
    refine R_getr dX10_voteAmong_76 flX10_27 cok_10 rfl (by decide) (?_ : RR _ _ _ _ 79 _ _ _ _)
    refine R_iconst dX10_voteAmong_79 (?_ : RR _ _ _ _ 80 _ _ _ _)
    refine R_iald dX10_voteAmong_80 (fun q80 => (?_ : RR _ _ _ _ 81 _ _ _ _))
    try simp (disch := omega) only [rup_rup, rup_sort, rupS_def, rup_s, rup_n, fup_fup, fup_s, fup_n] at q80 ⊢
    refine R_cSi3 dX10_voteAmong_81 msX10_choice mlX10_80 (by decide) (Nat.le_of_ble_eq_true rfl) (Nat.le_of_ble_eq_true rfl) (T_X10_choice) (?_ : RR _ _ _ _ 84 _ _ _ _)
    try simp (disch := omega) only [rup_rup, rup_sort, rupS_def, rup_s, rup_n, fup_fup, fup_s, fup_n]
    exact R_ireturn dX10_voteAmong_84 trivial hQ
  have hno : ∀ i : Nat, ¬ (S.testBit i = true ∧ h 38 i ≠ -1) → F (i + 1) = F i := fun i hn => by
    rw [hF]
    funext j
    unfold amF
    split
    · rename_i q
      unfold amG
      show sm _ i + (if S.testBit i = true ∧ h 38 i = j then h 37 i else 0) = _
      rw [if_neg (fun z => hn ⟨z.1, by omega⟩), Int.add_zero]
    · rfl
  have hyes : ∀ i : Nat, S.testBit i = true → (0 ≤ h 38 i ∧ h 38 i < 3) → fup (F i) (h 38 i) (F i (h 38 i) + h 37 i) = F (i + 1) := fun i hi hw => by
    rw [hF]
    funext j
    by_cases q : j = h 38 i
    · rw [q, fup_s]
      unfold amF
      rw [if_pos hw, if_pos hw]
      unfold amG
      show _ = sm _ i + (if S.testBit i = true ∧ h 38 i = h 38 i then h 37 i else 0)
      rw [if_pos ⟨hi, rfl⟩]
    · rw [fup_n q]
      unfold amF
      split
      · unfold amG
        show _ = sm _ i + (if S.testBit i = true ∧ h 38 i = j then h 37 i else 0)
        rw [if_neg (fun z => q z.2.symm), Int.add_zero]
      · rfl
  have L : ∀ (j i : Nat), i + j = 12 → RR mX10_voteAmong 1 0 0 6 [pR 36, pI S, pI i] [] (shp0, rf0, rup h 42 (F i)) Q := by
    intro j
    induction j with
    | zero =>
      intro i hi
      obtain rfl : i = 12 := by omega
      refine R_iload_n dX10_voteAmong_6 rfl (?_ : RR _ _ _ _ 7 _ _ _ _)
      refine R_bipush dX10_voteAmong_7 rfl (?_ : RR _ _ _ _ 9 _ _ _ _)
      refine R_icmp_ge (t := 63) dX10_voteAmong_9 rfl (fun c9 => ?_) (fun c9 => ?_)
      rotate_left
      · exfalso; omega
      exact E _
    | succ j ih =>
      intro i hi
      have hsh := iShr_nat (s := S) (i := i) (by omega) (by omega)
      have hbit := iBit (s := S) (i := i) (by omega) (by omega)
      have hdl : S / 2 ^ i ≤ S := Nat.div_le_self _ _
      obtain ⟨D, hD⟩ : ∃ D : Nat, D = S / 2 ^ i := ⟨_, rfl⟩
      rw [← hD] at hsh hdl
      have IH := ih (i + 1) (by omega)
      by_cases y : D = 0
      · have et : F 12 = F i := by
          rw [hF]
          funext j
          unfold amF
          split
          · unfold amG
            rw [sm_tail (i := i) (n := 12) (by omega) (fun p h1 h2 => if_neg (fun z => by rw [tb_hi (hD.symm.trans y) h1] at z; cases z.1))]
          · rfl
        rw [et] at E
        refine R_iload_n dX10_voteAmong_6 rfl (?_ : RR _ _ _ _ 7 _ _ _ _)
        refine R_bipush dX10_voteAmong_7 rfl (?_ : RR _ _ _ _ 9 _ _ _ _)
        refine R_icmp_ge (t := 63) dX10_voteAmong_9 rfl (fun c9 => ?_) (fun c9 => ?_)
        · exfalso; omega
        refine R_iload_n dX10_voteAmong_12 rfl (?_ : RR _ _ _ _ 13 _ _ _ _)
        refine R_iload_n dX10_voteAmong_13 rfl (?_ : RR _ _ _ _ 14 _ _ _ _)
        refine R_ishr dX10_voteAmong_14 (?_ : RR _ _ _ _ 15 _ _ _ _)
        rw [hsh, y]
        refine R_if_eq (t := 63) dX10_voteAmong_15 rfl (fun c15 => ?_) (fun c15 => ?_)
        rotate_left
        · exfalso; omega
        exact E _
      · by_cases z : S.testBit i = true
        · rw [if_pos z] at hbit
          have hVi := hV i z
          have hWi := hW i z
          by_cases u : h 38 i = -1
          · rw [hno i (fun q => q.2 u)] at IH
            refine R_iload_n dX10_voteAmong_6 rfl (?_ : RR _ _ _ _ 7 _ _ _ _)
            refine R_bipush dX10_voteAmong_7 rfl (?_ : RR _ _ _ _ 9 _ _ _ _)
            refine R_icmp_ge (t := 63) dX10_voteAmong_9 rfl (fun c9 => ?_) (fun c9 => ?_)
            · exfalso; omega
            refine R_iload_n dX10_voteAmong_12 rfl (?_ : RR _ _ _ _ 13 _ _ _ _)
            refine R_iload_n dX10_voteAmong_13 rfl (?_ : RR _ _ _ _ 14 _ _ _ _)
            refine R_ishr dX10_voteAmong_14 (?_ : RR _ _ _ _ 15 _ _ _ _)
            rw [hsh]
            refine R_if_eq (t := 63) dX10_voteAmong_15 rfl (fun c15 => ?_) (fun c15 => ?_)
            · exfalso; omega
            refine R_iload_n dX10_voteAmong_18 rfl (?_ : RR _ _ _ _ 19 _ _ _ _)
            refine R_iload_n dX10_voteAmong_19 rfl (?_ : RR _ _ _ _ 20 _ _ _ _)
            refine R_ishr dX10_voteAmong_20 (?_ : RR _ _ _ _ 21 _ _ _ _)
            refine R_iconst dX10_voteAmong_21 (?_ : RR _ _ _ _ 22 _ _ _ _)
            refine R_iand dX10_voteAmong_22 (?_ : RR _ _ _ _ 23 _ _ _ _)
            rw [hbit]
            refine R_iconst dX10_voteAmong_23 (?_ : RR _ _ _ _ 24 _ _ _ _)
            refine R_icmp_ne (t := 57) dX10_voteAmong_24 rfl (fun c24 => ?_) (fun c24 => ?_)
            · exfalso; omega
            refine R_aload_n dX10_voteAmong_27 rfl (?_ : RR _ _ _ _ 28 _ _ _ _)
            refine R_getr dX10_voteAmong_28 flX10_15 cok_10 rfl (by decide) (?_ : RR _ _ _ _ 31 _ _ _ _)
            refine R_iload_n dX10_voteAmong_31 rfl (?_ : RR _ _ _ _ 32 _ _ _ _)
            refine R_iald dX10_voteAmong_32 (fun q32 => (?_ : RR _ _ _ _ 33 _ _ _ _))
            try simp (disch := omega) only [rup_rup, rup_sort, rupS_def, rup_s, rup_n, fup_fup, fup_s, fup_n] at q32 ⊢
            refine R_iconst dX10_voteAmong_33 (?_ : RR _ _ _ _ 34 _ _ _ _)
            refine R_icmp_eq (t := 57) dX10_voteAmong_34 rfl (fun c34 => ?_) (fun c34 => ?_)
            rotate_left
            · exfalso; omega
            refine R_iinc dX10_voteAmong_57 rfl (Nat.le_of_ble_eq_true rfl) (?_ : RR _ _ _ _ 60 [_, _, _] _ _ _)
            refine R_goto (t := 6) dX10_voteAmong_60 rfl (?_ : RR _ _ _ _ 6 _ _ _ _)
            exact IH
          · rw [← hyes i z (by omega)] at IH
            have b1 := hFb i (h 38 i) (by omega) (by omega) (by omega)
            refine R_iload_n dX10_voteAmong_6 rfl (?_ : RR _ _ _ _ 7 _ _ _ _)
            refine R_bipush dX10_voteAmong_7 rfl (?_ : RR _ _ _ _ 9 _ _ _ _)
            refine R_icmp_ge (t := 63) dX10_voteAmong_9 rfl (fun c9 => ?_) (fun c9 => ?_)
            · exfalso; omega
            refine R_iload_n dX10_voteAmong_12 rfl (?_ : RR _ _ _ _ 13 _ _ _ _)
            refine R_iload_n dX10_voteAmong_13 rfl (?_ : RR _ _ _ _ 14 _ _ _ _)
            refine R_ishr dX10_voteAmong_14 (?_ : RR _ _ _ _ 15 _ _ _ _)
            rw [hsh]
            refine R_if_eq (t := 63) dX10_voteAmong_15 rfl (fun c15 => ?_) (fun c15 => ?_)
            · exfalso; omega
            refine R_iload_n dX10_voteAmong_18 rfl (?_ : RR _ _ _ _ 19 _ _ _ _)
            refine R_iload_n dX10_voteAmong_19 rfl (?_ : RR _ _ _ _ 20 _ _ _ _)
            refine R_ishr dX10_voteAmong_20 (?_ : RR _ _ _ _ 21 _ _ _ _)
            refine R_iconst dX10_voteAmong_21 (?_ : RR _ _ _ _ 22 _ _ _ _)
            refine R_iand dX10_voteAmong_22 (?_ : RR _ _ _ _ 23 _ _ _ _)
            rw [hbit]
            refine R_iconst dX10_voteAmong_23 (?_ : RR _ _ _ _ 24 _ _ _ _)
            refine R_icmp_ne (t := 57) dX10_voteAmong_24 rfl (fun c24 => ?_) (fun c24 => ?_)
            · exfalso; omega
            refine R_aload_n dX10_voteAmong_27 rfl (?_ : RR _ _ _ _ 28 _ _ _ _)
            refine R_getr dX10_voteAmong_28 flX10_15 cok_10 rfl (by decide) (?_ : RR _ _ _ _ 31 _ _ _ _)
            refine R_iload_n dX10_voteAmong_31 rfl (?_ : RR _ _ _ _ 32 _ _ _ _)
            refine R_iald dX10_voteAmong_32 (fun q32 => (?_ : RR _ _ _ _ 33 _ _ _ _))
            try simp (disch := omega) only [rup_rup, rup_sort, rupS_def, rup_s, rup_n, fup_fup, fup_s, fup_n] at q32 ⊢
            refine R_iconst dX10_voteAmong_33 (?_ : RR _ _ _ _ 34 _ _ _ _)
            refine R_icmp_eq (t := 57) dX10_voteAmong_34 rfl (fun c34 => ?_) (fun c34 => ?_)
            · exfalso; omega
            refine R_aload_n dX10_voteAmong_37 rfl (?_ : RR _ _ _ _ 38 _ _ _ _)
            refine R_getr dX10_voteAmong_38 flX10_27 cok_10 rfl (by decide) (?_ : RR _ _ _ _ 41 _ _ _ _)
            refine R_aload_n dX10_voteAmong_41 rfl (?_ : RR _ _ _ _ 42 _ _ _ _)
            refine R_getr dX10_voteAmong_42 flX10_15 cok_10 rfl (by decide) (?_ : RR _ _ _ _ 45 _ _ _ _)
            refine R_iload_n dX10_voteAmong_45 rfl (?_ : RR _ _ _ _ 46 _ _ _ _)
            refine R_iald dX10_voteAmong_46 (fun q46 => (?_ : RR _ _ _ _ 47 _ _ _ _))
            try simp (disch := omega) only [rup_rup, rup_sort, rupS_def, rup_s, rup_n, fup_fup, fup_s, fup_n] at q46 ⊢
            refine R_dup2 dX10_voteAmong_47 (fun _ => rfl) (fun _ => rfl) (?_ : RR _ _ _ _ 48 _ _ _ _)
            refine R_iald dX10_voteAmong_48 (fun q48 => (?_ : RR _ _ _ _ 49 _ _ _ _))
            try simp (disch := omega) only [rup_rup, rup_sort, rupS_def, rup_s, rup_n, fup_fup, fup_s, fup_n] at q48 ⊢
            refine R_aload_n dX10_voteAmong_49 rfl (?_ : RR _ _ _ _ 50 _ _ _ _)
            refine R_getr dX10_voteAmong_50 flX10_9 cok_10 rfl (by decide) (?_ : RR _ _ _ _ 53 _ _ _ _)
            refine R_iload_n dX10_voteAmong_53 rfl (?_ : RR _ _ _ _ 54 _ _ _ _)
            refine R_iald dX10_voteAmong_54 (fun q54 => (?_ : RR _ _ _ _ 55 _ _ _ _))
            try simp (disch := omega) only [rup_rup, rup_sort, rupS_def, rup_s, rup_n, fup_fup, fup_s, fup_n] at q54 ⊢
            refine R_iadd dX10_voteAmong_55 (?_ : RR _ _ _ _ 56 _ _ _ _)
            refine R_iast dX10_voteAmong_56 (?_ : RR _ _ _ _ 57 _ _ _ _)
            try simp (disch := omega) only [rup_rup, rup_sort, rupS_def, rup_s, rup_n, fup_fup, fup_s, fup_n]
            refine R_iinc dX10_voteAmong_57 rfl (Nat.le_of_ble_eq_true rfl) (?_ : RR _ _ _ _ 60 [_, _, _] _ _ _)
            refine R_goto (t := 6) dX10_voteAmong_60 rfl (?_ : RR _ _ _ _ 6 _ _ _ _)
            exact IH
        · rw [if_neg z] at hbit
          rw [hno i (fun q => z q.1)] at IH
          refine R_iload_n dX10_voteAmong_6 rfl (?_ : RR _ _ _ _ 7 _ _ _ _)
          refine R_bipush dX10_voteAmong_7 rfl (?_ : RR _ _ _ _ 9 _ _ _ _)
          refine R_icmp_ge (t := 63) dX10_voteAmong_9 rfl (fun c9 => ?_) (fun c9 => ?_)
          · exfalso; omega
          refine R_iload_n dX10_voteAmong_12 rfl (?_ : RR _ _ _ _ 13 _ _ _ _)
          refine R_iload_n dX10_voteAmong_13 rfl (?_ : RR _ _ _ _ 14 _ _ _ _)
          refine R_ishr dX10_voteAmong_14 (?_ : RR _ _ _ _ 15 _ _ _ _)
          rw [hsh]
          refine R_if_eq (t := 63) dX10_voteAmong_15 rfl (fun c15 => ?_) (fun c15 => ?_)
          · exfalso; omega
          refine R_iload_n dX10_voteAmong_18 rfl (?_ : RR _ _ _ _ 19 _ _ _ _)
          refine R_iload_n dX10_voteAmong_19 rfl (?_ : RR _ _ _ _ 20 _ _ _ _)
          refine R_ishr dX10_voteAmong_20 (?_ : RR _ _ _ _ 21 _ _ _ _)
          refine R_iconst dX10_voteAmong_21 (?_ : RR _ _ _ _ 22 _ _ _ _)
          refine R_iand dX10_voteAmong_22 (?_ : RR _ _ _ _ 23 _ _ _ _)
          rw [hbit]
          refine R_iconst dX10_voteAmong_23 (?_ : RR _ _ _ _ 24 _ _ _ _)
          refine R_icmp_ne (t := 57) dX10_voteAmong_24 rfl (fun c24 => ?_) (fun c24 => ?_)
          rotate_left
          · exfalso; omega
          refine R_iinc dX10_voteAmong_57 rfl (Nat.le_of_ble_eq_true rfl) (?_ : RR _ _ _ _ 60 [_, _, _] _ _ _)
          refine R_goto (t := 6) dX10_voteAmong_60 rfl (?_ : RR _ _ _ _ 6 _ _ _ _)
          exact IH
  have F0 : zr (h 42) 3 = F 0 := by rw [hF]; rfl
  refine R_aload_n dX10_voteAmong_0 rfl (?_ : RR _ _ _ _ 1 _ _ _ _)
  refine R_cVv0 dX10_voteAmong_1 mvX10_clearSome mlX10_84 (by decide) (by decide) (Nat.le_of_ble_eq_true rfl) (Nat.le_of_ble_eq_true rfl) (T_X10_clearSome) (?_ : RR _ _ _ _ 4 _ _ _ _)
  rw [zr_3, F0]
  refine R_iconst dX10_voteAmong_4 (?_ : RR _ _ _ _ 5 _ _ _ _)
  refine R_istore_n dX10_voteAmong_5 (Nat.le_of_ble_eq_true rfl) (?_ : RR _ _ _ _ 6 [_, _, _] _ _ _)
  exact L 12 0 (by omega)
end HV
