section MT2
variable {k : Nat} {h h1 h2 h3 h4 : Nat → Int → Int} {H l N : Nat} {ex mi : Int → Int} {fit : Int → Int → Bool} {st : Int}
theorem lsS_b {f : Int → Int} : ∀ {n : Nat}, (∀ i : Nat, i < n → 0 ≤ f i ∧ f i ≤ 12) → -1 ≤ lsS f n ∧ lsS f n ≤ 12 ∧ (1 ≤ n → 0 ≤ lsS f n)
  | 0, _ => ⟨by show (-1 : Int) ≤ -1; omega, by show (-1 : Int) ≤ 12; omega, fun z => by omega⟩
  | n + 1, hh => by
    have h1 := lsS_b (f := f) (n := n) (fun i hi => hh i (by omega))
    have h2 := hh n (by omega)
    show -1 ≤ max (lsS f n) (f n) ∧ max (lsS f n) (f n) ≤ 12 ∧ (_ → 0 ≤ max (lsS f n) (f n))
    omega
theorem T_X12_lastSeen (hN : h 147 40 = N) (hN12 : N ≤ 12) (hb : ∀ i : Nat, i < N → 0 ≤ h 170 i ∧ h 170 i ≤ 12) : MT mX12_lastSeen 1 [pR 147] h (some (pI (lsS (h 170) N))) h := by
  refine MT.of (fun Q hQ => (?_ : RR mX12_lastSeen _ _ _ _ [pR 147, pU, pU] _ _ _))
  have L : ∀ k i : Nat, i + k = N → RR mX12_lastSeen 1 0 0 4 [pR 147, pI (lsS (h 170) i), pI i] [] (shp0, rf0, h) Q := by
    intro k
    induction k with
    | zero =>
      intro i hi 
      obtain rfl : i = N := by omega
      refine R_iload_n dX12_lastSeen_4 rfl (?_ : RR _ _ _ _ 5 _ _ _ _)
      refine R_aload_n dX12_lastSeen_5 rfl (?_ : RR _ _ _ _ 6 _ _ _ _)
      refine R_geti (z := 40) dX12_lastSeen_6 flX12_205 cok_12 rfl (by decide) rfl (fun q6 => (?_ : RR _ _ _ _ 9 _ _ _ _))
      rw [hN] at q6 ⊢
      refine R_icmp_ge (t := 29) dX12_lastSeen_9 rfl (fun c9 => ?_) (fun c9 => ?_)
      rotate_left
      · exfalso; omega
      refine R_iload_n dX12_lastSeen_29 rfl (?_ : RR _ _ _ _ 30 _ _ _ _)
      exact R_ireturn dX12_lastSeen_30 trivial hQ
    | succ k ih =>
      intro i hi 
      have hbi := hb i (by omega)
      have hlb := lsS_b (f := h 170) (n := i) (fun a ha => hb a (by omega))
      refine R_iload_n dX12_lastSeen_4 rfl (?_ : RR _ _ _ _ 5 _ _ _ _)
      refine R_aload_n dX12_lastSeen_5 rfl (?_ : RR _ _ _ _ 6 _ _ _ _)
      refine R_geti (z := 40) dX12_lastSeen_6 flX12_205 cok_12 rfl (by decide) rfl (fun q6 => (?_ : RR _ _ _ _ 9 _ _ _ _))
      rw [hN] at q6 ⊢
      refine R_icmp_ge (t := 29) dX12_lastSeen_9 rfl (fun c9 => ?_) (fun c9 => ?_)
      · exfalso; omega
      refine R_iload_n dX12_lastSeen_12 rfl (?_ : RR _ _ _ _ 13 _ _ _ _)
      refine R_aload_n dX12_lastSeen_13 rfl (?_ : RR _ _ _ _ 14 _ _ _ _)
      refine R_getr dX12_lastSeen_14 flX12_81 cok_12 rfl (by decide) (?_ : RR _ _ _ _ 17 _ _ _ _)
      refine R_iload_n dX12_lastSeen_17 rfl (?_ : RR _ _ _ _ 18 _ _ _ _)
      refine R_iald dX12_lastSeen_18 (fun q18 => (?_ : RR _ _ _ _ 19 _ _ _ _))
      refine R_max dX12_lastSeen_19 mmX12_281 (by decide) (Nat.le_of_ble_eq_true rfl) (?_ : RR _ _ _ _ 22 _ _ _ _)
      refine R_istore_n dX12_lastSeen_22 (Nat.le_of_ble_eq_true rfl) (?_ : RR _ _ _ _ 23 [_, _, _] _ _ _)
      refine R_iinc dX12_lastSeen_23 rfl (Nat.le_of_ble_eq_true rfl) (?_ : RR _ _ _ _ 26 [_, _, _] _ _ _)
      refine R_goto (t := 4) dX12_lastSeen_26 rfl (?_ : RR _ _ _ _ 4 _ _ _ _)
      exact ih (i + 1) (by omega)
  refine R_iconst dX12_lastSeen_0 (?_ : RR _ _ _ _ 1 _ _ _ _)
  refine R_istore_n dX12_lastSeen_1 (Nat.le_of_ble_eq_true rfl) (?_ : RR _ _ _ _ 2 [_, _, _] _ _ _)
  refine R_iconst dX12_lastSeen_2 (?_ : RR _ _ _ _ 3 _ _ _ _)
  refine R_istore_n dX12_lastSeen_3 (Nat.le_of_ble_eq_true rfl) (?_ : RR _ _ _ _ 4 [_, _, _] _ _ _)
  exact L N 0 (by omega)
theorem T_X12_fits {c s : Int} (hN : h 147 40 = N) (hN12 : N ≤ 12) (hs : r32 s) (hc : r32 c) : MT mX12_fits 1 [pR 147, pI s, pI c] h (some (pI (if fiS (h 170) (h 171) (h 172) s c N then 1 else 0))) h := by
  refine MT.of (fun Q hQ => (?_ : RR mX12_fits _ _ _ _ [pR 147, pI s, pI c, pU, pU] _ _ _))
  have L : ∀ (j i : Nat), i + j = N → RR mX12_fits 1 0 0 5 [pR 147, pI s, pI c, pI (if fiS (h 170) (h 171) (h 172) s c i then 1 else 0), pI i] [] (shp0, rf0, h) Q := by
    intro j
    induction j with
    | zero =>
      intro i hi
      obtain rfl : i = N := by omega
      refine R_iload dX12_fits_5 rfl (?_ : RR _ _ _ _ 7 _ _ _ _)
      refine R_aload_n dX12_fits_7 rfl (?_ : RR _ _ _ _ 8 _ _ _ _)
      refine R_geti (z := 40) dX12_fits_8 flX12_205 cok_12 rfl (by decide) rfl (fun q8 => (?_ : RR _ _ _ _ 11 _ _ _ _))
      rw [hN] at q8 ⊢
      refine R_icmp_ge (t := 70) dX12_fits_11 rfl (fun c11 => ?_) (fun c11 => ?_)
      rotate_left
      · exfalso; omega
      refine R_iload_n dX12_fits_70 rfl (?_ : RR _ _ _ _ 71 _ _ _ _)
      exact R_ireturn dX12_fits_71 (by first | exact Or.inl rfl | exact Or.inr rfl | exact ok_ite | omega) hQ
    | succ j ih =>
      intro i hi
      have IH := ih (i + 1) (by omega)
      have e9 : fiS (h 170) (h 171) (h 172) s c (i + 1) = (fiS (h 170) (h 171) (h 172) s c i && decide (h 170 i ≠ s ∨ (if h 171 i = c then 1 else 0) = h 172 i)) := rfl
      rw [e9] at IH
      by_cases y : fiS (h 170) (h 171) (h 172) s c i = true
      · rw [y, Bool.true_and] at IH
        rw [if_pos y]
        by_cases z : h 170 i = s
        · by_cases u : h 171 i = c
          · rw [if_pos u] at IH
            by_cases x : 1 = h 172 i
            · rw [if_pos (decide_eq_true (Or.inr x))] at IH
              refine R_iload dX12_fits_5 rfl (?_ : RR _ _ _ _ 7 _ _ _ _)
              refine R_aload_n dX12_fits_7 rfl (?_ : RR _ _ _ _ 8 _ _ _ _)
              refine R_geti (z := 40) dX12_fits_8 flX12_205 cok_12 rfl (by decide) rfl (fun q8 => (?_ : RR _ _ _ _ 11 _ _ _ _))
              rw [hN] at q8 ⊢
              refine R_icmp_ge (t := 70) dX12_fits_11 rfl (fun c11 => ?_) (fun c11 => ?_)
              · exfalso; omega
              refine R_iload_n dX12_fits_14 rfl (?_ : RR _ _ _ _ 15 _ _ _ _)
              refine R_if_eq (t := 62) dX12_fits_15 rfl (fun c15 => ?_) (fun c15 => ?_)
              · exfalso; omega
              refine R_aload_n dX12_fits_18 rfl (?_ : RR _ _ _ _ 19 _ _ _ _)
              refine R_getr dX12_fits_19 flX12_81 cok_12 rfl (by decide) (?_ : RR _ _ _ _ 22 _ _ _ _)
              refine R_iload dX12_fits_22 rfl (?_ : RR _ _ _ _ 24 _ _ _ _)
              refine R_iald dX12_fits_24 (fun q24 => (?_ : RR _ _ _ _ 25 _ _ _ _))
              refine R_iload_n dX12_fits_25 rfl (?_ : RR _ _ _ _ 26 _ _ _ _)
              refine R_icmp_ne (t := 58) dX12_fits_26 rfl (fun c26 => ?_) (fun c26 => ?_)
              · exfalso; omega
              refine R_aload_n dX12_fits_29 rfl (?_ : RR _ _ _ _ 30 _ _ _ _)
              refine R_getr dX12_fits_30 flX12_84 cok_12 rfl (by decide) (?_ : RR _ _ _ _ 33 _ _ _ _)
              refine R_iload dX12_fits_33 rfl (?_ : RR _ _ _ _ 35 _ _ _ _)
              refine R_iald dX12_fits_35 (fun q35 => (?_ : RR _ _ _ _ 36 _ _ _ _))
              refine R_iload_n dX12_fits_36 rfl (?_ : RR _ _ _ _ 37 _ _ _ _)
              refine R_icmp_ne (t := 44) dX12_fits_37 rfl (fun c37 => ?_) (fun c37 => ?_)
              · exfalso; omega
              refine R_iconst dX12_fits_40 (?_ : RR _ _ _ _ 41 _ _ _ _)
              refine R_goto (t := 45) dX12_fits_41 rfl (?_ : RR _ _ _ _ 45 _ _ _ _)
              refine R_cSi1 dX12_fits_45 msX12_flag mlX12_134 (by decide) (Nat.le_of_ble_eq_true rfl) (Nat.le_of_ble_eq_true rfl) (T_X12_flag) (?_ : RR _ _ _ _ 48 _ _ _ _)
              refine R_aload_n dX12_fits_48 rfl (?_ : RR _ _ _ _ 49 _ _ _ _)
              refine R_getr dX12_fits_49 flX12_87 cok_12 rfl (by decide) (?_ : RR _ _ _ _ 52 _ _ _ _)
              refine R_iload dX12_fits_52 rfl (?_ : RR _ _ _ _ 54 _ _ _ _)
              refine R_iald dX12_fits_54 (fun q54 => (?_ : RR _ _ _ _ 55 _ _ _ _))
              refine R_icmp_ne (t := 62) dX12_fits_55 rfl (fun c55 => ?_) (fun c55 => ?_)
              · exfalso; omega
              refine R_iconst dX12_fits_58 (?_ : RR _ _ _ _ 59 _ _ _ _)
              refine R_goto (t := 63) dX12_fits_59 rfl (?_ : RR _ _ _ _ 63 _ _ _ _)
              refine R_istore_n dX12_fits_63 (Nat.le_of_ble_eq_true rfl) (?_ : RR _ _ _ _ 64 [_, _, _, _, _] _ _ _)
              refine R_iinc dX12_fits_64 rfl (Nat.le_of_ble_eq_true rfl) (?_ : RR _ _ _ _ 67 [_, _, _, _, _] _ _ _)
              refine R_goto (t := 5) dX12_fits_67 rfl (?_ : RR _ _ _ _ 5 _ _ _ _)
              exact IH
            · rw [if_neg (by simp [z, x])] at IH
              refine R_iload dX12_fits_5 rfl (?_ : RR _ _ _ _ 7 _ _ _ _)
              refine R_aload_n dX12_fits_7 rfl (?_ : RR _ _ _ _ 8 _ _ _ _)
              refine R_geti (z := 40) dX12_fits_8 flX12_205 cok_12 rfl (by decide) rfl (fun q8 => (?_ : RR _ _ _ _ 11 _ _ _ _))
              rw [hN] at q8 ⊢
              refine R_icmp_ge (t := 70) dX12_fits_11 rfl (fun c11 => ?_) (fun c11 => ?_)
              · exfalso; omega
              refine R_iload_n dX12_fits_14 rfl (?_ : RR _ _ _ _ 15 _ _ _ _)
              refine R_if_eq (t := 62) dX12_fits_15 rfl (fun c15 => ?_) (fun c15 => ?_)
              · exfalso; omega
              refine R_aload_n dX12_fits_18 rfl (?_ : RR _ _ _ _ 19 _ _ _ _)
              refine R_getr dX12_fits_19 flX12_81 cok_12 rfl (by decide) (?_ : RR _ _ _ _ 22 _ _ _ _)
              refine R_iload dX12_fits_22 rfl (?_ : RR _ _ _ _ 24 _ _ _ _)
              refine R_iald dX12_fits_24 (fun q24 => (?_ : RR _ _ _ _ 25 _ _ _ _))
              refine R_iload_n dX12_fits_25 rfl (?_ : RR _ _ _ _ 26 _ _ _ _)
              refine R_icmp_ne (t := 58) dX12_fits_26 rfl (fun c26 => ?_) (fun c26 => ?_)
              · exfalso; omega
              refine R_aload_n dX12_fits_29 rfl (?_ : RR _ _ _ _ 30 _ _ _ _)
              refine R_getr dX12_fits_30 flX12_84 cok_12 rfl (by decide) (?_ : RR _ _ _ _ 33 _ _ _ _)
              refine R_iload dX12_fits_33 rfl (?_ : RR _ _ _ _ 35 _ _ _ _)
              refine R_iald dX12_fits_35 (fun q35 => (?_ : RR _ _ _ _ 36 _ _ _ _))
              refine R_iload_n dX12_fits_36 rfl (?_ : RR _ _ _ _ 37 _ _ _ _)
              refine R_icmp_ne (t := 44) dX12_fits_37 rfl (fun c37 => ?_) (fun c37 => ?_)
              · exfalso; omega
              refine R_iconst dX12_fits_40 (?_ : RR _ _ _ _ 41 _ _ _ _)
              refine R_goto (t := 45) dX12_fits_41 rfl (?_ : RR _ _ _ _ 45 _ _ _ _)
              refine R_cSi1 dX12_fits_45 msX12_flag mlX12_134 (by decide) (Nat.le_of_ble_eq_true rfl) (Nat.le_of_ble_eq_true rfl) (T_X12_flag) (?_ : RR _ _ _ _ 48 _ _ _ _)
              refine R_aload_n dX12_fits_48 rfl (?_ : RR _ _ _ _ 49 _ _ _ _)
              refine R_getr dX12_fits_49 flX12_87 cok_12 rfl (by decide) (?_ : RR _ _ _ _ 52 _ _ _ _)
              refine R_iload dX12_fits_52 rfl (?_ : RR _ _ _ _ 54 _ _ _ _)
              refine R_iald dX12_fits_54 (fun q54 => (?_ : RR _ _ _ _ 55 _ _ _ _))
              refine R_icmp_ne (t := 62) dX12_fits_55 rfl (fun c55 => ?_) (fun c55 => ?_)
              rotate_left
              · exfalso; omega
              refine R_iconst dX12_fits_62 (?_ : RR _ _ _ _ 63 _ _ _ _)
              refine R_istore_n dX12_fits_63 (Nat.le_of_ble_eq_true rfl) (?_ : RR _ _ _ _ 64 [_, _, _, _, _] _ _ _)
              refine R_iinc dX12_fits_64 rfl (Nat.le_of_ble_eq_true rfl) (?_ : RR _ _ _ _ 67 [_, _, _, _, _] _ _ _)
              refine R_goto (t := 5) dX12_fits_67 rfl (?_ : RR _ _ _ _ 5 _ _ _ _)
              exact IH
          · rw [if_neg u] at IH
            by_cases x : 0 = h 172 i
            · rw [if_pos (decide_eq_true (Or.inr x))] at IH
              refine R_iload dX12_fits_5 rfl (?_ : RR _ _ _ _ 7 _ _ _ _)
              refine R_aload_n dX12_fits_7 rfl (?_ : RR _ _ _ _ 8 _ _ _ _)
              refine R_geti (z := 40) dX12_fits_8 flX12_205 cok_12 rfl (by decide) rfl (fun q8 => (?_ : RR _ _ _ _ 11 _ _ _ _))
              rw [hN] at q8 ⊢
              refine R_icmp_ge (t := 70) dX12_fits_11 rfl (fun c11 => ?_) (fun c11 => ?_)
              · exfalso; omega
              refine R_iload_n dX12_fits_14 rfl (?_ : RR _ _ _ _ 15 _ _ _ _)
              refine R_if_eq (t := 62) dX12_fits_15 rfl (fun c15 => ?_) (fun c15 => ?_)
              · exfalso; omega
              refine R_aload_n dX12_fits_18 rfl (?_ : RR _ _ _ _ 19 _ _ _ _)
              refine R_getr dX12_fits_19 flX12_81 cok_12 rfl (by decide) (?_ : RR _ _ _ _ 22 _ _ _ _)
              refine R_iload dX12_fits_22 rfl (?_ : RR _ _ _ _ 24 _ _ _ _)
              refine R_iald dX12_fits_24 (fun q24 => (?_ : RR _ _ _ _ 25 _ _ _ _))
              refine R_iload_n dX12_fits_25 rfl (?_ : RR _ _ _ _ 26 _ _ _ _)
              refine R_icmp_ne (t := 58) dX12_fits_26 rfl (fun c26 => ?_) (fun c26 => ?_)
              · exfalso; omega
              refine R_aload_n dX12_fits_29 rfl (?_ : RR _ _ _ _ 30 _ _ _ _)
              refine R_getr dX12_fits_30 flX12_84 cok_12 rfl (by decide) (?_ : RR _ _ _ _ 33 _ _ _ _)
              refine R_iload dX12_fits_33 rfl (?_ : RR _ _ _ _ 35 _ _ _ _)
              refine R_iald dX12_fits_35 (fun q35 => (?_ : RR _ _ _ _ 36 _ _ _ _))
              refine R_iload_n dX12_fits_36 rfl (?_ : RR _ _ _ _ 37 _ _ _ _)
              refine R_icmp_ne (t := 44) dX12_fits_37 rfl (fun c37 => ?_) (fun c37 => ?_)
              rotate_left
              · exfalso; omega
              refine R_iconst dX12_fits_44 (?_ : RR _ _ _ _ 45 _ _ _ _)
              refine R_cSi1 dX12_fits_45 msX12_flag mlX12_134 (by decide) (Nat.le_of_ble_eq_true rfl) (Nat.le_of_ble_eq_true rfl) (T_X12_flag) (?_ : RR _ _ _ _ 48 _ _ _ _)
              refine R_aload_n dX12_fits_48 rfl (?_ : RR _ _ _ _ 49 _ _ _ _)
              refine R_getr dX12_fits_49 flX12_87 cok_12 rfl (by decide) (?_ : RR _ _ _ _ 52 _ _ _ _)
              refine R_iload dX12_fits_52 rfl (?_ : RR _ _ _ _ 54 _ _ _ _)
              refine R_iald dX12_fits_54 (fun q54 => (?_ : RR _ _ _ _ 55 _ _ _ _))
              refine R_icmp_ne (t := 62) dX12_fits_55 rfl (fun c55 => ?_) (fun c55 => ?_)
              · exfalso; omega
              refine R_iconst dX12_fits_58 (?_ : RR _ _ _ _ 59 _ _ _ _)
              refine R_goto (t := 63) dX12_fits_59 rfl (?_ : RR _ _ _ _ 63 _ _ _ _)
              refine R_istore_n dX12_fits_63 (Nat.le_of_ble_eq_true rfl) (?_ : RR _ _ _ _ 64 [_, _, _, _, _] _ _ _)
              refine R_iinc dX12_fits_64 rfl (Nat.le_of_ble_eq_true rfl) (?_ : RR _ _ _ _ 67 [_, _, _, _, _] _ _ _)
              refine R_goto (t := 5) dX12_fits_67 rfl (?_ : RR _ _ _ _ 5 _ _ _ _)
              exact IH
            · rw [if_neg (by simp [z, x])] at IH
              refine R_iload dX12_fits_5 rfl (?_ : RR _ _ _ _ 7 _ _ _ _)
              refine R_aload_n dX12_fits_7 rfl (?_ : RR _ _ _ _ 8 _ _ _ _)
              refine R_geti (z := 40) dX12_fits_8 flX12_205 cok_12 rfl (by decide) rfl (fun q8 => (?_ : RR _ _ _ _ 11 _ _ _ _))
              rw [hN] at q8 ⊢
              refine R_icmp_ge (t := 70) dX12_fits_11 rfl (fun c11 => ?_) (fun c11 => ?_)
              · exfalso; omega
              refine R_iload_n dX12_fits_14 rfl (?_ : RR _ _ _ _ 15 _ _ _ _)
              refine R_if_eq (t := 62) dX12_fits_15 rfl (fun c15 => ?_) (fun c15 => ?_)
              · exfalso; omega
              refine R_aload_n dX12_fits_18 rfl (?_ : RR _ _ _ _ 19 _ _ _ _)
              refine R_getr dX12_fits_19 flX12_81 cok_12 rfl (by decide) (?_ : RR _ _ _ _ 22 _ _ _ _)
              refine R_iload dX12_fits_22 rfl (?_ : RR _ _ _ _ 24 _ _ _ _)
              refine R_iald dX12_fits_24 (fun q24 => (?_ : RR _ _ _ _ 25 _ _ _ _))
              refine R_iload_n dX12_fits_25 rfl (?_ : RR _ _ _ _ 26 _ _ _ _)
              refine R_icmp_ne (t := 58) dX12_fits_26 rfl (fun c26 => ?_) (fun c26 => ?_)
              · exfalso; omega
              refine R_aload_n dX12_fits_29 rfl (?_ : RR _ _ _ _ 30 _ _ _ _)
              refine R_getr dX12_fits_30 flX12_84 cok_12 rfl (by decide) (?_ : RR _ _ _ _ 33 _ _ _ _)
              refine R_iload dX12_fits_33 rfl (?_ : RR _ _ _ _ 35 _ _ _ _)
              refine R_iald dX12_fits_35 (fun q35 => (?_ : RR _ _ _ _ 36 _ _ _ _))
              refine R_iload_n dX12_fits_36 rfl (?_ : RR _ _ _ _ 37 _ _ _ _)
              refine R_icmp_ne (t := 44) dX12_fits_37 rfl (fun c37 => ?_) (fun c37 => ?_)
              rotate_left
              · exfalso; omega
              refine R_iconst dX12_fits_44 (?_ : RR _ _ _ _ 45 _ _ _ _)
              refine R_cSi1 dX12_fits_45 msX12_flag mlX12_134 (by decide) (Nat.le_of_ble_eq_true rfl) (Nat.le_of_ble_eq_true rfl) (T_X12_flag) (?_ : RR _ _ _ _ 48 _ _ _ _)
              refine R_aload_n dX12_fits_48 rfl (?_ : RR _ _ _ _ 49 _ _ _ _)
              refine R_getr dX12_fits_49 flX12_87 cok_12 rfl (by decide) (?_ : RR _ _ _ _ 52 _ _ _ _)
              refine R_iload dX12_fits_52 rfl (?_ : RR _ _ _ _ 54 _ _ _ _)
              refine R_iald dX12_fits_54 (fun q54 => (?_ : RR _ _ _ _ 55 _ _ _ _))
              refine R_icmp_ne (t := 62) dX12_fits_55 rfl (fun c55 => ?_) (fun c55 => ?_)
              rotate_left
              · exfalso; omega
              refine R_iconst dX12_fits_62 (?_ : RR _ _ _ _ 63 _ _ _ _)
              refine R_istore_n dX12_fits_63 (Nat.le_of_ble_eq_true rfl) (?_ : RR _ _ _ _ 64 [_, _, _, _, _] _ _ _)
              refine R_iinc dX12_fits_64 rfl (Nat.le_of_ble_eq_true rfl) (?_ : RR _ _ _ _ 67 [_, _, _, _, _] _ _ _)
              refine R_goto (t := 5) dX12_fits_67 rfl (?_ : RR _ _ _ _ 5 _ _ _ _)
              exact IH
        · rw [if_pos (decide_eq_true (Or.inl z))] at IH
          refine R_iload dX12_fits_5 rfl (?_ : RR _ _ _ _ 7 _ _ _ _)
          refine R_aload_n dX12_fits_7 rfl (?_ : RR _ _ _ _ 8 _ _ _ _)
          refine R_geti (z := 40) dX12_fits_8 flX12_205 cok_12 rfl (by decide) rfl (fun q8 => (?_ : RR _ _ _ _ 11 _ _ _ _))
          rw [hN] at q8 ⊢
          refine R_icmp_ge (t := 70) dX12_fits_11 rfl (fun c11 => ?_) (fun c11 => ?_)
          · exfalso; omega
          refine R_iload_n dX12_fits_14 rfl (?_ : RR _ _ _ _ 15 _ _ _ _)
          refine R_if_eq (t := 62) dX12_fits_15 rfl (fun c15 => ?_) (fun c15 => ?_)
          · exfalso; omega
          refine R_aload_n dX12_fits_18 rfl (?_ : RR _ _ _ _ 19 _ _ _ _)
          refine R_getr dX12_fits_19 flX12_81 cok_12 rfl (by decide) (?_ : RR _ _ _ _ 22 _ _ _ _)
          refine R_iload dX12_fits_22 rfl (?_ : RR _ _ _ _ 24 _ _ _ _)
          refine R_iald dX12_fits_24 (fun q24 => (?_ : RR _ _ _ _ 25 _ _ _ _))
          refine R_iload_n dX12_fits_25 rfl (?_ : RR _ _ _ _ 26 _ _ _ _)
          refine R_icmp_ne (t := 58) dX12_fits_26 rfl (fun c26 => ?_) (fun c26 => ?_)
          rotate_left
          · exfalso; omega
          refine R_iconst dX12_fits_58 (?_ : RR _ _ _ _ 59 _ _ _ _)
          refine R_goto (t := 63) dX12_fits_59 rfl (?_ : RR _ _ _ _ 63 _ _ _ _)
          refine R_istore_n dX12_fits_63 (Nat.le_of_ble_eq_true rfl) (?_ : RR _ _ _ _ 64 [_, _, _, _, _] _ _ _)
          refine R_iinc dX12_fits_64 rfl (Nat.le_of_ble_eq_true rfl) (?_ : RR _ _ _ _ 67 [_, _, _, _, _] _ _ _)
          refine R_goto (t := 5) dX12_fits_67 rfl (?_ : RR _ _ _ _ 5 _ _ _ _)
          exact IH
      · rw [if_neg y]
        rw [show fiS (h 170) (h 171) (h 172) s c i = false by simpa using y, Bool.false_and, if_neg (by simp)] at IH
        refine R_iload dX12_fits_5 rfl (?_ : RR _ _ _ _ 7 _ _ _ _)
        refine R_aload_n dX12_fits_7 rfl (?_ : RR _ _ _ _ 8 _ _ _ _)
        refine R_geti (z := 40) dX12_fits_8 flX12_205 cok_12 rfl (by decide) rfl (fun q8 => (?_ : RR _ _ _ _ 11 _ _ _ _))
        rw [hN] at q8 ⊢
        refine R_icmp_ge (t := 70) dX12_fits_11 rfl (fun c11 => ?_) (fun c11 => ?_)
        · exfalso; omega
        refine R_iload_n dX12_fits_14 rfl (?_ : RR _ _ _ _ 15 _ _ _ _)
        refine R_if_eq (t := 62) dX12_fits_15 rfl (fun c15 => ?_) (fun c15 => ?_)
        rotate_left
        · exfalso; omega
        refine R_iconst dX12_fits_62 (?_ : RR _ _ _ _ 63 _ _ _ _)
        refine R_istore_n dX12_fits_63 (Nat.le_of_ble_eq_true rfl) (?_ : RR _ _ _ _ 64 [_, _, _, _, _] _ _ _)
        refine R_iinc dX12_fits_64 rfl (Nat.le_of_ble_eq_true rfl) (?_ : RR _ _ _ _ 67 [_, _, _, _, _] _ _ _)
        refine R_goto (t := 5) dX12_fits_67 rfl (?_ : RR _ _ _ _ 5 _ _ _ _)
        exact IH
  refine R_iconst dX12_fits_0 (?_ : RR _ _ _ _ 1 _ _ _ _)
  refine R_istore_n dX12_fits_1 (Nat.le_of_ble_eq_true rfl) (?_ : RR _ _ _ _ 2 [_, _, _, _, _] _ _ _)
  refine R_iconst dX12_fits_2 (?_ : RR _ _ _ _ 3 _ _ _ _)
  refine R_istore dX12_fits_3 (Nat.le_of_ble_eq_true rfl) (?_ : RR _ _ _ _ 5 [_, _, _, _, _] _ _ _)
  exact L N 0 (by omega)
theorem T_X12_rowsBy {k c x : Int} (hE : exB (h 149)) (hk : 0 ≤ k ∧ k ≤ 11) (hc : 0 ≤ c ∧ c ≤ 8) (hx : 0 ≤ x ∧ x ≤ 1) : MT mX12_rowsBy 0 [pR 147, pI k, pI c, pI x] h (some (pI (rbS (h 149) (fun d => h 173 (9 * (k + 1) + d)) (2 * c + x)))) h := by
  refine MT.of (fun Q hQ => (?_ : RR mX12_rowsBy _ _ _ _ [pR 147, pI k, pI c, pI x, pU] _ _ _))
  have he := hE (2 * c + x) (by omega) (by omega)
  unfold rbS at hQ
  by_cases q : h 149 (2 * c + x) < 0
  · rw [if_pos q] at hQ
    refine R_aload_n dX12_rowsBy_0 rfl (?_ : RR _ _ _ _ 1 _ _ _ _)
    refine R_getr dX12_rowsBy_1 flX12_17 cok_12 rfl (by decide) (?_ : RR _ _ _ _ 4 _ _ _ _)
    refine R_iconst dX12_rowsBy_4 (?_ : RR _ _ _ _ 5 _ _ _ _)
    refine R_iload_n dX12_rowsBy_5 rfl (?_ : RR _ _ _ _ 6 _ _ _ _)
    refine R_imul dX12_rowsBy_6 (?_ : RR _ _ _ _ 7 _ _ _ _)
    refine R_iload_n dX12_rowsBy_7 rfl (?_ : RR _ _ _ _ 8 _ _ _ _)
    refine R_iadd dX12_rowsBy_8 (?_ : RR _ _ _ _ 9 _ _ _ _)
    refine R_iald dX12_rowsBy_9 (fun q9 => (?_ : RR _ _ _ _ 10 _ _ _ _))
    refine R_istore dX12_rowsBy_10 (Nat.le_of_ble_eq_true rfl) (?_ : RR _ _ _ _ 12 [_, _, _, _, _] _ _ _)
    refine R_iload dX12_rowsBy_12 rfl (?_ : RR _ _ _ _ 14 _ _ _ _)
    refine R_if_ge (t := 21) dX12_rowsBy_14 rfl (fun c14 => ?_) (fun c14 => ?_)
    · exfalso; omega
    refine R_iconst dX12_rowsBy_17 (?_ : RR _ _ _ _ 18 _ _ _ _)
    refine R_goto (t := 35) dX12_rowsBy_18 rfl (?_ : RR _ _ _ _ 35 _ _ _ _)
    exact R_ireturn dX12_rowsBy_35 trivial hQ
  · rw [if_neg q] at hQ
    refine R_aload_n dX12_rowsBy_0 rfl (?_ : RR _ _ _ _ 1 _ _ _ _)
    refine R_getr dX12_rowsBy_1 flX12_17 cok_12 rfl (by decide) (?_ : RR _ _ _ _ 4 _ _ _ _)
    refine R_iconst dX12_rowsBy_4 (?_ : RR _ _ _ _ 5 _ _ _ _)
    refine R_iload_n dX12_rowsBy_5 rfl (?_ : RR _ _ _ _ 6 _ _ _ _)
    refine R_imul dX12_rowsBy_6 (?_ : RR _ _ _ _ 7 _ _ _ _)
    refine R_iload_n dX12_rowsBy_7 rfl (?_ : RR _ _ _ _ 8 _ _ _ _)
    refine R_iadd dX12_rowsBy_8 (?_ : RR _ _ _ _ 9 _ _ _ _)
    refine R_iald dX12_rowsBy_9 (fun q9 => (?_ : RR _ _ _ _ 10 _ _ _ _))
    refine R_istore dX12_rowsBy_10 (Nat.le_of_ble_eq_true rfl) (?_ : RR _ _ _ _ 12 [_, _, _, _, _] _ _ _)
    refine R_iload dX12_rowsBy_12 rfl (?_ : RR _ _ _ _ 14 _ _ _ _)
    refine R_if_ge (t := 21) dX12_rowsBy_14 rfl (fun c14 => ?_) (fun c14 => ?_)
    rotate_left
    · exfalso; omega
    refine R_aload_n dX12_rowsBy_21 rfl (?_ : RR _ _ _ _ 22 _ _ _ _)
    refine R_getr dX12_rowsBy_22 flX12_90 cok_12 rfl (by decide) (?_ : RR _ _ _ _ 25 _ _ _ _)
    refine R_bipush dX12_rowsBy_25 rfl (?_ : RR _ _ _ _ 27 _ _ _ _)
    refine R_iload_n dX12_rowsBy_27 rfl (?_ : RR _ _ _ _ 28 _ _ _ _)
    refine R_iconst dX12_rowsBy_28 (?_ : RR _ _ _ _ 29 _ _ _ _)
    refine R_iadd dX12_rowsBy_29 (?_ : RR _ _ _ _ 30 _ _ _ _)
    refine R_imul dX12_rowsBy_30 (?_ : RR _ _ _ _ 31 _ _ _ _)
    refine R_iload dX12_rowsBy_31 rfl (?_ : RR _ _ _ _ 33 _ _ _ _)
    refine R_iadd dX12_rowsBy_33 (?_ : RR _ _ _ _ 34 _ _ _ _)
    refine R_iald dX12_rowsBy_34 (fun q34 => (?_ : RR _ _ _ _ 35 _ _ _ _))
    exact R_ireturn dX12_rowsBy_35 trivial hQ
theorem T_X12_beenBehind {s : Int} (hH : h 147 3 = H) (hH9 : H ≤ 9) (hk : 0 ≤ s ∧ s ≤ 12) : MT mX12_beenBehind 0 [pR 147, pI s] h (some (pI (bset (fun c => decide (h 174 (9 * s + c) ≠ 0)) H))) h := by
  refine MT.of (fun Q hQ => (?_ : RR mX12_beenBehind _ _ _ _ [pR 147, pI s, pU, pU] _ _ _))
  generalize hP : (fun c : Nat => decide (h 174 (9 * s + c) ≠ 0)) = P at hQ
  have L : ∀ k i : Nat, i + k = H → RR mX12_beenBehind 0 0 0 4 [pR 147, pI s, pI (bset P i), pI i] [] (shp0, rf0, h) Q := by
    intro k
    induction k with
    | zero =>
      intro i hi 
      obtain rfl : i = H := by omega
      refine R_iload_n dX12_beenBehind_4 rfl (?_ : RR _ _ _ _ 5 _ _ _ _)
      refine R_aload_n dX12_beenBehind_5 rfl (?_ : RR _ _ _ _ 6 _ _ _ _)
      refine R_geti (z := 3) dX12_beenBehind_6 flX12_13 cok_12 rfl (by decide) rfl (fun q6 => (?_ : RR _ _ _ _ 9 _ _ _ _))
      rw [hH] at q6 ⊢
      refine R_icmp_ge (t := 42) dX12_beenBehind_9 rfl (fun c9 => ?_) (fun c9 => ?_)
      rotate_left
      · exfalso; omega
      refine R_iload_n dX12_beenBehind_42 rfl (?_ : RR _ _ _ _ 43 _ _ _ _)
      exact R_ireturn dX12_beenBehind_43 trivial hQ
    | succ k ih =>
      intro i hi 
      refine R_iload_n dX12_beenBehind_4 rfl (?_ : RR _ _ _ _ 5 _ _ _ _)
      refine R_aload_n dX12_beenBehind_5 rfl (?_ : RR _ _ _ _ 6 _ _ _ _)
      refine R_geti (z := 3) dX12_beenBehind_6 flX12_13 cok_12 rfl (by decide) rfl (fun q6 => (?_ : RR _ _ _ _ 9 _ _ _ _))
      rw [hH] at q6 ⊢
      refine R_icmp_ge (t := 42) dX12_beenBehind_9 rfl (fun c9 => ?_) (fun c9 => ?_)
      · exfalso; omega
      refine R_iload_n dX12_beenBehind_12 rfl (?_ : RR _ _ _ _ 13 _ _ _ _)
      refine R_aload_n dX12_beenBehind_13 rfl (?_ : RR _ _ _ _ 14 _ _ _ _)
      refine R_getr dX12_beenBehind_14 flX12_93 cok_12 rfl (by decide) (?_ : RR _ _ _ _ 17 _ _ _ _)
      refine R_bipush dX12_beenBehind_17 rfl (?_ : RR _ _ _ _ 19 _ _ _ _)
      refine R_iload_n dX12_beenBehind_19 rfl (?_ : RR _ _ _ _ 20 _ _ _ _)
      refine R_imul dX12_beenBehind_20 (?_ : RR _ _ _ _ 21 _ _ _ _)
      refine R_iload_n dX12_beenBehind_21 rfl (?_ : RR _ _ _ _ 22 _ _ _ _)
      refine R_iadd dX12_beenBehind_22 (?_ : RR _ _ _ _ 23 _ _ _ _)
      refine R_zald dX12_beenBehind_23 (fun q23 => (?_ : RR _ _ _ _ 24 _ _ _ _))
      refine R_if_eq (t := 33) dX12_beenBehind_24 rfl (fun c24 => ?_) (fun c24 => ?_)
      · have e := bset_no (P := P) (n := i) (by rw [← hP]; exact decide_eq_false (by omega))
        refine R_iconst dX12_beenBehind_33 (?_ : RR _ _ _ _ 34 _ _ _ _)
        refine R_ior dX12_beenBehind_34 (?_ : RR _ _ _ _ 35 _ _ _ _)
        first | rw [e] | rw [iOr_0 (bset_31 (by omega)), ← e]
        refine R_istore_n dX12_beenBehind_35 (Nat.le_of_ble_eq_true rfl) (?_ : RR _ _ _ _ 36 [_, _, _, _] _ _ _)
        refine R_iinc dX12_beenBehind_36 rfl (Nat.le_of_ble_eq_true rfl) (?_ : RR _ _ _ _ 39 [_, _, _, _] _ _ _)
        refine R_goto (t := 4) dX12_beenBehind_39 rfl (?_ : RR _ _ _ _ 4 _ _ _ _)
        exact ih (i + 1) (by omega)
      · have e := bset_or (P := P) (n := i) (by omega) (by rw [← hP]; exact decide_eq_true (by omega))
        refine R_iconst dX12_beenBehind_27 (?_ : RR _ _ _ _ 28 _ _ _ _)
        refine R_iload_n dX12_beenBehind_28 rfl (?_ : RR _ _ _ _ 29 _ _ _ _)
        refine R_ishl dX12_beenBehind_29 (?_ : RR _ _ _ _ 30 _ _ _ _)
        refine R_goto (t := 34) dX12_beenBehind_30 rfl (?_ : RR _ _ _ _ 34 _ _ _ _)
        refine R_ior dX12_beenBehind_34 (?_ : RR _ _ _ _ 35 _ _ _ _)
        first | rw [e] | rw [iOr_0 (bset_31 (by omega)), ← e]
        refine R_istore_n dX12_beenBehind_35 (Nat.le_of_ble_eq_true rfl) (?_ : RR _ _ _ _ 36 [_, _, _, _] _ _ _)
        refine R_iinc dX12_beenBehind_36 rfl (Nat.le_of_ble_eq_true rfl) (?_ : RR _ _ _ _ 39 [_, _, _, _] _ _ _)
        refine R_goto (t := 4) dX12_beenBehind_39 rfl (?_ : RR _ _ _ _ 4 _ _ _ _)
        exact ih (i + 1) (by omega)
  refine R_iconst dX12_beenBehind_0 (?_ : RR _ _ _ _ 1 _ _ _ _)
  refine R_istore_n dX12_beenBehind_1 (Nat.le_of_ble_eq_true rfl) (?_ : RR _ _ _ _ 2 [_, _, _, _] _ _ _)
  refine R_iconst dX12_beenBehind_2 (?_ : RR _ _ _ _ 3 _ _ _ _)
  refine R_istore_n dX12_beenBehind_3 (Nat.le_of_ble_eq_true rfl) (?_ : RR _ _ _ _ 4 [_, _, _, _] _ _ _)
  exact L H 0 (by omega)
/-- what the other's traces rest on -/
def mtK (h : Nat → Int → Int) (H l N : Nat) (mi : Int → Int) (fit : Int → Int → Bool) (st : Int) : Prop :=
  h 147 3 = H ∧ H ≤ 9 ∧ exB (h 149) ∧ exK H (h 149) mi ∧ l ≤ 12 ∧ h 147 40 = N ∧ N ≤ 12 ∧ (∀ k c : Int, fiS (h 170) (h 171) (h 172) k c N = fit k c) ∧ h 154 0 = st ∧ 0 ≤ st ∧ st < H
def mtW (H l : Nat) (ex : Int → Int) (fit : Int → Int → Bool) (m : Nat) (w : Int → Int) : Prop := ∀ m' c : Nat, m' < m → c < H → w (9 * ((l : Int) - m') + c) = wyS ex fit l m' c
theorem mtW_i {m : Nat} {w : Int → Int} (hw : mtW H l ex fit m w) {m' : Nat} {c : Int} (h1 : m' < m) (h2 : 0 ≤ c) (h3 : c < H) : w (9 * ((l : Int) - m') + c) = wyS ex fit l m' c := by
  obtain ⟨n, rfl⟩ := Int.eq_ofNat_of_zero_le h2
  exact hw m' n h1 (by omega)
/-- the halts behind the first steps, and some of the next ones -/
def mtF (rc : Nat → Nat) (k R : Nat) (f : Int → Int) : Prop := ∀ k' c : Nat, k' ≤ 12 → c < 9 → f (9 * k' + c) = if k' ≤ k then (if (rc k').testBit c then 1 else 0) else if k' = k + 1 then (if R.testBit c then 1 else 0) else 0
theorem mtF_s {rc : Nat → Nat} {k R : Nat} {f : Int → Int} (hf : mtF rc k R f) (hR : rc (k + 1) = R) : mtF rc (k + 1) 0 f := fun k' c hk' hc => by
  rw [hf k' c hk' hc]
  by_cases y : k' ≤ k
  · rw [if_pos y, if_pos (show k' ≤ k + 1 by omega)]
  · rw [if_neg y]
    by_cases z : k' = k + 1
    · rw [if_pos z, if_pos (show k' ≤ k + 1 by omega), z, hR]
    · rw [if_neg z, if_neg (show ¬ k' ≤ k + 1 by omega)]
      split
      · rw [Nat.zero_testBit]; rfl
      · rfl
theorem mtF_put {rc : Nat → Nat} {k R : Nat} {a : Int} {f : Int → Int} (hf : mtF rc k R f) (ha : 0 ≤ a ∧ a < 9) : mtF rc k (R ||| 2 ^ a.toNat) (fup f (9 * ((k : Int) + 1) + a) 1) := fun k' c hk' hc => by
  have h0 := hf k' c hk' hc
  by_cases y : k' = k + 1
  · subst y
    rw [if_neg (by omega), if_pos rfl] at h0 ⊢
    rw [Nat.testBit_or, Nat.testBit_two_pow]
    by_cases z : (c : Int) = a
    · rw [show 9 * (((k + 1 : Nat)) : Int) + (c : Int) = 9 * ((k : Int) + 1) + a by omega, fup_s, decide_eq_true (show a.toNat = c by omega), Bool.or_true]
      rfl
    · rw [fup_n (by omega), h0, decide_eq_false (show ¬ a.toNat = c by omega), Bool.or_false]
  · rw [fup_n (by omega), h0, if_neg y]
    by_cases z : k' ≤ k
    · rw [if_pos z, if_pos z]
    · rw [if_neg z, if_neg z, if_neg y]
theorem M_laysRows (hT : mtK h H l N mi fit st) : RR mX12_laysRows 2 0 0 0 (pm_ent [pR 147, pI l] mX12_laysRows.2.2.1) [] (shp0, rf0, h) (fun r' g' => r' = none ∧ ∃ f w : Int → Int, g' = (shp0, rf0, rup (rup h 173 w) 174 f) ∧ mtW H l (h 149) fit (l + 1) w ∧ mtF (rcK (h 149) fit l H st) l 0 f) := by
  obtain ⟨hH, hH9, hE, hK, hl12, hN, hN12, hfi, hnw, hst⟩ := hT
  obtain ⟨ex, hex⟩ : ∃ ex, ex = h 149 := ⟨_, rfl⟩
  rw [← hex] at hE hK ⊢
  suffices hS : ∀ Q : Option PV → PH → Prop, (∀ f w : Int → Int, mtW H l ex fit (l + 1) w → mtF (rcK ex fit l H st) l 0 f → Q none (shp0, rf0, rup (rup h 173 w) 174 f)) → RR mX12_laysRows 2 0 0 0 [pR 147, pI l, pU, pU, pU] [] (shp0, rf0, h) Q from hS _ (fun f w a b => ⟨rfl, f, w, rfl, a, b⟩)
  intro Q hQ
  have hrl := rcK_lt (fit := fit) (l := l) hK hst
  have h29 : 2 ^ H ≤ 2 ^ 9 := Nat.pow_le_pow_right (by omega) hH9
  -- the halts, step by step
  have KD : ∀ (j k : Nat) (f w : Int → Int) (w3 w4 : PV), k + j = l → mtW H l ex fit (l + 1) w → mtF (rcK ex fit l H st) k 0 f → RR mX12_laysRows 2 0 0 133 [pR 147, pI l, pI k, w3, w4] [] (shp0, rf0, rup (rup h 173 w) 174 f) Q := by
    intro j
    induction j with
    | zero =>
      intro k f w w3 w4 hk hw hf
      obtain rfl : k = l := by omega
      refine R_iload_n dX12_laysRows_133 rfl (?_ : RR _ _ _ _ 134 _ _ _ _)
      refine R_iload_n dX12_laysRows_134 rfl (?_ : RR _ _ _ _ 135 _ _ _ _)
      refine R_icmp_ge (t := 211) dX12_laysRows_135 rfl (fun c135 => ?_) (fun c135 => ?_)
      rotate_left
      · exfalso; omega
      exact R_return dX12_laysRows_211 trivial (hQ f w hw hf)
    | succ j ih =>
      intro k f w w3 w4 hk hw hf
      have LE : ∀ (j2 e : Nat) (f : Int → Int), e + j2 = 2 * H → mtF (rcK ex fit l H st) k (rcS ex (wyS ex fit l (l - (k + 1))) (rcK ex fit l H st k) e) f → RR mX12_laysRows 2 0 0 140 [pR 147, pI l, pI k, pI e, w4] [] (shp0, rf0, rup (rup h 173 w) 174 f) Q := by
        intro j2
        induction j2 with
        | zero =>
          intro e f he hf
          obtain rfl : e = 2 * H := by omega
          have g3 : rup (rup h 173 w) 174 f 147 3 = H := by rw [rup_n (by omega), rup_n (by omega)]; exact hH
          have IH := fun w3 w4 => ih (k + 1) f w w3 w4 (by omega) hw (mtF_s hf rfl)
          refine R_iload_n dX12_laysRows_140 rfl (?_ : RR _ _ _ _ 141 _ _ _ _)
          refine R_iconst dX12_laysRows_141 (?_ : RR _ _ _ _ 142 _ _ _ _)
          refine R_aload_n dX12_laysRows_142 rfl (?_ : RR _ _ _ _ 143 _ _ _ _)
          refine R_geti (z := 3) dX12_laysRows_143 flX12_13 cok_12 rfl (by decide) rfl (fun q143 => (?_ : RR _ _ _ _ 146 _ _ _ _))
          rw [g3] at q143 ⊢
          refine R_imul dX12_laysRows_146 (?_ : RR _ _ _ _ 147 _ _ _ _)
          refine R_icmp_ge (t := 205) dX12_laysRows_147 rfl (fun c147 => ?_) (fun c147 => ?_)
          rotate_left
          · exfalso; omega
          refine R_iinc dX12_laysRows_205 rfl (Nat.le_of_ble_eq_true rfl) (?_ : RR _ _ _ _ 208 [_, _, _, _, _] _ _ _)
          refine R_goto (t := 133) dX12_laysRows_208 rfl (?_ : RR _ _ _ _ 133 _ _ _ _)
          exact IH _ _
        | succ j2 ih2 =>
          intro e f he hf
          have g3 : rup (rup h 173 w) 174 f 147 3 = H := by rw [rup_n (by omega), rup_n (by omega)]; exact hH
          have hxe := hK e (by omega) (by omega)
          have ed : (e : Int) / 2 = ((e / 2 : Nat) : Int) := by omega
          have er : (e : Int) % 2 = ((e % 2 : Nat) : Int) := by omega
          have gc : rup (rup h 173 w) 174 f 174 (9 * (k : Int) + ((e / 2 : Nat) : Int)) = if (rcK ex fit l H st k).testBit (e / 2) then 1 else 0 := by
            rw [rup_s, hf k (e / 2) (by omega) (by omega), if_pos (Nat.le_refl _)]
          have gx : rup (rup h 173 w) 174 f 149 (e : Int) = ex e := by rw [rup_n (by omega), rup_n (by omega), hex]
          have hrb := T_X12_rowsBy (h := rup (rup h 173 w) 174 f) (k := k) (c := ((e / 2 : Nat) : Int)) (x := ((e % 2 : Nat) : Int)) (by rw [rup_n (by omega), rup_n (by omega), ← hex]; exact hE) (by omega) (by omega) (by omega)
          have erb : rbS (rup (rup h 173 w) 174 f 149) (fun d => rup (rup h 173 w) 174 f 173 (9 * ((k : Int) + 1) + d)) (2 * ((e / 2 : Nat) : Int) + ((e % 2 : Nat) : Int)) = rbS ex (wyS ex fit l (l - (k + 1))) e := by
            rw [show 2 * ((e / 2 : Nat) : Int) + ((e % 2 : Nat) : Int) = (e : Int) by omega]
            refine rbS_congr gx (fun hp => ?_)
            show rup (rup h 173 w) 174 f 173 (9 * ((k : Int) + 1) + ex e) = _
            rw [rup_n (by omega), rup_s, ← mtW_i hw (m' := l - (k + 1)) (by omega) hp (by omega)]
            congr 2
            omega
          rw [erb] at hrb
          have hwb := wyS_4096 (ex := ex) (fit := fit) (l := l) (m := l - (k + 1)) (c := ex e) (by omega)
          have e9 : rcS ex (wyS ex fit l (l - (k + 1))) (rcK ex fit l H st k) (e + 1) = if (rcK ex fit l H st k).testBit (e / 2) = true ∧ ex e ≠ -1 ∧ 0 < wyS ex fit l (l - (k + 1)) (ex e) then rcS ex (wyS ex fit l (l - (k + 1))) (rcK ex fit l H st k) e ||| 2 ^ (ex e).toNat else rcS ex (wyS ex fit l (l - (k + 1))) (rcK ex fit l H st k) e := rfl
          have IH := fun f => ih2 (e + 1) f (by omega)
          rw [e9] at IH
          by_cases q1 : (rcK ex fit l H st k).testBit (e / 2) = true
          · rw [if_pos q1] at gc
            by_cases q2 : ex e = -1
            · rw [if_neg (fun z => z.2.1 q2)] at IH
              rw [show rbS ex (wyS ex fit l (l - (k + 1))) e = 0 by unfold rbS; rw [if_pos (by omega)]] at hrb
              refine R_iload_n dX12_laysRows_140 rfl (?_ : RR _ _ _ _ 141 _ _ _ _)
              refine R_iconst dX12_laysRows_141 (?_ : RR _ _ _ _ 142 _ _ _ _)
              refine R_aload_n dX12_laysRows_142 rfl (?_ : RR _ _ _ _ 143 _ _ _ _)
              refine R_geti (z := 3) dX12_laysRows_143 flX12_13 cok_12 rfl (by decide) rfl (fun q143 => (?_ : RR _ _ _ _ 146 _ _ _ _))
              rw [g3] at q143 ⊢
              refine R_imul dX12_laysRows_146 (?_ : RR _ _ _ _ 147 _ _ _ _)
              refine R_icmp_ge (t := 205) dX12_laysRows_147 rfl (fun c147 => ?_) (fun c147 => ?_)
              · exfalso; omega
              refine R_aload_n dX12_laysRows_150 rfl (?_ : RR _ _ _ _ 151 _ _ _ _)
              refine R_getr dX12_laysRows_151 flX12_93 cok_12 rfl (by decide) (?_ : RR _ _ _ _ 154 _ _ _ _)
              refine R_bipush dX12_laysRows_154 rfl (?_ : RR _ _ _ _ 156 _ _ _ _)
              refine R_iload_n dX12_laysRows_156 rfl (?_ : RR _ _ _ _ 157 _ _ _ _)
              refine R_imul dX12_laysRows_157 (?_ : RR _ _ _ _ 158 _ _ _ _)
              refine R_iload_n dX12_laysRows_158 rfl (?_ : RR _ _ _ _ 159 _ _ _ _)
              refine R_iconst dX12_laysRows_159 (?_ : RR _ _ _ _ 160 _ _ _ _)
              refine R_idiv dX12_laysRows_160 (by omega) (by omega) (?_ : RR _ _ _ _ 161 _ _ _ _)
              rw [iDiv_pos (by omega) (by omega) (by omega) (by omega), ed]
              refine R_iadd dX12_laysRows_161 (?_ : RR _ _ _ _ 162 _ _ _ _)
              refine R_zald dX12_laysRows_162 (fun q162 => (?_ : RR _ _ _ _ 163 _ _ _ _))
              rw [gc] at q162 ⊢
              refine R_if_eq (t := 199) dX12_laysRows_163 rfl (fun c163 => ?_) (fun c163 => ?_)
              · exfalso; omega
              refine R_aload_n dX12_laysRows_166 rfl (?_ : RR _ _ _ _ 167 _ _ _ _)
              refine R_iload_n dX12_laysRows_167 rfl (?_ : RR _ _ _ _ 168 _ _ _ _)
              refine R_iload_n dX12_laysRows_168 rfl (?_ : RR _ _ _ _ 169 _ _ _ _)
              refine R_iconst dX12_laysRows_169 (?_ : RR _ _ _ _ 170 _ _ _ _)
              refine R_idiv dX12_laysRows_170 (by omega) (by omega) (?_ : RR _ _ _ _ 171 _ _ _ _)
              rw [iDiv_pos (by omega) (by omega) (by omega) (by omega), ed]
              refine R_iload_n dX12_laysRows_171 rfl (?_ : RR _ _ _ _ 172 _ _ _ _)
              refine R_iconst dX12_laysRows_172 (?_ : RR _ _ _ _ 173 _ _ _ _)
              refine R_irem dX12_laysRows_173 (by omega) (by omega) (?_ : RR _ _ _ _ 174 _ _ _ _)
              rw [iRem_pos (by omega) (by omega) (by omega) (by omega), er]
              refine R_cVi3 dX12_laysRows_174 mvX12_rowsBy mlX12_445 (by decide) (by decide) (Nat.le_of_ble_eq_true rfl) (Nat.le_of_ble_eq_true rfl) (hrb) (?_ : RR _ _ _ _ 177 _ _ _ _)
              refine R_if_le (t := 199) dX12_laysRows_177 rfl (fun c177 => ?_) (fun c177 => ?_)
              rotate_left
              · exfalso; omega
              refine R_iinc dX12_laysRows_199 rfl (Nat.le_of_ble_eq_true rfl) (?_ : RR _ _ _ _ 202 [_, _, _, _, _] _ _ _)
              refine R_goto (t := 140) dX12_laysRows_202 rfl (?_ : RR _ _ _ _ 140 _ _ _ _)
              exact IH f hf
            · rw [show rbS ex (wyS ex fit l (l - (k + 1))) e = wyS ex fit l (l - (k + 1)) (ex e) by unfold rbS; rw [if_neg (by omega)]] at hrb
              by_cases q3 : 0 < wyS ex fit l (l - (k + 1)) (ex e)
              · rw [if_pos ⟨q1, q2, q3⟩] at IH
                refine R_iload_n dX12_laysRows_140 rfl (?_ : RR _ _ _ _ 141 _ _ _ _)
                refine R_iconst dX12_laysRows_141 (?_ : RR _ _ _ _ 142 _ _ _ _)
                refine R_aload_n dX12_laysRows_142 rfl (?_ : RR _ _ _ _ 143 _ _ _ _)
                refine R_geti (z := 3) dX12_laysRows_143 flX12_13 cok_12 rfl (by decide) rfl (fun q143 => (?_ : RR _ _ _ _ 146 _ _ _ _))
                rw [g3] at q143 ⊢
                refine R_imul dX12_laysRows_146 (?_ : RR _ _ _ _ 147 _ _ _ _)
                refine R_icmp_ge (t := 205) dX12_laysRows_147 rfl (fun c147 => ?_) (fun c147 => ?_)
                · exfalso; omega
                refine R_aload_n dX12_laysRows_150 rfl (?_ : RR _ _ _ _ 151 _ _ _ _)
                refine R_getr dX12_laysRows_151 flX12_93 cok_12 rfl (by decide) (?_ : RR _ _ _ _ 154 _ _ _ _)
                refine R_bipush dX12_laysRows_154 rfl (?_ : RR _ _ _ _ 156 _ _ _ _)
                refine R_iload_n dX12_laysRows_156 rfl (?_ : RR _ _ _ _ 157 _ _ _ _)
                refine R_imul dX12_laysRows_157 (?_ : RR _ _ _ _ 158 _ _ _ _)
                refine R_iload_n dX12_laysRows_158 rfl (?_ : RR _ _ _ _ 159 _ _ _ _)
                refine R_iconst dX12_laysRows_159 (?_ : RR _ _ _ _ 160 _ _ _ _)
                refine R_idiv dX12_laysRows_160 (by omega) (by omega) (?_ : RR _ _ _ _ 161 _ _ _ _)
                rw [iDiv_pos (by omega) (by omega) (by omega) (by omega), ed]
                refine R_iadd dX12_laysRows_161 (?_ : RR _ _ _ _ 162 _ _ _ _)
                refine R_zald dX12_laysRows_162 (fun q162 => (?_ : RR _ _ _ _ 163 _ _ _ _))
                rw [gc] at q162 ⊢
                refine R_if_eq (t := 199) dX12_laysRows_163 rfl (fun c163 => ?_) (fun c163 => ?_)
                · exfalso; omega
                refine R_aload_n dX12_laysRows_166 rfl (?_ : RR _ _ _ _ 167 _ _ _ _)
                refine R_iload_n dX12_laysRows_167 rfl (?_ : RR _ _ _ _ 168 _ _ _ _)
                refine R_iload_n dX12_laysRows_168 rfl (?_ : RR _ _ _ _ 169 _ _ _ _)
                refine R_iconst dX12_laysRows_169 (?_ : RR _ _ _ _ 170 _ _ _ _)
                refine R_idiv dX12_laysRows_170 (by omega) (by omega) (?_ : RR _ _ _ _ 171 _ _ _ _)
                rw [iDiv_pos (by omega) (by omega) (by omega) (by omega), ed]
                refine R_iload_n dX12_laysRows_171 rfl (?_ : RR _ _ _ _ 172 _ _ _ _)
                refine R_iconst dX12_laysRows_172 (?_ : RR _ _ _ _ 173 _ _ _ _)
                refine R_irem dX12_laysRows_173 (by omega) (by omega) (?_ : RR _ _ _ _ 174 _ _ _ _)
                rw [iRem_pos (by omega) (by omega) (by omega) (by omega), er]
                refine R_cVi3 dX12_laysRows_174 mvX12_rowsBy mlX12_445 (by decide) (by decide) (Nat.le_of_ble_eq_true rfl) (Nat.le_of_ble_eq_true rfl) (hrb) (?_ : RR _ _ _ _ 177 _ _ _ _)
                refine R_if_le (t := 199) dX12_laysRows_177 rfl (fun c177 => ?_) (fun c177 => ?_)
                · exfalso; omega
                refine R_aload_n dX12_laysRows_180 rfl (?_ : RR _ _ _ _ 181 _ _ _ _)
                refine R_getr dX12_laysRows_181 flX12_93 cok_12 rfl (by decide) (?_ : RR _ _ _ _ 184 _ _ _ _)
                refine R_bipush dX12_laysRows_184 rfl (?_ : RR _ _ _ _ 186 _ _ _ _)
                refine R_iload_n dX12_laysRows_186 rfl (?_ : RR _ _ _ _ 187 _ _ _ _)
                refine R_iconst dX12_laysRows_187 (?_ : RR _ _ _ _ 188 _ _ _ _)
                refine R_iadd dX12_laysRows_188 (?_ : RR _ _ _ _ 189 _ _ _ _)
                refine R_imul dX12_laysRows_189 (?_ : RR _ _ _ _ 190 _ _ _ _)
                refine R_aload_n dX12_laysRows_190 rfl (?_ : RR _ _ _ _ 191 _ _ _ _)
                refine R_getr dX12_laysRows_191 flX12_17 cok_12 rfl (by decide) (?_ : RR _ _ _ _ 194 _ _ _ _)
                refine R_iload_n dX12_laysRows_194 rfl (?_ : RR _ _ _ _ 195 _ _ _ _)
                refine R_iald dX12_laysRows_195 (fun q195 => (?_ : RR _ _ _ _ 196 _ _ _ _))
                rw [gx] at q195 ⊢
                refine R_iadd dX12_laysRows_196 (?_ : RR _ _ _ _ 197 _ _ _ _)
                refine R_iconst dX12_laysRows_197 (?_ : RR _ _ _ _ 198 _ _ _ _)
                refine R_zast dX12_laysRows_198 (?_ : RR _ _ _ _ 199 _ _ _ _)
                rw [rup_s, rup_rup]
                refine R_iinc dX12_laysRows_199 rfl (Nat.le_of_ble_eq_true rfl) (?_ : RR _ _ _ _ 202 [_, _, _, _, _] _ _ _)
                refine R_goto (t := 140) dX12_laysRows_202 rfl (?_ : RR _ _ _ _ 140 _ _ _ _)
                exact IH _ (mtF_put hf (by omega))
              · rw [if_neg (fun z => q3 z.2.2)] at IH
                refine R_iload_n dX12_laysRows_140 rfl (?_ : RR _ _ _ _ 141 _ _ _ _)
                refine R_iconst dX12_laysRows_141 (?_ : RR _ _ _ _ 142 _ _ _ _)
                refine R_aload_n dX12_laysRows_142 rfl (?_ : RR _ _ _ _ 143 _ _ _ _)
                refine R_geti (z := 3) dX12_laysRows_143 flX12_13 cok_12 rfl (by decide) rfl (fun q143 => (?_ : RR _ _ _ _ 146 _ _ _ _))
                rw [g3] at q143 ⊢
                refine R_imul dX12_laysRows_146 (?_ : RR _ _ _ _ 147 _ _ _ _)
                refine R_icmp_ge (t := 205) dX12_laysRows_147 rfl (fun c147 => ?_) (fun c147 => ?_)
                · exfalso; omega
                refine R_aload_n dX12_laysRows_150 rfl (?_ : RR _ _ _ _ 151 _ _ _ _)
                refine R_getr dX12_laysRows_151 flX12_93 cok_12 rfl (by decide) (?_ : RR _ _ _ _ 154 _ _ _ _)
                refine R_bipush dX12_laysRows_154 rfl (?_ : RR _ _ _ _ 156 _ _ _ _)
                refine R_iload_n dX12_laysRows_156 rfl (?_ : RR _ _ _ _ 157 _ _ _ _)
                refine R_imul dX12_laysRows_157 (?_ : RR _ _ _ _ 158 _ _ _ _)
                refine R_iload_n dX12_laysRows_158 rfl (?_ : RR _ _ _ _ 159 _ _ _ _)
                refine R_iconst dX12_laysRows_159 (?_ : RR _ _ _ _ 160 _ _ _ _)
                refine R_idiv dX12_laysRows_160 (by omega) (by omega) (?_ : RR _ _ _ _ 161 _ _ _ _)
                rw [iDiv_pos (by omega) (by omega) (by omega) (by omega), ed]
                refine R_iadd dX12_laysRows_161 (?_ : RR _ _ _ _ 162 _ _ _ _)
                refine R_zald dX12_laysRows_162 (fun q162 => (?_ : RR _ _ _ _ 163 _ _ _ _))
                rw [gc] at q162 ⊢
                refine R_if_eq (t := 199) dX12_laysRows_163 rfl (fun c163 => ?_) (fun c163 => ?_)
                · exfalso; omega
                refine R_aload_n dX12_laysRows_166 rfl (?_ : RR _ _ _ _ 167 _ _ _ _)
                refine R_iload_n dX12_laysRows_167 rfl (?_ : RR _ _ _ _ 168 _ _ _ _)
                refine R_iload_n dX12_laysRows_168 rfl (?_ : RR _ _ _ _ 169 _ _ _ _)
                refine R_iconst dX12_laysRows_169 (?_ : RR _ _ _ _ 170 _ _ _ _)
                refine R_idiv dX12_laysRows_170 (by omega) (by omega) (?_ : RR _ _ _ _ 171 _ _ _ _)
                rw [iDiv_pos (by omega) (by omega) (by omega) (by omega), ed]
                refine R_iload_n dX12_laysRows_171 rfl (?_ : RR _ _ _ _ 172 _ _ _ _)
                refine R_iconst dX12_laysRows_172 (?_ : RR _ _ _ _ 173 _ _ _ _)
                refine R_irem dX12_laysRows_173 (by omega) (by omega) (?_ : RR _ _ _ _ 174 _ _ _ _)
                rw [iRem_pos (by omega) (by omega) (by omega) (by omega), er]
                refine R_cVi3 dX12_laysRows_174 mvX12_rowsBy mlX12_445 (by decide) (by decide) (Nat.le_of_ble_eq_true rfl) (Nat.le_of_ble_eq_true rfl) (hrb) (?_ : RR _ _ _ _ 177 _ _ _ _)
                refine R_if_le (t := 199) dX12_laysRows_177 rfl (fun c177 => ?_) (fun c177 => ?_)
                rotate_left
                · exfalso; omega
                refine R_iinc dX12_laysRows_199 rfl (Nat.le_of_ble_eq_true rfl) (?_ : RR _ _ _ _ 202 [_, _, _, _, _] _ _ _)
                refine R_goto (t := 140) dX12_laysRows_202 rfl (?_ : RR _ _ _ _ 140 _ _ _ _)
                exact IH f hf
          · rw [if_neg q1] at gc
            rw [if_neg (fun z => q1 z.1)] at IH
            refine R_iload_n dX12_laysRows_140 rfl (?_ : RR _ _ _ _ 141 _ _ _ _)
            refine R_iconst dX12_laysRows_141 (?_ : RR _ _ _ _ 142 _ _ _ _)
            refine R_aload_n dX12_laysRows_142 rfl (?_ : RR _ _ _ _ 143 _ _ _ _)
            refine R_geti (z := 3) dX12_laysRows_143 flX12_13 cok_12 rfl (by decide) rfl (fun q143 => (?_ : RR _ _ _ _ 146 _ _ _ _))
            rw [g3] at q143 ⊢
            refine R_imul dX12_laysRows_146 (?_ : RR _ _ _ _ 147 _ _ _ _)
            refine R_icmp_ge (t := 205) dX12_laysRows_147 rfl (fun c147 => ?_) (fun c147 => ?_)
            · exfalso; omega
            refine R_aload_n dX12_laysRows_150 rfl (?_ : RR _ _ _ _ 151 _ _ _ _)
            refine R_getr dX12_laysRows_151 flX12_93 cok_12 rfl (by decide) (?_ : RR _ _ _ _ 154 _ _ _ _)
            refine R_bipush dX12_laysRows_154 rfl (?_ : RR _ _ _ _ 156 _ _ _ _)
            refine R_iload_n dX12_laysRows_156 rfl (?_ : RR _ _ _ _ 157 _ _ _ _)
            refine R_imul dX12_laysRows_157 (?_ : RR _ _ _ _ 158 _ _ _ _)
            refine R_iload_n dX12_laysRows_158 rfl (?_ : RR _ _ _ _ 159 _ _ _ _)
            refine R_iconst dX12_laysRows_159 (?_ : RR _ _ _ _ 160 _ _ _ _)
            refine R_idiv dX12_laysRows_160 (by omega) (by omega) (?_ : RR _ _ _ _ 161 _ _ _ _)
            rw [iDiv_pos (by omega) (by omega) (by omega) (by omega), ed]
            refine R_iadd dX12_laysRows_161 (?_ : RR _ _ _ _ 162 _ _ _ _)
            refine R_zald dX12_laysRows_162 (fun q162 => (?_ : RR _ _ _ _ 163 _ _ _ _))
            rw [gc] at q162 ⊢
            refine R_if_eq (t := 199) dX12_laysRows_163 rfl (fun c163 => ?_) (fun c163 => ?_)
            rotate_left
            · exfalso; omega
            refine R_iinc dX12_laysRows_199 rfl (Nat.le_of_ble_eq_true rfl) (?_ : RR _ _ _ _ 202 [_, _, _, _, _] _ _ _)
            refine R_goto (t := 140) dX12_laysRows_202 rfl (?_ : RR _ _ _ _ 140 _ _ _ _)
            exact IH f hf
      have hf0 : mtF (rcK ex fit l H st) k (rcS ex (wyS ex fit l (l - (k + 1))) (rcK ex fit l H st k) 0) f := hf
      refine R_iload_n dX12_laysRows_133 rfl (?_ : RR _ _ _ _ 134 _ _ _ _)
      refine R_iload_n dX12_laysRows_134 rfl (?_ : RR _ _ _ _ 135 _ _ _ _)
      refine R_icmp_ge (t := 211) dX12_laysRows_135 rfl (fun c135 => ?_) (fun c135 => ?_)
      · exfalso; omega
      refine R_iconst dX12_laysRows_138 (?_ : RR _ _ _ _ 139 _ _ _ _)
      refine R_istore_n dX12_laysRows_139 (Nat.le_of_ble_eq_true rfl) (?_ : RR _ _ _ _ 140 [_, _, _, _, _] _ _ _)
      exact LE (2 * H) 0 f (by omega) hf0
  have KC : ∀ (w : Int → Int) (w2 w3 w4 : PV), mtW H l ex fit (l + 1) w → RR mX12_laysRows 2 0 0 101 [pR 147, pI l, w2, w3, w4] [] (shp0, rf0, rup (rup h 173 w) 174 (fil 0 (h 174) 117)) Q := by
    intro w w2 w3 w4 hw
    have e0 : w st = wyS ex fit l l st := by
      rw [← mtW_i hw (m' := l) (by omega) hst.1 hst.2]
      congr 1
      omega
    have gn : rup (rup h 173 w) 174 (fil 0 (h 174) 117) 154 0 = st := by rw [rup_n (by omega), rup_n (by omega)]; exact hnw
    have gw : rup (rup h 173 w) 174 (fil 0 (h 174) 117) 173 st = wyS ex fit l l st := by rw [rup_n (by omega), rup_s]; exact e0
    have hb := wyS_4096 (ex := ex) (fit := fit) (l := l) (c := st) hl12
    have er : rcK ex fit l H st 0 = if 0 < wyS ex fit l l st then 2 ^ st.toNat else 0 := rfl
    have hz : ∀ z : Int, z = (if 0 < wyS ex fit l l st then 1 else 0) → mtF (rcK ex fit l H st) 0 0 (fup (fil 0 (h 174) 117) st z) := fun z hz k' c hk' hc => by
      by_cases y : k' = 0
      · subst y
        rw [if_pos (Nat.le_refl _), er]
        by_cases u : (c : Int) = st
        · rw [show 9 * ((0 : Nat) : Int) + (c : Int) = st by omega, fup_s, hz]
          by_cases q : 0 < wyS ex fit l l st
          · rw [if_pos q, if_pos q, Nat.testBit_two_pow, decide_eq_true (show st.toNat = c by omega)]
            rfl
          · rw [if_neg q, if_neg q, Nat.zero_testBit]
            rfl
        · rw [fup_n (by omega)]
          unfold fil
          rw [if_pos (by omega)]
          by_cases q : 0 < wyS ex fit l l st
          · rw [if_pos q, Nat.testBit_two_pow, decide_eq_false (show ¬ st.toNat = c by omega)]
            rfl
          · rw [if_neg q, Nat.zero_testBit]
            rfl
      · rw [fup_n (by omega), if_neg (by omega)]
        unfold fil
        rw [if_pos (by omega)]
        split
        · rw [Nat.zero_testBit]; rfl
        · rfl
    by_cases y : 0 < wyS ex fit l l st
    · rw [if_pos y] at hz
      refine R_aload_n dX12_laysRows_101 rfl (?_ : RR _ _ _ _ 102 _ _ _ _)
      refine R_getr dX12_laysRows_102 flX12_93 cok_12 rfl (by decide) (?_ : RR _ _ _ _ 105 _ _ _ _)
      refine R_aload_n dX12_laysRows_105 rfl (?_ : RR _ _ _ _ 106 _ _ _ _)
      refine R_getr dX12_laysRows_106 flX12_33 cok_12 rfl (by decide) (?_ : RR _ _ _ _ 109 _ _ _ _)
      refine R_iconst dX12_laysRows_109 (?_ : RR _ _ _ _ 110 _ _ _ _)
      refine R_iald dX12_laysRows_110 (fun q110 => (?_ : RR _ _ _ _ 111 _ _ _ _))
      rw [gn] at q110 ⊢
      refine R_aload_n dX12_laysRows_111 rfl (?_ : RR _ _ _ _ 112 _ _ _ _)
      refine R_getr dX12_laysRows_112 flX12_90 cok_12 rfl (by decide) (?_ : RR _ _ _ _ 115 _ _ _ _)
      refine R_aload_n dX12_laysRows_115 rfl (?_ : RR _ _ _ _ 116 _ _ _ _)
      refine R_getr dX12_laysRows_116 flX12_33 cok_12 rfl (by decide) (?_ : RR _ _ _ _ 119 _ _ _ _)
      refine R_iconst dX12_laysRows_119 (?_ : RR _ _ _ _ 120 _ _ _ _)
      refine R_iald dX12_laysRows_120 (fun q120 => (?_ : RR _ _ _ _ 121 _ _ _ _))
      rw [gn] at q120 ⊢
      refine R_iald dX12_laysRows_121 (fun q121 => (?_ : RR _ _ _ _ 122 _ _ _ _))
      rw [gw] at q121 ⊢
      refine R_if_le (t := 129) dX12_laysRows_122 rfl (fun c122 => ?_) (fun c122 => ?_)
      · exfalso; omega
      refine R_iconst dX12_laysRows_125 (?_ : RR _ _ _ _ 126 _ _ _ _)
      refine R_goto (t := 130) dX12_laysRows_126 rfl (?_ : RR _ _ _ _ 130 _ _ _ _)
      refine R_zast dX12_laysRows_130 (?_ : RR _ _ _ _ 131 _ _ _ _)
      rw [rup_s, rup_rup]
      refine R_iconst dX12_laysRows_131 (?_ : RR _ _ _ _ 132 _ _ _ _)
      refine R_istore_n dX12_laysRows_132 (Nat.le_of_ble_eq_true rfl) (?_ : RR _ _ _ _ 133 [_, _, _, _, _] _ _ _)
      exact KD l 0 _ w _ _ (by omega) hw (hz 1 rfl)
    · rw [if_neg y] at hz
      refine R_aload_n dX12_laysRows_101 rfl (?_ : RR _ _ _ _ 102 _ _ _ _)
      refine R_getr dX12_laysRows_102 flX12_93 cok_12 rfl (by decide) (?_ : RR _ _ _ _ 105 _ _ _ _)
      refine R_aload_n dX12_laysRows_105 rfl (?_ : RR _ _ _ _ 106 _ _ _ _)
      refine R_getr dX12_laysRows_106 flX12_33 cok_12 rfl (by decide) (?_ : RR _ _ _ _ 109 _ _ _ _)
      refine R_iconst dX12_laysRows_109 (?_ : RR _ _ _ _ 110 _ _ _ _)
      refine R_iald dX12_laysRows_110 (fun q110 => (?_ : RR _ _ _ _ 111 _ _ _ _))
      rw [gn] at q110 ⊢
      refine R_aload_n dX12_laysRows_111 rfl (?_ : RR _ _ _ _ 112 _ _ _ _)
      refine R_getr dX12_laysRows_112 flX12_90 cok_12 rfl (by decide) (?_ : RR _ _ _ _ 115 _ _ _ _)
      refine R_aload_n dX12_laysRows_115 rfl (?_ : RR _ _ _ _ 116 _ _ _ _)
      refine R_getr dX12_laysRows_116 flX12_33 cok_12 rfl (by decide) (?_ : RR _ _ _ _ 119 _ _ _ _)
      refine R_iconst dX12_laysRows_119 (?_ : RR _ _ _ _ 120 _ _ _ _)
      refine R_iald dX12_laysRows_120 (fun q120 => (?_ : RR _ _ _ _ 121 _ _ _ _))
      rw [gn] at q120 ⊢
      refine R_iald dX12_laysRows_121 (fun q121 => (?_ : RR _ _ _ _ 122 _ _ _ _))
      rw [gw] at q121 ⊢
      refine R_if_le (t := 129) dX12_laysRows_122 rfl (fun c122 => ?_) (fun c122 => ?_)
      rotate_left
      · exfalso; omega
      refine R_iconst dX12_laysRows_129 (?_ : RR _ _ _ _ 130 _ _ _ _)
      refine R_zast dX12_laysRows_130 (?_ : RR _ _ _ _ 131 _ _ _ _)
      rw [rup_s, rup_rup]
      refine R_iconst dX12_laysRows_131 (?_ : RR _ _ _ _ 132 _ _ _ _)
      refine R_istore_n dX12_laysRows_132 (Nat.le_of_ble_eq_true rfl) (?_ : RR _ _ _ _ 133 [_, _, _, _, _] _ _ _)
      exact KD l 0 _ w _ _ (by omega) hw (hz 0 rfl)
  have KB : ∀ (w : Int → Int) (w2 w3 w4 : PV), mtW H l ex fit (l + 1) w → RR mX12_laysRows 2 0 0 80 [pR 147, pI l, w2, w3, w4] [] (shp0, rf0, rup h 173 w) Q := by
    intro w w2 w3 w4 hw
    have L : ∀ k i : Nat, i + k = 117 → RR mX12_laysRows 2 0 0 82 [pR 147, pI l, pI i, w3, w4] [] (shp0, rf0, rup (rup h 173 w) 174 (fil 0 (h 174) i)) Q := by
      intro k
      induction k with
      | zero =>
        intro i hi 
        obtain rfl : i = 117 := by omega
        refine R_iload_n dX12_laysRows_82 rfl (?_ : RR _ _ _ _ 83 _ _ _ _)
        refine R_bipush dX12_laysRows_83 rfl (?_ : RR _ _ _ _ 85 _ _ _ _)
        refine R_icmp_ge (t := 101) dX12_laysRows_85 rfl (fun c85 => ?_) (fun c85 => ?_)
        rotate_left
        · exfalso; omega
        exact KC w _ _ _ hw
      | succ k ih =>
        intro i hi 
        refine R_iload_n dX12_laysRows_82 rfl (?_ : RR _ _ _ _ 83 _ _ _ _)
        refine R_bipush dX12_laysRows_83 rfl (?_ : RR _ _ _ _ 85 _ _ _ _)
        refine R_icmp_ge (t := 101) dX12_laysRows_85 rfl (fun c85 => ?_) (fun c85 => ?_)
        · exfalso; omega
        refine R_aload_n dX12_laysRows_88 rfl (?_ : RR _ _ _ _ 89 _ _ _ _)
        refine R_getr dX12_laysRows_89 flX12_93 cok_12 rfl (by decide) (?_ : RR _ _ _ _ 92 _ _ _ _)
        refine R_iload_n dX12_laysRows_92 rfl (?_ : RR _ _ _ _ 93 _ _ _ _)
        refine R_iconst dX12_laysRows_93 (?_ : RR _ _ _ _ 94 _ _ _ _)
        refine R_zast dX12_laysRows_94 (?_ : RR _ _ _ _ 95 _ _ _ _)
        try simp (disch := omega) only [rup_rup, rup_sort, rupS_def, rup_s, rup_n, fup_fup, fup_s, fup_n]
        rw [fil_s]
        refine R_iinc dX12_laysRows_95 rfl (Nat.le_of_ble_eq_true rfl) (?_ : RR _ _ _ _ 98 [_, _, _, _, _] _ _ _)
        refine R_goto (t := 82) dX12_laysRows_98 rfl (?_ : RR _ _ _ _ 82 _ _ _ _)
        exact ih (i + 1) (by omega)
    refine R_iconst dX12_laysRows_80 (?_ : RR _ _ _ _ 81 _ _ _ _)
    refine R_istore_n dX12_laysRows_81 (Nat.le_of_ble_eq_true rfl) (?_ : RR _ _ _ _ 82 [_, _, _, _, _] _ _ _)
    have L0 := L 117 0 (by omega)
    rw [fil_0, rup_id (a := 174) (by simp (disch := omega) only [rup_n])] at L0
    exact L0
  have L1 : ∀ (j m : Nat) (w : Int → Int) (w3 w4 : PV), m + j = l + 1 → mtW H l ex fit m w → RR mX12_laysRows 2 0 0 2 [pR 147, pI l, pI ((l : Int) - m), w3, w4] [] (shp0, rf0, rup h 173 w) Q := by
    intro j
    induction j with
    | zero =>
      intro m w w3 w4 hm hw
      obtain rfl : m = l + 1 := by omega
      refine R_iload_n dX12_laysRows_2 rfl (?_ : RR _ _ _ _ 3 _ _ _ _)
      refine R_if_lt (t := 80) dX12_laysRows_3 rfl (fun c3 => ?_) (fun c3 => ?_)
      rotate_left
      · exfalso; omega
      exact KB w _ _ _ hw
    | succ j ih =>
      intro m w w3 w4 hm hw
      obtain ⟨kk, hkk⟩ : ∃ kk : Nat, kk + m = l := ⟨l - m, by omega⟩
      have L2 : ∀ (j2 c : Nat) (w : Int → Int) (w4 : PV), c + j2 = H → mtW H l ex fit m w → (∀ c' : Nat, c' < c → w (9 * (kk : Int) + c') = wyS ex fit l m c') → RR mX12_laysRows 2 0 0 8 [pR 147, pI l, pI (kk : Int), pI c, w4] [] (shp0, rf0, rup h 173 w) Q := by
        intro j2
        induction j2 with
        | zero =>
          intro c w w4 hc hw hwc
          obtain rfl : c = H := by omega
          have g3 : rup h 173 w 147 3 = c := by rw [rup_n (by omega)]; exact hH
          have IH := fun w3 w4 => ih (m + 1) w w3 w4 (by omega) (fun m' c' hm' hc' => by
            by_cases y : m' = m
            · subst y
              rw [show (l : Int) - m' = kk by omega]
              exact hwc c' hc'
            · exact hw m' c' (by omega) hc')
          rw [show (l : Int) - ((m + 1 : Nat) : Int) = (kk : Int) + (-1) by omega] at IH
          refine R_iload_n dX12_laysRows_8 rfl (?_ : RR _ _ _ _ 9 _ _ _ _)
          refine R_aload_n dX12_laysRows_9 rfl (?_ : RR _ _ _ _ 10 _ _ _ _)
          refine R_geti (z := 3) dX12_laysRows_10 flX12_13 cok_12 rfl (by decide) rfl (fun q10 => (?_ : RR _ _ _ _ 13 _ _ _ _))
          rw [g3] at q10 ⊢
          refine R_icmp_ge (t := 74) dX12_laysRows_13 rfl (fun c13 => ?_) (fun c13 => ?_)
          rotate_left
          · exfalso; omega
          refine R_iinc dX12_laysRows_74 rfl (Nat.le_of_ble_eq_true rfl) (?_ : RR _ _ _ _ 77 [_, _, _, _, _] _ _ _)
          refine R_goto (t := 2) dX12_laysRows_77 rfl (?_ : RR _ _ _ _ 2 _ _ _ _)
          exact IH _ _
        | succ j2 ih2 =>
          intro c w w4 hc hw hwc
          have g3 : rup h 173 w 147 3 = H := by rw [rup_n (by omega)]; exact hH
          have hft := T_X12_fits (h := rup h 173 w) (N := N) (s := (kk : Int)) (c := (c : Int)) (by rw [rup_n (by omega)]; exact hN) hN12 (by omega) (by omega)
          rw [rup_n (by omega), rup_n (by omega), rup_n (by omega), hfi] at hft
          have hat := wyS_at (ex := ex) (fit := fit) (c := (c : Int)) hkk
          have hwb := wyS_4096 (ex := ex) (fit := fit) (l := l) (m := m) (c := c) (by omega)
          have IH := fun w4 => ih2 (c + 1) (fup w (9 * (kk : Int) + c) (wyS ex fit l m c)) w4 (by omega) (fun m' c' hm' hc' => by rw [fup_n (by omega)]; exact hw m' c' hm' hc') (fun c' hc' => by
            by_cases y : c' = c
            · subst y; rw [fup_s]
            · rw [fup_n (by omega)]; exact hwc c' (by omega))
          have K : ∀ z : Int, (fit kk c = true → z = wyS ex fit l m c) → RR mX12_laysRows 2 0 0 40 [pR 147, pI l, pI (kk : Int), pI c, w4] [pI z] (shp0, rf0, rup h 173 w) Q := by
            intro z hz
            by_cases y : fit kk c = true
            · rw [if_pos y] at hft
              have hz := hz y
              subst hz
              refine R_istore dX12_laysRows_40 (Nat.le_of_ble_eq_true rfl) (?_ : RR _ _ _ _ 42 [_, _, _, _, _] _ _ _)
              refine R_aload_n dX12_laysRows_42 rfl (?_ : RR _ _ _ _ 43 _ _ _ _)
              refine R_getr dX12_laysRows_43 flX12_90 cok_12 rfl (by decide) (?_ : RR _ _ _ _ 46 _ _ _ _)
              refine R_bipush dX12_laysRows_46 rfl (?_ : RR _ _ _ _ 48 _ _ _ _)
              refine R_iload_n dX12_laysRows_48 rfl (?_ : RR _ _ _ _ 49 _ _ _ _)
              refine R_imul dX12_laysRows_49 (?_ : RR _ _ _ _ 50 _ _ _ _)
              refine R_iload_n dX12_laysRows_50 rfl (?_ : RR _ _ _ _ 51 _ _ _ _)
              refine R_iadd dX12_laysRows_51 (?_ : RR _ _ _ _ 52 _ _ _ _)
              refine R_aload_n dX12_laysRows_52 rfl (?_ : RR _ _ _ _ 53 _ _ _ _)
              refine R_iload_n dX12_laysRows_53 rfl (?_ : RR _ _ _ _ 54 _ _ _ _)
              refine R_iload_n dX12_laysRows_54 rfl (?_ : RR _ _ _ _ 55 _ _ _ _)
              refine R_cVi2 dX12_laysRows_55 mvX12_fits mlX12_448 (by decide) (by decide) (Nat.le_of_ble_eq_true rfl) (Nat.le_of_ble_eq_true rfl) (hft) (?_ : RR _ _ _ _ 58 _ _ _ _)
              refine R_if_eq (t := 66) dX12_laysRows_58 rfl (fun c58 => ?_) (fun c58 => ?_)
              · exfalso; omega
              refine R_iload dX12_laysRows_61 rfl (?_ : RR _ _ _ _ 63 _ _ _ _)
              refine R_goto (t := 67) dX12_laysRows_63 rfl (?_ : RR _ _ _ _ 67 _ _ _ _)
              refine R_iast dX12_laysRows_67 (?_ : RR _ _ _ _ 68 _ _ _ _)
              rw [rup_s, rup_rup]
              refine R_iinc dX12_laysRows_68 rfl (Nat.le_of_ble_eq_true rfl) (?_ : RR _ _ _ _ 71 [_, _, _, _, _] _ _ _)
              refine R_goto (t := 8) dX12_laysRows_71 rfl (?_ : RR _ _ _ _ 8 _ _ _ _)
              exact IH _
            · rw [if_neg y] at hft hat
              rw [hat] at IH
              refine R_istore dX12_laysRows_40 (Nat.le_of_ble_eq_true rfl) (?_ : RR _ _ _ _ 42 [_, _, _, _, _] _ _ _)
              refine R_aload_n dX12_laysRows_42 rfl (?_ : RR _ _ _ _ 43 _ _ _ _)
              refine R_getr dX12_laysRows_43 flX12_90 cok_12 rfl (by decide) (?_ : RR _ _ _ _ 46 _ _ _ _)
              refine R_bipush dX12_laysRows_46 rfl (?_ : RR _ _ _ _ 48 _ _ _ _)
              refine R_iload_n dX12_laysRows_48 rfl (?_ : RR _ _ _ _ 49 _ _ _ _)
              refine R_imul dX12_laysRows_49 (?_ : RR _ _ _ _ 50 _ _ _ _)
              refine R_iload_n dX12_laysRows_50 rfl (?_ : RR _ _ _ _ 51 _ _ _ _)
              refine R_iadd dX12_laysRows_51 (?_ : RR _ _ _ _ 52 _ _ _ _)
              refine R_aload_n dX12_laysRows_52 rfl (?_ : RR _ _ _ _ 53 _ _ _ _)
              refine R_iload_n dX12_laysRows_53 rfl (?_ : RR _ _ _ _ 54 _ _ _ _)
              refine R_iload_n dX12_laysRows_54 rfl (?_ : RR _ _ _ _ 55 _ _ _ _)
              refine R_cVi2 dX12_laysRows_55 mvX12_fits mlX12_448 (by decide) (by decide) (Nat.le_of_ble_eq_true rfl) (Nat.le_of_ble_eq_true rfl) (hft) (?_ : RR _ _ _ _ 58 _ _ _ _)
              refine R_if_eq (t := 66) dX12_laysRows_58 rfl (fun c58 => ?_) (fun c58 => ?_)
              rotate_left
              · exfalso; omega
              refine R_iconst dX12_laysRows_66 (?_ : RR _ _ _ _ 67 _ _ _ _)
              refine R_iast dX12_laysRows_67 (?_ : RR _ _ _ _ 68 _ _ _ _)
              rw [rup_s, rup_rup]
              refine R_iinc dX12_laysRows_68 rfl (Nat.le_of_ble_eq_true rfl) (?_ : RR _ _ _ _ 71 [_, _, _, _, _] _ _ _)
              refine R_goto (t := 8) dX12_laysRows_71 rfl (?_ : RR _ _ _ _ 8 _ _ _ _)
              exact IH _
          by_cases z : m = 0
          · have K1 := K 1 (fun y => by rw [hat, if_pos y, if_pos z])
            refine R_iload_n dX12_laysRows_8 rfl (?_ : RR _ _ _ _ 9 _ _ _ _)
            refine R_aload_n dX12_laysRows_9 rfl (?_ : RR _ _ _ _ 10 _ _ _ _)
            refine R_geti (z := 3) dX12_laysRows_10 flX12_13 cok_12 rfl (by decide) rfl (fun q10 => (?_ : RR _ _ _ _ 13 _ _ _ _))
            rw [g3] at q10 ⊢
            refine R_icmp_ge (t := 74) dX12_laysRows_13 rfl (fun c13 => ?_) (fun c13 => ?_)
            · exfalso; omega
            refine R_iload_n dX12_laysRows_16 rfl (?_ : RR _ _ _ _ 17 _ _ _ _)
            refine R_iload_n dX12_laysRows_17 rfl (?_ : RR _ _ _ _ 18 _ _ _ _)
            refine R_icmp_ne (t := 25) dX12_laysRows_18 rfl (fun c18 => ?_) (fun c18 => ?_)
            · exfalso; omega
            refine R_iconst dX12_laysRows_21 (?_ : RR _ _ _ _ 22 _ _ _ _)
            refine R_goto (t := 40) dX12_laysRows_22 rfl (?_ : RR _ _ _ _ 40 _ _ _ _)
            exact K1
          · have eq2 : ∀ x : Int, 0 ≤ x → x ≤ 1 → MT mX12_rowsBy 0 [pR 147, pI (kk : Int), pI c, pI x] (rup h 173 w) (some (pI (rbS ex (wyS ex fit l (m - 1)) (2 * c + x)))) (rup h 173 w) := fun x x0 x1 => by
              have hr := T_X12_rowsBy (h := rup h 173 w) (k := (kk : Int)) (c := (c : Int)) (x := x) (by rw [rup_n (by omega), ← hex]; exact hE) (by omega) (by omega) (by omega)
              have e1 : rbS (rup h 173 w 149) (fun d => rup h 173 w 173 (9 * ((kk : Int) + 1) + d)) (2 * (c : Int) + x) = rbS ex (wyS ex fit l (m - 1)) (2 * c + x) := by
                refine rbS_congr (by rw [rup_n (by omega), hex]) (fun hp => ?_)
                have hxe := hK (2 * (c : Int) + x) (by omega) (by omega)
                show rup h 173 w 173 (9 * ((kk : Int) + 1) + ex (2 * (c : Int) + x)) = _
                rw [rup_s, ← mtW_i hw (m' := m - 1) (by omega) hp (by omega)]
                congr 2
                omega
              rw [e1] at hr
              exact hr
            have h0 := eq2 0 (by omega) (by omega)
            have h1 := eq2 1 (by omega) (by omega)
            rw [Int.add_zero] at h0
            have K1 := K _ (fun y => by rw [hat, if_pos y, if_neg z])
            refine R_iload_n dX12_laysRows_8 rfl (?_ : RR _ _ _ _ 9 _ _ _ _)
            refine R_aload_n dX12_laysRows_9 rfl (?_ : RR _ _ _ _ 10 _ _ _ _)
            refine R_geti (z := 3) dX12_laysRows_10 flX12_13 cok_12 rfl (by decide) rfl (fun q10 => (?_ : RR _ _ _ _ 13 _ _ _ _))
            rw [g3] at q10 ⊢
            refine R_icmp_ge (t := 74) dX12_laysRows_13 rfl (fun c13 => ?_) (fun c13 => ?_)
            · exfalso; omega
            refine R_iload_n dX12_laysRows_16 rfl (?_ : RR _ _ _ _ 17 _ _ _ _)
            refine R_iload_n dX12_laysRows_17 rfl (?_ : RR _ _ _ _ 18 _ _ _ _)
            refine R_icmp_ne (t := 25) dX12_laysRows_18 rfl (fun c18 => ?_) (fun c18 => ?_)
            rotate_left
            · exfalso; omega
            refine R_aload_n dX12_laysRows_25 rfl (?_ : RR _ _ _ _ 26 _ _ _ _)
            refine R_iload_n dX12_laysRows_26 rfl (?_ : RR _ _ _ _ 27 _ _ _ _)
            refine R_iload_n dX12_laysRows_27 rfl (?_ : RR _ _ _ _ 28 _ _ _ _)
            refine R_iconst dX12_laysRows_28 (?_ : RR _ _ _ _ 29 _ _ _ _)
            refine R_cVi3 dX12_laysRows_29 mvX12_rowsBy mlX12_445 (by decide) (by decide) (Nat.le_of_ble_eq_true rfl) (Nat.le_of_ble_eq_true rfl) (h0) (?_ : RR _ _ _ _ 32 _ _ _ _)
            refine R_aload_n dX12_laysRows_32 rfl (?_ : RR _ _ _ _ 33 _ _ _ _)
            refine R_iload_n dX12_laysRows_33 rfl (?_ : RR _ _ _ _ 34 _ _ _ _)
            refine R_iload_n dX12_laysRows_34 rfl (?_ : RR _ _ _ _ 35 _ _ _ _)
            refine R_iconst dX12_laysRows_35 (?_ : RR _ _ _ _ 36 _ _ _ _)
            refine R_cVi3 dX12_laysRows_36 mvX12_rowsBy mlX12_445 (by decide) (by decide) (Nat.le_of_ble_eq_true rfl) (Nat.le_of_ble_eq_true rfl) (h1) (?_ : RR _ _ _ _ 39 _ _ _ _)
            refine R_iadd dX12_laysRows_39 (?_ : RR _ _ _ _ 40 _ _ _ _)
            exact K1
      have hkI : (l : Int) - m = kk := by omega
      rw [hkI]
      refine R_iload_n dX12_laysRows_2 rfl (?_ : RR _ _ _ _ 3 _ _ _ _)
      refine R_if_lt (t := 80) dX12_laysRows_3 rfl (fun c3 => ?_) (fun c3 => ?_)
      · exfalso; omega
      refine R_iconst dX12_laysRows_6 (?_ : RR _ _ _ _ 7 _ _ _ _)
      refine R_istore_n dX12_laysRows_7 (Nat.le_of_ble_eq_true rfl) (?_ : RR _ _ _ _ 8 [_, _, _, _, _] _ _ _)
      exact L2 H 0 w _ (by omega) hw (fun c hc => by omega)
  have L0 := fun w3 w4 => L1 (l + 1) 0 (h 173) w3 w4 (by omega) (fun m' c hm' => by omega)
  rw [rup_self, show (l : Int) - ((0 : Nat) : Int) = l by omega] at L0
  refine R_iload_n dX12_laysRows_0 rfl (?_ : RR _ _ _ _ 1 _ _ _ _)
  refine R_istore_n dX12_laysRows_1 (Nat.le_of_ble_eq_true rfl) (?_ : RR _ _ _ _ 2 [_, _, _, _, _] _ _ _)
  exact L0 _ _
end MT2
