/-! a net that comes -/
section NE
variable {k : Nat} {h h1 h2 h3 h4 : Nat → Int → Int} {sem : Sem} {H n b : Nat} {σ ex mi : Int → Int}
/-- an exit at place p of the text: none, or a halt and minutes; what it says, and how many signs it has -/
def exN (σ : Int → Int) (p : Int) : Prop := σ p = 45
def exH (σ : Int → Int) (H : Nat) (p : Int) : Prop := 97 ≤ σ p ∧ σ p < 97 + (H : Int)
def exM (σ : Int → Int) (p : Int) : Prop := 49 ≤ σ p ∧ σ p < 58
/-- the class reads an exit: (to, minutes, next place or fault) -/
theorem T_X0_readExit {p e : Nat} {r to mt : Int} (hσ : ∀ p : Int, 0 ≤ p → signAt h p = σ p) (hσb : ∀ p : Int, -1 ≤ σ p ∧ σ p ≤ 255) (hH : h 7 0 = H) (hH9 : 1 ≤ H ∧ H ≤ 9) (he : e < 18) (hp : p ≤ 80) (hr : (exN σ p ∧ r = p + 1 ∧ to = -1 ∧ mt = 0) ∨ (¬ exN σ p ∧ ¬ exH σ H p ∧ r = -1 - p ∧ to = -1 ∧ mt = 0) ∨ (exH σ H p ∧ ¬ exM σ (p + 1) ∧ r = -2 - p ∧ to = -1 ∧ mt = 0) ∨ (exH σ H p ∧ exM σ (p + 1) ∧ r = p + 2 ∧ to = σ p - 97 ∧ mt = σ (p + 1) - 48)) : MT mX0_readExit 2 [pR 7, pR 1, pI p, pI e] h (some (pI r)) (rup (rup h 8 (fup (h 8) e to)) 9 (fup (h 9) e mt)) := by
  refine MT.of (fun Q hQ => (?_ : RR mX0_readExit _ _ _ _ [pR 7, pR 1, pI p, pI e, pU, pU] _ _ _))
  obtain ⟨h9, h9e⟩ : ∃ h9, h9 = rup (rup h 8 (fup (h 8) e (-1))) 9 (fup (h 9) e 0) := ⟨_, rfl⟩
  have hσ9 : ∀ p : Int, 0 ≤ p → signAt h9 p = σ p := fun p p0 => by
    rw [← hσ p p0]
    unfold signAt
    rw [h9e, rup_n (by omega), rup_n (by omega), rup_n (by omega), rup_n (by omega)]
  have g7 : h9 7 0 = H := by rw [h9e, rup_n (by omega), rup_n (by omega)]; exact hH
  have A1 := T_X7_at (h := h9) (p := (p : Int))
  rw [hσ9 _ (by omega)] at A1
  have N1 := T_X7_numberAt (h := h9) (p := (p : Int)) (f := 97) (m := H) (by rw [hσ9 _ (by omega)]; exact hσb _)
  have N2 := T_X7_numberAt (h := h9) (p := (p : Int) + 1) (f := 49) (m := 9) (by rw [hσ9 _ (by omega)]; exact hσb _)
  unfold numAt at N1 N2
  rw [hσ9 _ (by omega)] at N1 N2
  have b1 := hσb p
  have n7 := isNet_7
  unfold exN exH exM at hr
  rcases hr with ⟨r1, r2, r3, r4⟩ | ⟨r1, r2, r3, r4, r5⟩ | ⟨r1, r2, r3, r4, r5⟩ | ⟨r1, r2, r3, r4, r5⟩
  · rw [r2, r3, r4, ← h9e] at hQ
    refine R_aload_n dX0_readExit_0 rfl (?_ : RR _ _ _ _ 1 _ _ _ _)
    refine R_getr dX0_readExit_1 flX0_15 cok_0 rfl (by decide) (?_ : RR _ _ _ _ 4 _ _ _ _)
    refine R_iload_n dX0_readExit_4 rfl (?_ : RR _ _ _ _ 5 _ _ _ _)
    refine R_iconst dX0_readExit_5 (?_ : RR _ _ _ _ 6 _ _ _ _)
    refine R_iast dX0_readExit_6 (?_ : RR _ _ _ _ 7 _ _ _ _)
    refine R_aload_n dX0_readExit_7 rfl (?_ : RR _ _ _ _ 8 _ _ _ _)
    refine R_getr dX0_readExit_8 flX0_19 cok_0 rfl (by decide) (?_ : RR _ _ _ _ 11 _ _ _ _)
    refine R_iload_n dX0_readExit_11 rfl (?_ : RR _ _ _ _ 12 _ _ _ _)
    refine R_iconst dX0_readExit_12 (?_ : RR _ _ _ _ 13 _ _ _ _)
    refine R_iast dX0_readExit_13 (?_ : RR _ _ _ _ 14 _ _ _ _)
    simp (disch := omega) only [rup_n]
    rw [← h9e]
    refine R_aload_n dX0_readExit_14 rfl (?_ : RR _ _ _ _ 15 _ _ _ _)
    refine R_iload_n dX0_readExit_15 rfl (?_ : RR _ _ _ _ 16 _ _ _ _)
    refine R_cVi1 dX0_readExit_16 mvX7_at mlX0_37 (by decide) (by decide) (Nat.le_of_ble_eq_true rfl) (Nat.le_of_ble_eq_true rfl) (A1) (?_ : RR _ _ _ _ 19 _ _ _ _)
    refine R_bipush dX0_readExit_19 rfl (?_ : RR _ _ _ _ 21 _ _ _ _)
    refine R_icmp_ne (t := 28) dX0_readExit_21 rfl (fun c21 => ?_) (fun c21 => ?_)
    · exfalso; omega
    refine R_iload_n dX0_readExit_24 rfl (?_ : RR _ _ _ _ 25 _ _ _ _)
    refine R_iconst dX0_readExit_25 (?_ : RR _ _ _ _ 26 _ _ _ _)
    refine R_iadd dX0_readExit_26 (?_ : RR _ _ _ _ 27 _ _ _ _)
    exact R_ireturn dX0_readExit_27 trivial hQ
  · rw [r3, r4, r5, ← h9e] at hQ
    rw [if_neg (by omega)] at N1
    refine R_aload_n dX0_readExit_0 rfl (?_ : RR _ _ _ _ 1 _ _ _ _)
    refine R_getr dX0_readExit_1 flX0_15 cok_0 rfl (by decide) (?_ : RR _ _ _ _ 4 _ _ _ _)
    refine R_iload_n dX0_readExit_4 rfl (?_ : RR _ _ _ _ 5 _ _ _ _)
    refine R_iconst dX0_readExit_5 (?_ : RR _ _ _ _ 6 _ _ _ _)
    refine R_iast dX0_readExit_6 (?_ : RR _ _ _ _ 7 _ _ _ _)
    refine R_aload_n dX0_readExit_7 rfl (?_ : RR _ _ _ _ 8 _ _ _ _)
    refine R_getr dX0_readExit_8 flX0_19 cok_0 rfl (by decide) (?_ : RR _ _ _ _ 11 _ _ _ _)
    refine R_iload_n dX0_readExit_11 rfl (?_ : RR _ _ _ _ 12 _ _ _ _)
    refine R_iconst dX0_readExit_12 (?_ : RR _ _ _ _ 13 _ _ _ _)
    refine R_iast dX0_readExit_13 (?_ : RR _ _ _ _ 14 _ _ _ _)
    simp (disch := omega) only [rup_n]
    rw [← h9e]
    refine R_aload_n dX0_readExit_14 rfl (?_ : RR _ _ _ _ 15 _ _ _ _)
    refine R_iload_n dX0_readExit_15 rfl (?_ : RR _ _ _ _ 16 _ _ _ _)
    refine R_cVi1 dX0_readExit_16 mvX7_at mlX0_37 (by decide) (by decide) (Nat.le_of_ble_eq_true rfl) (Nat.le_of_ble_eq_true rfl) (A1) (?_ : RR _ _ _ _ 19 _ _ _ _)
    refine R_bipush dX0_readExit_19 rfl (?_ : RR _ _ _ _ 21 _ _ _ _)
    refine R_icmp_ne (t := 28) dX0_readExit_21 rfl (fun c21 => ?_) (fun c21 => ?_)
    rotate_left
    · exfalso; omega
    refine R_aload_n dX0_readExit_28 rfl (?_ : RR _ _ _ _ 29 _ _ _ _)
    refine R_iload_n dX0_readExit_29 rfl (?_ : RR _ _ _ _ 30 _ _ _ _)
    refine R_bipush dX0_readExit_30 rfl (?_ : RR _ _ _ _ 32 _ _ _ _)
    refine R_aload_n dX0_readExit_32 rfl (?_ : RR _ _ _ _ 33 _ _ _ _)
    refine R_geti (z := 0) dX0_readExit_33 flX0_9 cok_0 rfl (by decide) rfl (fun q33 => (?_ : RR _ _ _ _ 36 _ _ _ _))
    rw [g7] at q33 ⊢
    refine R_cVi3 dX0_readExit_36 mvX7_numberAt mlX0_31 (by decide) (by decide) (Nat.le_of_ble_eq_true rfl) (Nat.le_of_ble_eq_true rfl) (N1) (?_ : RR _ _ _ _ 39 _ _ _ _)
    refine R_istore dX0_readExit_39 (Nat.le_of_ble_eq_true rfl) (?_ : RR _ _ _ _ 41 [_, _, _, _, _, _] _ _ _)
    refine R_iload dX0_readExit_41 rfl (?_ : RR _ _ _ _ 43 _ _ _ _)
    refine R_iconst dX0_readExit_43 (?_ : RR _ _ _ _ 44 _ _ _ _)
    refine R_icmp_ne (t := 51) dX0_readExit_44 rfl (fun c44 => ?_) (fun c44 => ?_)
    · exfalso; omega
    refine R_iconst dX0_readExit_47 (?_ : RR _ _ _ _ 48 _ _ _ _)
    refine R_iload_n dX0_readExit_48 rfl (?_ : RR _ _ _ _ 49 _ _ _ _)
    refine R_isub dX0_readExit_49 (?_ : RR _ _ _ _ 50 _ _ _ _)
    exact R_ireturn dX0_readExit_50 trivial hQ
  · rw [r3, r4, r5, ← h9e] at hQ
    rw [if_pos (by omega)] at N1
    rw [if_neg (by omega)] at N2
    refine R_aload_n dX0_readExit_0 rfl (?_ : RR _ _ _ _ 1 _ _ _ _)
    refine R_getr dX0_readExit_1 flX0_15 cok_0 rfl (by decide) (?_ : RR _ _ _ _ 4 _ _ _ _)
    refine R_iload_n dX0_readExit_4 rfl (?_ : RR _ _ _ _ 5 _ _ _ _)
    refine R_iconst dX0_readExit_5 (?_ : RR _ _ _ _ 6 _ _ _ _)
    refine R_iast dX0_readExit_6 (?_ : RR _ _ _ _ 7 _ _ _ _)
    refine R_aload_n dX0_readExit_7 rfl (?_ : RR _ _ _ _ 8 _ _ _ _)
    refine R_getr dX0_readExit_8 flX0_19 cok_0 rfl (by decide) (?_ : RR _ _ _ _ 11 _ _ _ _)
    refine R_iload_n dX0_readExit_11 rfl (?_ : RR _ _ _ _ 12 _ _ _ _)
    refine R_iconst dX0_readExit_12 (?_ : RR _ _ _ _ 13 _ _ _ _)
    refine R_iast dX0_readExit_13 (?_ : RR _ _ _ _ 14 _ _ _ _)
    simp (disch := omega) only [rup_n]
    rw [← h9e]
    refine R_aload_n dX0_readExit_14 rfl (?_ : RR _ _ _ _ 15 _ _ _ _)
    refine R_iload_n dX0_readExit_15 rfl (?_ : RR _ _ _ _ 16 _ _ _ _)
    refine R_cVi1 dX0_readExit_16 mvX7_at mlX0_37 (by decide) (by decide) (Nat.le_of_ble_eq_true rfl) (Nat.le_of_ble_eq_true rfl) (A1) (?_ : RR _ _ _ _ 19 _ _ _ _)
    refine R_bipush dX0_readExit_19 rfl (?_ : RR _ _ _ _ 21 _ _ _ _)
    refine R_icmp_ne (t := 28) dX0_readExit_21 rfl (fun c21 => ?_) (fun c21 => ?_)
    rotate_left
    · exfalso; omega
    refine R_aload_n dX0_readExit_28 rfl (?_ : RR _ _ _ _ 29 _ _ _ _)
    refine R_iload_n dX0_readExit_29 rfl (?_ : RR _ _ _ _ 30 _ _ _ _)
    refine R_bipush dX0_readExit_30 rfl (?_ : RR _ _ _ _ 32 _ _ _ _)
    refine R_aload_n dX0_readExit_32 rfl (?_ : RR _ _ _ _ 33 _ _ _ _)
    refine R_geti (z := 0) dX0_readExit_33 flX0_9 cok_0 rfl (by decide) rfl (fun q33 => (?_ : RR _ _ _ _ 36 _ _ _ _))
    rw [g7] at q33 ⊢
    refine R_cVi3 dX0_readExit_36 mvX7_numberAt mlX0_31 (by decide) (by decide) (Nat.le_of_ble_eq_true rfl) (Nat.le_of_ble_eq_true rfl) (N1) (?_ : RR _ _ _ _ 39 _ _ _ _)
    refine R_istore dX0_readExit_39 (Nat.le_of_ble_eq_true rfl) (?_ : RR _ _ _ _ 41 [_, _, _, _, _, _] _ _ _)
    refine R_iload dX0_readExit_41 rfl (?_ : RR _ _ _ _ 43 _ _ _ _)
    refine R_iconst dX0_readExit_43 (?_ : RR _ _ _ _ 44 _ _ _ _)
    refine R_icmp_ne (t := 51) dX0_readExit_44 rfl (fun c44 => ?_) (fun c44 => ?_)
    rotate_left
    · exfalso; omega
    refine R_aload_n dX0_readExit_51 rfl (?_ : RR _ _ _ _ 52 _ _ _ _)
    refine R_iload_n dX0_readExit_52 rfl (?_ : RR _ _ _ _ 53 _ _ _ _)
    refine R_iconst dX0_readExit_53 (?_ : RR _ _ _ _ 54 _ _ _ _)
    refine R_iadd dX0_readExit_54 (?_ : RR _ _ _ _ 55 _ _ _ _)
    refine R_bipush dX0_readExit_55 rfl (?_ : RR _ _ _ _ 57 _ _ _ _)
    refine R_bipush dX0_readExit_57 rfl (?_ : RR _ _ _ _ 59 _ _ _ _)
    refine R_cVi3 dX0_readExit_59 mvX7_numberAt mlX0_31 (by decide) (by decide) (Nat.le_of_ble_eq_true rfl) (Nat.le_of_ble_eq_true rfl) (N2) (?_ : RR _ _ _ _ 62 _ _ _ _)
    refine R_istore dX0_readExit_62 (Nat.le_of_ble_eq_true rfl) (?_ : RR _ _ _ _ 64 [_, _, _, _, _, _] _ _ _)
    refine R_iload dX0_readExit_64 rfl (?_ : RR _ _ _ _ 66 _ _ _ _)
    refine R_iconst dX0_readExit_66 (?_ : RR _ _ _ _ 67 _ _ _ _)
    refine R_icmp_ne (t := 75) dX0_readExit_67 rfl (fun c67 => ?_) (fun c67 => ?_)
    · exfalso; omega
    refine R_bipush dX0_readExit_70 rfl (?_ : RR _ _ _ _ 72 _ _ _ _)
    refine R_iload_n dX0_readExit_72 rfl (?_ : RR _ _ _ _ 73 _ _ _ _)
    refine R_isub dX0_readExit_73 (?_ : RR _ _ _ _ 74 _ _ _ _)
    exact R_ireturn dX0_readExit_74 trivial hQ
  · rw [r3, r4, r5] at hQ
    rw [if_pos (by omega)] at N1 N2
    have e9 : rup (rup h9 8 (fup (h9 8) e (σ p - 97))) 9 (fup (rup h9 8 (fup (h9 8) e (σ p - 97)) 9) e (σ (p + 1) - 49 + 1)) = rup (rup h 8 (fup (h 8) e (σ p - 97))) 9 (fup (h 9) e (σ (p + 1) - 48)) := by
      rw [h9e]
      simp (disch := omega) only [rup_n, rup_s, rup_rup, rup_sort, rupS_def, fup_fup]
      rw [show σ ((p : Int) + 1) - 49 + 1 = σ (p + 1) - 48 by omega]
    rw [← e9] at hQ
    refine R_aload_n dX0_readExit_0 rfl (?_ : RR _ _ _ _ 1 _ _ _ _)
    refine R_getr dX0_readExit_1 flX0_15 cok_0 rfl (by decide) (?_ : RR _ _ _ _ 4 _ _ _ _)
    refine R_iload_n dX0_readExit_4 rfl (?_ : RR _ _ _ _ 5 _ _ _ _)
    refine R_iconst dX0_readExit_5 (?_ : RR _ _ _ _ 6 _ _ _ _)
    refine R_iast dX0_readExit_6 (?_ : RR _ _ _ _ 7 _ _ _ _)
    refine R_aload_n dX0_readExit_7 rfl (?_ : RR _ _ _ _ 8 _ _ _ _)
    refine R_getr dX0_readExit_8 flX0_19 cok_0 rfl (by decide) (?_ : RR _ _ _ _ 11 _ _ _ _)
    refine R_iload_n dX0_readExit_11 rfl (?_ : RR _ _ _ _ 12 _ _ _ _)
    refine R_iconst dX0_readExit_12 (?_ : RR _ _ _ _ 13 _ _ _ _)
    refine R_iast dX0_readExit_13 (?_ : RR _ _ _ _ 14 _ _ _ _)
    simp (disch := omega) only [rup_n]
    rw [← h9e]
    refine R_aload_n dX0_readExit_14 rfl (?_ : RR _ _ _ _ 15 _ _ _ _)
    refine R_iload_n dX0_readExit_15 rfl (?_ : RR _ _ _ _ 16 _ _ _ _)
    refine R_cVi1 dX0_readExit_16 mvX7_at mlX0_37 (by decide) (by decide) (Nat.le_of_ble_eq_true rfl) (Nat.le_of_ble_eq_true rfl) (A1) (?_ : RR _ _ _ _ 19 _ _ _ _)
    refine R_bipush dX0_readExit_19 rfl (?_ : RR _ _ _ _ 21 _ _ _ _)
    refine R_icmp_ne (t := 28) dX0_readExit_21 rfl (fun c21 => ?_) (fun c21 => ?_)
    rotate_left
    · exfalso; omega
    refine R_aload_n dX0_readExit_28 rfl (?_ : RR _ _ _ _ 29 _ _ _ _)
    refine R_iload_n dX0_readExit_29 rfl (?_ : RR _ _ _ _ 30 _ _ _ _)
    refine R_bipush dX0_readExit_30 rfl (?_ : RR _ _ _ _ 32 _ _ _ _)
    refine R_aload_n dX0_readExit_32 rfl (?_ : RR _ _ _ _ 33 _ _ _ _)
    refine R_geti (z := 0) dX0_readExit_33 flX0_9 cok_0 rfl (by decide) rfl (fun q33 => (?_ : RR _ _ _ _ 36 _ _ _ _))
    rw [g7] at q33 ⊢
    refine R_cVi3 dX0_readExit_36 mvX7_numberAt mlX0_31 (by decide) (by decide) (Nat.le_of_ble_eq_true rfl) (Nat.le_of_ble_eq_true rfl) (N1) (?_ : RR _ _ _ _ 39 _ _ _ _)
    refine R_istore dX0_readExit_39 (Nat.le_of_ble_eq_true rfl) (?_ : RR _ _ _ _ 41 [_, _, _, _, _, _] _ _ _)
    refine R_iload dX0_readExit_41 rfl (?_ : RR _ _ _ _ 43 _ _ _ _)
    refine R_iconst dX0_readExit_43 (?_ : RR _ _ _ _ 44 _ _ _ _)
    refine R_icmp_ne (t := 51) dX0_readExit_44 rfl (fun c44 => ?_) (fun c44 => ?_)
    rotate_left
    · exfalso; omega
    refine R_aload_n dX0_readExit_51 rfl (?_ : RR _ _ _ _ 52 _ _ _ _)
    refine R_iload_n dX0_readExit_52 rfl (?_ : RR _ _ _ _ 53 _ _ _ _)
    refine R_iconst dX0_readExit_53 (?_ : RR _ _ _ _ 54 _ _ _ _)
    refine R_iadd dX0_readExit_54 (?_ : RR _ _ _ _ 55 _ _ _ _)
    refine R_bipush dX0_readExit_55 rfl (?_ : RR _ _ _ _ 57 _ _ _ _)
    refine R_bipush dX0_readExit_57 rfl (?_ : RR _ _ _ _ 59 _ _ _ _)
    refine R_cVi3 dX0_readExit_59 mvX7_numberAt mlX0_31 (by decide) (by decide) (Nat.le_of_ble_eq_true rfl) (Nat.le_of_ble_eq_true rfl) (N2) (?_ : RR _ _ _ _ 62 _ _ _ _)
    refine R_istore dX0_readExit_62 (Nat.le_of_ble_eq_true rfl) (?_ : RR _ _ _ _ 64 [_, _, _, _, _, _] _ _ _)
    refine R_iload dX0_readExit_64 rfl (?_ : RR _ _ _ _ 66 _ _ _ _)
    refine R_iconst dX0_readExit_66 (?_ : RR _ _ _ _ 67 _ _ _ _)
    refine R_icmp_ne (t := 75) dX0_readExit_67 rfl (fun c67 => ?_) (fun c67 => ?_)
    rotate_left
    · exfalso; omega
    refine R_aload_n dX0_readExit_75 rfl (?_ : RR _ _ _ _ 76 _ _ _ _)
    refine R_getr dX0_readExit_76 flX0_15 cok_0 rfl (by decide) (?_ : RR _ _ _ _ 79 _ _ _ _)
    refine R_iload_n dX0_readExit_79 rfl (?_ : RR _ _ _ _ 80 _ _ _ _)
    refine R_iload dX0_readExit_80 rfl (?_ : RR _ _ _ _ 82 _ _ _ _)
    refine R_iast dX0_readExit_82 (?_ : RR _ _ _ _ 83 _ _ _ _)
    refine R_aload_n dX0_readExit_83 rfl (?_ : RR _ _ _ _ 84 _ _ _ _)
    refine R_getr dX0_readExit_84 flX0_19 cok_0 rfl (by decide) (?_ : RR _ _ _ _ 87 _ _ _ _)
    refine R_iload_n dX0_readExit_87 rfl (?_ : RR _ _ _ _ 88 _ _ _ _)
    refine R_iload dX0_readExit_88 rfl (?_ : RR _ _ _ _ 90 _ _ _ _)
    refine R_iconst dX0_readExit_90 (?_ : RR _ _ _ _ 91 _ _ _ _)
    refine R_iadd dX0_readExit_91 (?_ : RR _ _ _ _ 92 _ _ _ _)
    refine R_iast dX0_readExit_92 (?_ : RR _ _ _ _ 93 _ _ _ _)
    refine R_iload_n dX0_readExit_93 rfl (?_ : RR _ _ _ _ 94 _ _ _ _)
    refine R_iconst dX0_readExit_94 (?_ : RR _ _ _ _ 95 _ _ _ _)
    refine R_iadd dX0_readExit_95 (?_ : RR _ _ _ _ 96 _ _ _ _)
    exact R_ireturn dX0_readExit_96 trivial hQ
end NE
