/-! a night's text -/
section NI1
variable {k : Nat} {h h1 h2 h3 h4 : Nat → Int → Int} {n b i : Nat} {σ : Int → Int}
abbrev naF (σ : Int → Int) (p : Nat) : Prop := (σ p = 103 ∧ 48 ≤ σ (p + 1) ∧ σ (p + 1) ≤ 49) ∨ (σ p = 119 ∧ 97 ≤ σ (p + 1) ∧ σ (p + 1) ≤ 108)

/-- an act: the place behind it, or of the fault -/
def naE (σ : Int → Int) (p : Nat) : Nat × Bool := if σ p = 114 ∨ σ p = 99 then (p + 1, true) else if σ p = 120 ∨ σ p = 115 then (if 48 ≤ σ (p + 1) ∧ σ (p + 1) ≤ 57 then (p + 2, true) else (p + 1, false)) else if σ p = 103 ∨ σ p = 119 then (if naF σ p then (if 48 ≤ σ (p + 2) ∧ σ (p + 2) ≤ 57 then (p + 3, true) else (p + 2, false)) else (p + 1, false)) else (p, false)
abbrev naZ (x : Nat × Bool) : Int := if x.2 then (x.1 : Int) else -1 - (x.1 : Int)
theorem T_X11_actEndBehind {p : Nat} {z : Int} (hσ : ∀ p : Int, 0 ≤ p → signAt h p = σ p) (hσb : ∀ p : Int, -1 ≤ σ p ∧ σ p ≤ 255) (hp : p ≤ 80) (hz : -1 ≤ z ∧ z ≤ 100) : MT mX11_actEndBehind 3 [pR 0, pI p, pI z] h (some (pI (naZ (if z ≠ -1 then (if 48 ≤ σ (p + 2) ∧ σ (p + 2) ≤ 57 then (p + 3, true) else (p + 2, false)) else (p + 1, false))))) h := by
  refine MT.of (fun Q hQ => (?_ : RR mX11_actEndBehind _ _ _ _ [pR 0, pI p, pI z] _ _ _))
  have N1 := T_X7_digitAt (h := h) (p := (p : Int) + 2) (by rw [hσ _ (by omega)]; exact hσb _)
  unfold numAt at N1
  rw [hσ _ (by omega)] at N1
  by_cases q : z ≠ -1
  · rw [if_pos q] at hQ
    by_cases y : 48 ≤ σ (p + 2) ∧ σ (p + 2) ≤ 57
    · rw [if_pos y] at hQ
      rw [if_pos (by omega)] at N1
      have hQ : Q (some (pI ((p : Int) + 3))) (shp0, rf0, h) := hQ
      generalize σ (p + 2) = s2 at *
      refine R_iload_n dX11_actEndBehind_0 rfl (?_ : RR _ _ _ _ 1 _ _ _ _)
      refine R_iconst dX11_actEndBehind_1 (?_ : RR _ _ _ _ 2 _ _ _ _)
      refine R_icmp_ne (t := 10) dX11_actEndBehind_2 rfl (fun c2 => ?_) (fun c2 => ?_)
      rotate_left
      · exfalso; omega
      refine R_aload_n dX11_actEndBehind_10 rfl (?_ : RR _ _ _ _ 11 _ _ _ _)
      refine R_getr dX11_actEndBehind_11 flX11_10 cok_11 rfl (by decide) (?_ : RR _ _ _ _ 14 _ _ _ _)
      refine R_iload_n dX11_actEndBehind_14 rfl (?_ : RR _ _ _ _ 15 _ _ _ _)
      refine R_iconst dX11_actEndBehind_15 (?_ : RR _ _ _ _ 16 _ _ _ _)
      refine R_iadd dX11_actEndBehind_16 (?_ : RR _ _ _ _ 17 _ _ _ _)
      refine R_cVi1 dX11_actEndBehind_17 mvX7_digitAt mlX11_445 (by decide) (by decide) (Nat.le_of_ble_eq_true rfl) (Nat.le_of_ble_eq_true rfl) (N1) (?_ : RR _ _ _ _ 20 _ _ _ _)
      refine R_iconst dX11_actEndBehind_20 (?_ : RR _ _ _ _ 21 _ _ _ _)
      refine R_icmp_ne (t := 31) dX11_actEndBehind_21 rfl (fun c21 => ?_) (fun c21 => ?_)
      rotate_left
      · exfalso; omega
      refine R_iload_n dX11_actEndBehind_31 rfl (?_ : RR _ _ _ _ 32 _ _ _ _)
      refine R_iconst dX11_actEndBehind_32 (?_ : RR _ _ _ _ 33 _ _ _ _)
      refine R_iadd dX11_actEndBehind_33 (?_ : RR _ _ _ _ 34 _ _ _ _)
      exact R_ireturn dX11_actEndBehind_34 trivial hQ
    · rw [if_neg y] at hQ
      rw [if_neg (by omega)] at N1
      have hQ : Q (some (pI (-1 - ((p + 2 : Nat) : Int)))) (shp0, rf0, h) := hQ
      rw [show (-1 : Int) - ((p + 2 : Nat) : Int) = -3 - (p : Int) by omega] at hQ
      generalize σ (p + 2) = s2 at *
      refine R_iload_n dX11_actEndBehind_0 rfl (?_ : RR _ _ _ _ 1 _ _ _ _)
      refine R_iconst dX11_actEndBehind_1 (?_ : RR _ _ _ _ 2 _ _ _ _)
      refine R_icmp_ne (t := 10) dX11_actEndBehind_2 rfl (fun c2 => ?_) (fun c2 => ?_)
      rotate_left
      · exfalso; omega
      refine R_aload_n dX11_actEndBehind_10 rfl (?_ : RR _ _ _ _ 11 _ _ _ _)
      refine R_getr dX11_actEndBehind_11 flX11_10 cok_11 rfl (by decide) (?_ : RR _ _ _ _ 14 _ _ _ _)
      refine R_iload_n dX11_actEndBehind_14 rfl (?_ : RR _ _ _ _ 15 _ _ _ _)
      refine R_iconst dX11_actEndBehind_15 (?_ : RR _ _ _ _ 16 _ _ _ _)
      refine R_iadd dX11_actEndBehind_16 (?_ : RR _ _ _ _ 17 _ _ _ _)
      refine R_cVi1 dX11_actEndBehind_17 mvX7_digitAt mlX11_445 (by decide) (by decide) (Nat.le_of_ble_eq_true rfl) (Nat.le_of_ble_eq_true rfl) (N1) (?_ : RR _ _ _ _ 20 _ _ _ _)
      refine R_iconst dX11_actEndBehind_20 (?_ : RR _ _ _ _ 21 _ _ _ _)
      refine R_icmp_ne (t := 31) dX11_actEndBehind_21 rfl (fun c21 => ?_) (fun c21 => ?_)
      · exfalso; omega
      refine R_bipush dX11_actEndBehind_24 rfl (?_ : RR _ _ _ _ 26 _ _ _ _)
      refine R_iload_n dX11_actEndBehind_26 rfl (?_ : RR _ _ _ _ 27 _ _ _ _)
      refine R_isub dX11_actEndBehind_27 (?_ : RR _ _ _ _ 28 _ _ _ _)
      refine R_goto (t := 34) dX11_actEndBehind_28 rfl (?_ : RR _ _ _ _ 34 _ _ _ _)
      exact R_ireturn dX11_actEndBehind_34 trivial hQ
  · rw [if_neg q] at hQ
    have hQ : Q (some (pI (-1 - ((p + 1 : Nat) : Int)))) (shp0, rf0, h) := hQ
    rw [show (-1 : Int) - ((p + 1 : Nat) : Int) = -2 - (p : Int) by omega] at hQ
    refine R_iload_n dX11_actEndBehind_0 rfl (?_ : RR _ _ _ _ 1 _ _ _ _)
    refine R_iconst dX11_actEndBehind_1 (?_ : RR _ _ _ _ 2 _ _ _ _)
    refine R_icmp_ne (t := 10) dX11_actEndBehind_2 rfl (fun c2 => ?_) (fun c2 => ?_)
    · exfalso; omega
    refine R_bipush dX11_actEndBehind_5 rfl (?_ : RR _ _ _ _ 7 _ _ _ _)
    refine R_iload_n dX11_actEndBehind_7 rfl (?_ : RR _ _ _ _ 8 _ _ _ _)
    refine R_isub dX11_actEndBehind_8 (?_ : RR _ _ _ _ 9 _ _ _ _)
    exact R_ireturn dX11_actEndBehind_9 trivial hQ
theorem look_d {a : Int} (h1 : a ≠ 99) (h2 : a ≠ 103) (h3 : a ≠ 114) (h4 : a ≠ 115) (h5 : a ≠ 119) (h6 : a ≠ 120) : Op.lookupswitch.offset (#[(99, 60), (103, 89), (114, 60), (115, 64), (119, 108), (120, 64)] : Array (Int × Int)).toList 128 a = 128 := by
  simp [Op.lookupswitch.offset, Ne.symm h1, Ne.symm h2, Ne.symm h3, Ne.symm h4, Ne.symm h5, Ne.symm h6, h1, h2, h3, h4, h5, h6]
theorem T_X11_actEnd {p : Nat} (hσ : ∀ p : Int, 0 ≤ p → signAt h p = σ p) (hσb : ∀ p : Int, -1 ≤ σ p ∧ σ p ≤ 255) (hp : p ≤ 80) : MT mX11_actEnd 4 [pR 0, pI p] h (some (pI (naZ (naE σ p)))) h := by
  refine MT.of (fun Q hQ => (?_ : RR mX11_actEnd _ _ _ _ [pR 0, pI p] _ _ _))
  have A1 := T_X7_at (h := h) (p := (p : Int))
  rw [hσ _ (by omega)] at A1
  have D1 := T_X7_digitAt (h := h) (p := (p : Int) + 1) (by rw [hσ _ (by omega)]; exact hσb _)
  have N1 := T_X7_numberAt (h := h) (p := (p : Int) + 1) (f := 48) (m := 2) (by rw [hσ _ (by omega)]; exact hσb _)
  have N2 := T_X7_numberAt (h := h) (p := (p : Int) + 1) (f := 97) (m := 12) (by rw [hσ _ (by omega)]; exact hσb _)
  unfold numAt at D1 N1 N2
  rw [hσ _ (by omega)] at D1 N1 N2
  have B1 := T_X11_actEndBehind (z := if 0 ≤ σ (p + 1) - 48 ∧ σ (p + 1) - 48 < 2 then σ (p + 1) - 48 else -1) hσ hσb hp (by split <;> omega)
  have B2 := T_X11_actEndBehind (z := if 0 ≤ σ (p + 1) - 97 ∧ σ (p + 1) - 97 < 12 then σ (p + 1) - 97 else -1) hσ hσb hp (by split <;> omega)
  have b0 := hσb p
  have b1 := hσb (p + 1)
  unfold naE at hQ
  by_cases q1 : σ p = 114 ∨ σ p = 99
  · rw [if_pos q1] at hQ
    have hQ : Q (some (pI ((p : Int) + 1))) (shp0, rf0, h) := hQ
    rcases q1 with q1 | q1
    · rw [q1] at A1
      refine R_aload_n dX11_actEnd_0 rfl (?_ : RR _ _ _ _ 1 _ _ _ _)
      refine R_getr dX11_actEnd_1 flX11_10 cok_11 rfl (by decide) (?_ : RR _ _ _ _ 4 _ _ _ _)
      refine R_iload_n dX11_actEnd_4 rfl (?_ : RR _ _ _ _ 5 _ _ _ _)
      refine R_cVi1 dX11_actEnd_5 mvX7_at mlX11_436 (by decide) (by decide) (Nat.le_of_ble_eq_true rfl) (Nat.le_of_ble_eq_true rfl) (A1) (?_ : RR _ _ _ _ 8 _ _ _ _)
      refine R_look (t := 68) (off := 60) dX11_actEnd_8 (by decide) rfl rfl (?_ : RR _ _ _ _ 68 _ _ _ _)
      refine R_iload_n dX11_actEnd_68 rfl (?_ : RR _ _ _ _ 69 _ _ _ _)
      refine R_iconst dX11_actEnd_69 (?_ : RR _ _ _ _ 70 _ _ _ _)
      refine R_iadd dX11_actEnd_70 (?_ : RR _ _ _ _ 71 _ _ _ _)
      exact R_ireturn dX11_actEnd_71 trivial hQ
    · rw [q1] at A1
      refine R_aload_n dX11_actEnd_0 rfl (?_ : RR _ _ _ _ 1 _ _ _ _)
      refine R_getr dX11_actEnd_1 flX11_10 cok_11 rfl (by decide) (?_ : RR _ _ _ _ 4 _ _ _ _)
      refine R_iload_n dX11_actEnd_4 rfl (?_ : RR _ _ _ _ 5 _ _ _ _)
      refine R_cVi1 dX11_actEnd_5 mvX7_at mlX11_436 (by decide) (by decide) (Nat.le_of_ble_eq_true rfl) (Nat.le_of_ble_eq_true rfl) (A1) (?_ : RR _ _ _ _ 8 _ _ _ _)
      refine R_look (t := 68) (off := 60) dX11_actEnd_8 (by decide) rfl rfl (?_ : RR _ _ _ _ 68 _ _ _ _)
      refine R_iload_n dX11_actEnd_68 rfl (?_ : RR _ _ _ _ 69 _ _ _ _)
      refine R_iconst dX11_actEnd_69 (?_ : RR _ _ _ _ 70 _ _ _ _)
      refine R_iadd dX11_actEnd_70 (?_ : RR _ _ _ _ 71 _ _ _ _)
      exact R_ireturn dX11_actEnd_71 trivial hQ
  · rw [if_neg q1] at hQ
    by_cases q2 : σ p = 120 ∨ σ p = 115
    · rw [if_pos q2] at hQ
      by_cases y : 48 ≤ σ (p + 1) ∧ σ (p + 1) ≤ 57
      · rw [if_pos y] at hQ
        rw [if_pos (by omega)] at D1
        have hQ : Q (some (pI ((p : Int) + 2))) (shp0, rf0, h) := hQ
        generalize σ (p + 1) = s1 at *
        rcases q2 with q1 | q1
        · rw [q1] at A1
          refine R_aload_n dX11_actEnd_0 rfl (?_ : RR _ _ _ _ 1 _ _ _ _)
          refine R_getr dX11_actEnd_1 flX11_10 cok_11 rfl (by decide) (?_ : RR _ _ _ _ 4 _ _ _ _)
          refine R_iload_n dX11_actEnd_4 rfl (?_ : RR _ _ _ _ 5 _ _ _ _)
          refine R_cVi1 dX11_actEnd_5 mvX7_at mlX11_436 (by decide) (by decide) (Nat.le_of_ble_eq_true rfl) (Nat.le_of_ble_eq_true rfl) (A1) (?_ : RR _ _ _ _ 8 _ _ _ _)
          refine R_look (t := 72) (off := 64) dX11_actEnd_8 (by decide) rfl rfl (?_ : RR _ _ _ _ 72 _ _ _ _)
          refine R_aload_n dX11_actEnd_72 rfl (?_ : RR _ _ _ _ 73 _ _ _ _)
          refine R_getr dX11_actEnd_73 flX11_10 cok_11 rfl (by decide) (?_ : RR _ _ _ _ 76 _ _ _ _)
          refine R_iload_n dX11_actEnd_76 rfl (?_ : RR _ _ _ _ 77 _ _ _ _)
          refine R_iconst dX11_actEnd_77 (?_ : RR _ _ _ _ 78 _ _ _ _)
          refine R_iadd dX11_actEnd_78 (?_ : RR _ _ _ _ 79 _ _ _ _)
          refine R_cVi1 dX11_actEnd_79 mvX7_digitAt mlX11_445 (by decide) (by decide) (Nat.le_of_ble_eq_true rfl) (Nat.le_of_ble_eq_true rfl) (D1) (?_ : RR _ _ _ _ 82 _ _ _ _)
          refine R_iconst dX11_actEnd_82 (?_ : RR _ _ _ _ 83 _ _ _ _)
          refine R_icmp_ne (t := 93) dX11_actEnd_83 rfl (fun c83 => ?_) (fun c83 => ?_)
          rotate_left
          · exfalso; omega
          refine R_iload_n dX11_actEnd_93 rfl (?_ : RR _ _ _ _ 94 _ _ _ _)
          refine R_iconst dX11_actEnd_94 (?_ : RR _ _ _ _ 95 _ _ _ _)
          refine R_iadd dX11_actEnd_95 (?_ : RR _ _ _ _ 96 _ _ _ _)
          exact R_ireturn dX11_actEnd_96 trivial hQ
        · rw [q1] at A1
          refine R_aload_n dX11_actEnd_0 rfl (?_ : RR _ _ _ _ 1 _ _ _ _)
          refine R_getr dX11_actEnd_1 flX11_10 cok_11 rfl (by decide) (?_ : RR _ _ _ _ 4 _ _ _ _)
          refine R_iload_n dX11_actEnd_4 rfl (?_ : RR _ _ _ _ 5 _ _ _ _)
          refine R_cVi1 dX11_actEnd_5 mvX7_at mlX11_436 (by decide) (by decide) (Nat.le_of_ble_eq_true rfl) (Nat.le_of_ble_eq_true rfl) (A1) (?_ : RR _ _ _ _ 8 _ _ _ _)
          refine R_look (t := 72) (off := 64) dX11_actEnd_8 (by decide) rfl rfl (?_ : RR _ _ _ _ 72 _ _ _ _)
          refine R_aload_n dX11_actEnd_72 rfl (?_ : RR _ _ _ _ 73 _ _ _ _)
          refine R_getr dX11_actEnd_73 flX11_10 cok_11 rfl (by decide) (?_ : RR _ _ _ _ 76 _ _ _ _)
          refine R_iload_n dX11_actEnd_76 rfl (?_ : RR _ _ _ _ 77 _ _ _ _)
          refine R_iconst dX11_actEnd_77 (?_ : RR _ _ _ _ 78 _ _ _ _)
          refine R_iadd dX11_actEnd_78 (?_ : RR _ _ _ _ 79 _ _ _ _)
          refine R_cVi1 dX11_actEnd_79 mvX7_digitAt mlX11_445 (by decide) (by decide) (Nat.le_of_ble_eq_true rfl) (Nat.le_of_ble_eq_true rfl) (D1) (?_ : RR _ _ _ _ 82 _ _ _ _)
          refine R_iconst dX11_actEnd_82 (?_ : RR _ _ _ _ 83 _ _ _ _)
          refine R_icmp_ne (t := 93) dX11_actEnd_83 rfl (fun c83 => ?_) (fun c83 => ?_)
          rotate_left
          · exfalso; omega
          refine R_iload_n dX11_actEnd_93 rfl (?_ : RR _ _ _ _ 94 _ _ _ _)
          refine R_iconst dX11_actEnd_94 (?_ : RR _ _ _ _ 95 _ _ _ _)
          refine R_iadd dX11_actEnd_95 (?_ : RR _ _ _ _ 96 _ _ _ _)
          exact R_ireturn dX11_actEnd_96 trivial hQ
      · rw [if_neg y] at hQ
        rw [if_neg (by omega)] at D1
        have hQ : Q (some (pI (-1 - ((p + 1 : Nat) : Int)))) (shp0, rf0, h) := hQ
        rw [show (-1 : Int) - ((p + 1 : Nat) : Int) = -2 - (p : Int) by omega] at hQ
        rcases q2 with q1 | q1
        · rw [q1] at A1
          refine R_aload_n dX11_actEnd_0 rfl (?_ : RR _ _ _ _ 1 _ _ _ _)
          refine R_getr dX11_actEnd_1 flX11_10 cok_11 rfl (by decide) (?_ : RR _ _ _ _ 4 _ _ _ _)
          refine R_iload_n dX11_actEnd_4 rfl (?_ : RR _ _ _ _ 5 _ _ _ _)
          refine R_cVi1 dX11_actEnd_5 mvX7_at mlX11_436 (by decide) (by decide) (Nat.le_of_ble_eq_true rfl) (Nat.le_of_ble_eq_true rfl) (A1) (?_ : RR _ _ _ _ 8 _ _ _ _)
          refine R_look (t := 72) (off := 64) dX11_actEnd_8 (by decide) rfl rfl (?_ : RR _ _ _ _ 72 _ _ _ _)
          refine R_aload_n dX11_actEnd_72 rfl (?_ : RR _ _ _ _ 73 _ _ _ _)
          refine R_getr dX11_actEnd_73 flX11_10 cok_11 rfl (by decide) (?_ : RR _ _ _ _ 76 _ _ _ _)
          refine R_iload_n dX11_actEnd_76 rfl (?_ : RR _ _ _ _ 77 _ _ _ _)
          refine R_iconst dX11_actEnd_77 (?_ : RR _ _ _ _ 78 _ _ _ _)
          refine R_iadd dX11_actEnd_78 (?_ : RR _ _ _ _ 79 _ _ _ _)
          refine R_cVi1 dX11_actEnd_79 mvX7_digitAt mlX11_445 (by decide) (by decide) (Nat.le_of_ble_eq_true rfl) (Nat.le_of_ble_eq_true rfl) (D1) (?_ : RR _ _ _ _ 82 _ _ _ _)
          refine R_iconst dX11_actEnd_82 (?_ : RR _ _ _ _ 83 _ _ _ _)
          refine R_icmp_ne (t := 93) dX11_actEnd_83 rfl (fun c83 => ?_) (fun c83 => ?_)
          · exfalso; omega
          refine R_bipush dX11_actEnd_86 rfl (?_ : RR _ _ _ _ 88 _ _ _ _)
          refine R_iload_n dX11_actEnd_88 rfl (?_ : RR _ _ _ _ 89 _ _ _ _)
          refine R_isub dX11_actEnd_89 (?_ : RR _ _ _ _ 90 _ _ _ _)
          refine R_goto (t := 96) dX11_actEnd_90 rfl (?_ : RR _ _ _ _ 96 _ _ _ _)
          exact R_ireturn dX11_actEnd_96 trivial hQ
        · rw [q1] at A1
          refine R_aload_n dX11_actEnd_0 rfl (?_ : RR _ _ _ _ 1 _ _ _ _)
          refine R_getr dX11_actEnd_1 flX11_10 cok_11 rfl (by decide) (?_ : RR _ _ _ _ 4 _ _ _ _)
          refine R_iload_n dX11_actEnd_4 rfl (?_ : RR _ _ _ _ 5 _ _ _ _)
          refine R_cVi1 dX11_actEnd_5 mvX7_at mlX11_436 (by decide) (by decide) (Nat.le_of_ble_eq_true rfl) (Nat.le_of_ble_eq_true rfl) (A1) (?_ : RR _ _ _ _ 8 _ _ _ _)
          refine R_look (t := 72) (off := 64) dX11_actEnd_8 (by decide) rfl rfl (?_ : RR _ _ _ _ 72 _ _ _ _)
          refine R_aload_n dX11_actEnd_72 rfl (?_ : RR _ _ _ _ 73 _ _ _ _)
          refine R_getr dX11_actEnd_73 flX11_10 cok_11 rfl (by decide) (?_ : RR _ _ _ _ 76 _ _ _ _)
          refine R_iload_n dX11_actEnd_76 rfl (?_ : RR _ _ _ _ 77 _ _ _ _)
          refine R_iconst dX11_actEnd_77 (?_ : RR _ _ _ _ 78 _ _ _ _)
          refine R_iadd dX11_actEnd_78 (?_ : RR _ _ _ _ 79 _ _ _ _)
          refine R_cVi1 dX11_actEnd_79 mvX7_digitAt mlX11_445 (by decide) (by decide) (Nat.le_of_ble_eq_true rfl) (Nat.le_of_ble_eq_true rfl) (D1) (?_ : RR _ _ _ _ 82 _ _ _ _)
          refine R_iconst dX11_actEnd_82 (?_ : RR _ _ _ _ 83 _ _ _ _)
          refine R_icmp_ne (t := 93) dX11_actEnd_83 rfl (fun c83 => ?_) (fun c83 => ?_)
          · exfalso; omega
          refine R_bipush dX11_actEnd_86 rfl (?_ : RR _ _ _ _ 88 _ _ _ _)
          refine R_iload_n dX11_actEnd_88 rfl (?_ : RR _ _ _ _ 89 _ _ _ _)
          refine R_isub dX11_actEnd_89 (?_ : RR _ _ _ _ 90 _ _ _ _)
          refine R_goto (t := 96) dX11_actEnd_90 rfl (?_ : RR _ _ _ _ 96 _ _ _ _)
          exact R_ireturn dX11_actEnd_96 trivial hQ
    · rw [if_neg q2] at hQ
      by_cases q3 : σ p = 103 ∨ σ p = 119
      · rw [if_pos q3] at hQ
        rcases q3 with q3 | q3
        · rw [q3] at A1
          have e : (if naF σ p then (if 48 ≤ σ (p + 2) ∧ σ (p + 2) ≤ 57 then (p + 3, true) else (p + 2, false)) else (p + 1, false)) = (if (if 0 ≤ σ (p + 1) - 48 ∧ σ (p + 1) - 48 < 2 then σ (p + 1) - 48 else -1) ≠ -1 then (if 48 ≤ σ (p + 2) ∧ σ (p + 2) ≤ 57 then (p + 3, true) else (p + 2, false)) else (p + 1, false)) := by
            by_cases y : 0 ≤ σ (p + 1) - 48 ∧ σ (p + 1) - 48 < 2
            · rw [if_pos (show naF σ p from Or.inl ⟨q3, by omega, by omega⟩), if_pos y, if_pos (show σ ((p : Int) + 1) - 48 ≠ -1 by omega)]
            · rw [if_neg (show ¬ naF σ p from fun w => by rcases w with w | w <;> omega), if_neg y, if_neg (show ¬ ((-1 : Int) ≠ -1) by omega)]
          rw [e] at hQ
          generalize (if 0 ≤ σ (p + 1) - 48 ∧ σ (p + 1) - 48 < 2 then σ (p + 1) - 48 else -1) = z at *
          generalize naZ (if z ≠ -1 then (if 48 ≤ σ (p + 2) ∧ σ (p + 2) ≤ 57 then (p + 3, true) else (p + 2, false)) else (p + 1, false)) = y at *
          refine R_aload_n dX11_actEnd_0 rfl (?_ : RR _ _ _ _ 1 _ _ _ _)
          refine R_getr dX11_actEnd_1 flX11_10 cok_11 rfl (by decide) (?_ : RR _ _ _ _ 4 _ _ _ _)
          refine R_iload_n dX11_actEnd_4 rfl (?_ : RR _ _ _ _ 5 _ _ _ _)
          refine R_cVi1 dX11_actEnd_5 mvX7_at mlX11_436 (by decide) (by decide) (Nat.le_of_ble_eq_true rfl) (Nat.le_of_ble_eq_true rfl) (A1) (?_ : RR _ _ _ _ 8 _ _ _ _)
          refine R_look (t := 97) (off := 89) dX11_actEnd_8 (by decide) rfl rfl (?_ : RR _ _ _ _ 97 _ _ _ _)
          refine R_aload_n dX11_actEnd_97 rfl (?_ : RR _ _ _ _ 98 _ _ _ _)
          refine R_iload_n dX11_actEnd_98 rfl (?_ : RR _ _ _ _ 99 _ _ _ _)
          refine R_aload_n dX11_actEnd_99 rfl (?_ : RR _ _ _ _ 100 _ _ _ _)
          refine R_getr dX11_actEnd_100 flX11_10 cok_11 rfl (by decide) (?_ : RR _ _ _ _ 103 _ _ _ _)
          refine R_iload_n dX11_actEnd_103 rfl (?_ : RR _ _ _ _ 104 _ _ _ _)
          refine R_iconst dX11_actEnd_104 (?_ : RR _ _ _ _ 105 _ _ _ _)
          refine R_iadd dX11_actEnd_105 (?_ : RR _ _ _ _ 106 _ _ _ _)
          refine R_bipush dX11_actEnd_106 rfl (?_ : RR _ _ _ _ 108 _ _ _ _)
          refine R_iconst dX11_actEnd_108 (?_ : RR _ _ _ _ 109 _ _ _ _)
          refine R_cVi3 dX11_actEnd_109 mvX7_numberAt mlX11_132 (by decide) (by decide) (Nat.le_of_ble_eq_true rfl) (Nat.le_of_ble_eq_true rfl) (N1) (?_ : RR _ _ _ _ 112 _ _ _ _)
          refine R_cVi2 dX11_actEnd_112 mvX11_actEndBehind mlX11_448 (by decide) (by decide) (Nat.le_of_ble_eq_true rfl) (Nat.le_of_ble_eq_true rfl) (B1) (?_ : RR _ _ _ _ 115 _ _ _ _)
          exact R_ireturn dX11_actEnd_115 trivial hQ
        · rw [q3] at A1
          have e : (if naF σ p then (if 48 ≤ σ (p + 2) ∧ σ (p + 2) ≤ 57 then (p + 3, true) else (p + 2, false)) else (p + 1, false)) = (if (if 0 ≤ σ (p + 1) - 97 ∧ σ (p + 1) - 97 < 12 then σ (p + 1) - 97 else -1) ≠ -1 then (if 48 ≤ σ (p + 2) ∧ σ (p + 2) ≤ 57 then (p + 3, true) else (p + 2, false)) else (p + 1, false)) := by
            by_cases y : 0 ≤ σ (p + 1) - 97 ∧ σ (p + 1) - 97 < 12
            · rw [if_pos (show naF σ p from Or.inr ⟨q3, by omega, by omega⟩), if_pos y, if_pos (show σ ((p : Int) + 1) - 97 ≠ -1 by omega)]
            · rw [if_neg (show ¬ naF σ p from fun w => by rcases w with w | w <;> omega), if_neg y, if_neg (show ¬ ((-1 : Int) ≠ -1) by omega)]
          rw [e] at hQ
          generalize (if 0 ≤ σ (p + 1) - 97 ∧ σ (p + 1) - 97 < 12 then σ (p + 1) - 97 else -1) = z at *
          generalize naZ (if z ≠ -1 then (if 48 ≤ σ (p + 2) ∧ σ (p + 2) ≤ 57 then (p + 3, true) else (p + 2, false)) else (p + 1, false)) = y at *
          refine R_aload_n dX11_actEnd_0 rfl (?_ : RR _ _ _ _ 1 _ _ _ _)
          refine R_getr dX11_actEnd_1 flX11_10 cok_11 rfl (by decide) (?_ : RR _ _ _ _ 4 _ _ _ _)
          refine R_iload_n dX11_actEnd_4 rfl (?_ : RR _ _ _ _ 5 _ _ _ _)
          refine R_cVi1 dX11_actEnd_5 mvX7_at mlX11_436 (by decide) (by decide) (Nat.le_of_ble_eq_true rfl) (Nat.le_of_ble_eq_true rfl) (A1) (?_ : RR _ _ _ _ 8 _ _ _ _)
          refine R_look (t := 116) (off := 108) dX11_actEnd_8 (by decide) rfl rfl (?_ : RR _ _ _ _ 116 _ _ _ _)
          refine R_aload_n dX11_actEnd_116 rfl (?_ : RR _ _ _ _ 117 _ _ _ _)
          refine R_iload_n dX11_actEnd_117 rfl (?_ : RR _ _ _ _ 118 _ _ _ _)
          refine R_aload_n dX11_actEnd_118 rfl (?_ : RR _ _ _ _ 119 _ _ _ _)
          refine R_getr dX11_actEnd_119 flX11_10 cok_11 rfl (by decide) (?_ : RR _ _ _ _ 122 _ _ _ _)
          refine R_iload_n dX11_actEnd_122 rfl (?_ : RR _ _ _ _ 123 _ _ _ _)
          refine R_iconst dX11_actEnd_123 (?_ : RR _ _ _ _ 124 _ _ _ _)
          refine R_iadd dX11_actEnd_124 (?_ : RR _ _ _ _ 125 _ _ _ _)
          refine R_bipush dX11_actEnd_125 rfl (?_ : RR _ _ _ _ 127 _ _ _ _)
          refine R_bipush dX11_actEnd_127 rfl (?_ : RR _ _ _ _ 129 _ _ _ _)
          refine R_cVi3 dX11_actEnd_129 mvX7_numberAt mlX11_132 (by decide) (by decide) (Nat.le_of_ble_eq_true rfl) (Nat.le_of_ble_eq_true rfl) (N2) (?_ : RR _ _ _ _ 132 _ _ _ _)
          refine R_cVi2 dX11_actEnd_132 mvX11_actEndBehind mlX11_448 (by decide) (by decide) (Nat.le_of_ble_eq_true rfl) (Nat.le_of_ble_eq_true rfl) (B2) (?_ : RR _ _ _ _ 135 _ _ _ _)
          exact R_ireturn dX11_actEnd_135 trivial hQ
      · rw [if_neg q3] at hQ
        have hQ : Q (some (pI (-1 - (p : Int)))) (shp0, rf0, h) := hQ
        refine R_aload_n dX11_actEnd_0 rfl (?_ : RR _ _ _ _ 1 _ _ _ _)
        refine R_getr dX11_actEnd_1 flX11_10 cok_11 rfl (by decide) (?_ : RR _ _ _ _ 4 _ _ _ _)
        refine R_iload_n dX11_actEnd_4 rfl (?_ : RR _ _ _ _ 5 _ _ _ _)
        refine R_cVi1 dX11_actEnd_5 mvX7_at mlX11_436 (by decide) (by decide) (Nat.le_of_ble_eq_true rfl) (Nat.le_of_ble_eq_true rfl) (A1) (?_ : RR _ _ _ _ 8 _ _ _ _)
        refine R_look (t := 136) (off := 128) dX11_actEnd_8 (by decide) (look_d (by omega) (by omega) (by omega) (by omega) (by omega) (by omega)) rfl (?_ : RR _ _ _ _ 136 _ _ _ _)
        refine R_iconst dX11_actEnd_136 (?_ : RR _ _ _ _ 137 _ _ _ _)
        refine R_iload_n dX11_actEnd_137 rfl (?_ : RR _ _ _ _ 138 _ _ _ _)
        refine R_isub dX11_actEnd_138 (?_ : RR _ _ _ _ 139 _ _ _ _)
        exact R_ireturn dX11_actEnd_139 trivial hQ
/-- behind k acts -/
def naR (σ : Int → Int) : Nat → Nat × Bool
  | 0 => (0, true)
  | k + 1 => naE σ (naR σ k).1
theorem naE_b {p : Nat} (hσn : ∀ p : Nat, b ≤ p → σ p = -1) (hp : p < b) : ((naE σ p).2 = true → p + 1 ≤ (naE σ p).1) ∧ (naE σ p).1 ≤ b ∧ (naE σ p).1 ≤ p + 3 := by
  have f : ∀ j : Nat, σ ((p : Int) + j) ≠ -1 → p + j < b := fun j hj => by
    by_cases z : p + j < b
    · exact z
    · exact absurd (hσn (p + j) (by omega)) (by rw [show ((p + j : Nat) : Int) = (p : Int) + j by omega]; exact hj)
  have f1 : σ ((p : Int) + 1) ≠ -1 → p + 1 < b := f 1
  have f2 : σ ((p : Int) + 2) ≠ -1 → p + 2 < b := f 2
  unfold naE
  split
  · exact ⟨fun _ => Nat.le_refl _, hp, by dsimp only; omega⟩
  · split
    · split
      · have := f1 (by omega)
        exact ⟨fun _ => by dsimp only; omega, this, by dsimp only; omega⟩
      · exact ⟨(fun w => by cases w), hp, by dsimp only; omega⟩
    · split
      · split
        · rename_i w
          have := f1 (by rcases w with w | w <;> omega)
          split
          · have := f2 (by omega)
            exact ⟨fun _ => by dsimp only; omega, this, by dsimp only; omega⟩
          · exact ⟨(fun w => by cases w), by dsimp only; omega, by dsimp only; omega⟩
        · exact ⟨(fun w => by cases w), hp, by dsimp only; omega⟩
      · exact ⟨(fun w => by cases w), Nat.le_of_lt hp, by dsimp only; omega⟩
/-- how many acts are read -/
theorem na_ex (hσn : ∀ p : Nat, b ≤ p → σ p = -1) (hb : b ≤ 60) : ∃ K : Nat, K ≤ b ∧ (∀ j, j < K → (naR σ j).2 = true ∧ (naR σ j).1 < b) ∧ ((naR σ K).2 = false ∨ (naR σ K).1 = b) ∧ (naR σ K).1 ≤ b := by
  have key : ∀ (m k : Nat), k + m = b + 1 → (∀ j, j < k → (naR σ j).2 = true ∧ (naR σ j).1 < b) → (naR σ k).1 ≤ b → ((naR σ k).2 = true → k ≤ (naR σ k).1) → k ≤ b → ∃ K : Nat, K ≤ b ∧ (∀ j, j < K → (naR σ j).2 = true ∧ (naR σ j).1 < b) ∧ ((naR σ K).2 = false ∨ (naR σ K).1 = b) ∧ (naR σ K).1 ≤ b := by
    intro m
    induction m with
    | zero => intro k hk _ _ _ h5; omega
    | succ m ih =>
      intro k hk h1 h2 h3 h5
      by_cases q : (naR σ k).2 = true ∧ (naR σ k).1 < b
      · have nb := naE_b (σ := σ) hσn q.2
        have h4 := h3 q.1
        refine ih (k + 1) (by omega) (fun j hj => ?_) nb.2.1 (fun w => ?_) (by omega)
        · by_cases z : j = k
          · rw [z]; exact q
          · exact h1 j (by omega)
        · have := nb.1 w
          show k + 1 ≤ (naE σ (naR σ k).1).1
          omega
      · refine ⟨k, h5, h1, ?_, h2⟩
        by_cases z : (naR σ k).2 = true
        · exact Or.inr (by have : ¬ (naR σ k).1 < b := fun w => q ⟨z, w⟩; omega)
        · exact Or.inl (Bool.eq_false_iff.mpr z)
  exact key (b + 1) 0 (by omega) (fun j hj => by omega) (Nat.zero_le b) (fun _ => Nat.le_refl 0) (Nat.zero_le b)
theorem T_X11_checkNight {K : Nat} (hσ : ∀ p : Int, 0 ≤ p → signAt h p = σ p) (hσb : ∀ p : Int, -1 ≤ σ p ∧ σ p ≤ 255) (h1n : h 1 1 = n) (h2b : h 1 2 = b) (hn80 : n ≤ 80) (hb60 : b ≤ 60) (hK : K ≤ b) (g1 : ∀ j, j < K → (naR σ j).2 = true ∧ (naR σ j).1 < b) (g2 : (naR σ K).2 = false ∨ (naR σ K).1 = b) (g3 : (naR σ K).1 ≤ b) : MT mX11_checkNight 5 [pR 0] h (some (pI (if (naR σ K).2 = true ∧ (naR σ K).1 = n then 0 else -1 - ((naR σ K).1 : Int)))) h := by
  refine MT.of (fun Q hQ => (?_ : RR mX11_checkNight _ _ _ _ [pR 0, pU, pU, pU] _ _ _))
  have key : ∀ (m k : Nat) (w : PV), k + m = K → (naR σ k).2 = true → RR mX11_checkNight 5 0 0 4 [pR 0, pI (naR σ k).1, pI k, w] [] (shp0, rf0, h) Q := by
    intro m
    induction m with
    | zero =>
      intro k w hk ho
      obtain rfl : k = K := by omega
      have gb : (naR σ k).1 = b := by rcases g2 with z | z; (· rw [ho] at z; cases z); (· exact z)
      rw [ho, gb] at hQ
      rw [gb]
      by_cases q : b = n
      · rw [if_pos ⟨rfl, q⟩] at hQ
        by_cases q6 : k < 60
        · refine R_iload_n dX11_checkNight_4 rfl (?_ : RR _ _ _ _ 5 _ _ _ _)
          refine R_bipush dX11_checkNight_5 rfl (?_ : RR _ _ _ _ 7 _ _ _ _)
          refine R_icmp_ge (t := 41) dX11_checkNight_7 rfl (fun c7 => ?_) (fun c7 => ?_)
          · exfalso; omega
          refine R_iload_n dX11_checkNight_10 rfl (?_ : RR _ _ _ _ 11 _ _ _ _)
          refine R_aload_n dX11_checkNight_11 rfl (?_ : RR _ _ _ _ 12 _ _ _ _)
          refine R_getr dX11_checkNight_12 flX11_10 cok_11 rfl (by decide) (?_ : RR _ _ _ _ 15 _ _ _ _)
          refine R_geti (z := 2) dX11_checkNight_15 flX11_442 cok_7 rfl (by decide) rfl (fun q15 => (?_ : RR _ _ _ _ 18 _ _ _ _))
          rw [h2b] at q15 ⊢
          refine R_icmp_ge (t := 41) dX11_checkNight_18 rfl (fun c18 => ?_) (fun c18 => ?_)
          rotate_left
          · exfalso; omega
          refine R_aload_n dX11_checkNight_41 rfl (?_ : RR _ _ _ _ 42 _ _ _ _)
          refine R_getr dX11_checkNight_42 flX11_10 cok_11 rfl (by decide) (?_ : RR _ _ _ _ 45 _ _ _ _)
          refine R_geti (z := 1) dX11_checkNight_45 flX11_91 cok_7 rfl (by decide) rfl (fun q45 => (?_ : RR _ _ _ _ 48 _ _ _ _))
          rw [h1n] at q45 ⊢
          refine R_iload_n dX11_checkNight_48 rfl (?_ : RR _ _ _ _ 49 _ _ _ _)
          refine R_icmp_ne (t := 56) dX11_checkNight_49 rfl (fun c49 => ?_) (fun c49 => ?_)
          · exfalso; omega
          refine R_iconst dX11_checkNight_52 (?_ : RR _ _ _ _ 53 _ _ _ _)
          refine R_goto (t := 59) dX11_checkNight_53 rfl (?_ : RR _ _ _ _ 59 _ _ _ _)
          exact R_ireturn dX11_checkNight_59 trivial hQ
        · refine R_iload_n dX11_checkNight_4 rfl (?_ : RR _ _ _ _ 5 _ _ _ _)
          refine R_bipush dX11_checkNight_5 rfl (?_ : RR _ _ _ _ 7 _ _ _ _)
          refine R_icmp_ge (t := 41) dX11_checkNight_7 rfl (fun c7 => ?_) (fun c7 => ?_)
          rotate_left
          · exfalso; omega
          refine R_aload_n dX11_checkNight_41 rfl (?_ : RR _ _ _ _ 42 _ _ _ _)
          refine R_getr dX11_checkNight_42 flX11_10 cok_11 rfl (by decide) (?_ : RR _ _ _ _ 45 _ _ _ _)
          refine R_geti (z := 1) dX11_checkNight_45 flX11_91 cok_7 rfl (by decide) rfl (fun q45 => (?_ : RR _ _ _ _ 48 _ _ _ _))
          rw [h1n] at q45 ⊢
          refine R_iload_n dX11_checkNight_48 rfl (?_ : RR _ _ _ _ 49 _ _ _ _)
          refine R_icmp_ne (t := 56) dX11_checkNight_49 rfl (fun c49 => ?_) (fun c49 => ?_)
          · exfalso; omega
          refine R_iconst dX11_checkNight_52 (?_ : RR _ _ _ _ 53 _ _ _ _)
          refine R_goto (t := 59) dX11_checkNight_53 rfl (?_ : RR _ _ _ _ 59 _ _ _ _)
          exact R_ireturn dX11_checkNight_59 trivial hQ
      · rw [if_neg (fun w => q w.2)] at hQ
        by_cases q6 : k < 60
        · refine R_iload_n dX11_checkNight_4 rfl (?_ : RR _ _ _ _ 5 _ _ _ _)
          refine R_bipush dX11_checkNight_5 rfl (?_ : RR _ _ _ _ 7 _ _ _ _)
          refine R_icmp_ge (t := 41) dX11_checkNight_7 rfl (fun c7 => ?_) (fun c7 => ?_)
          · exfalso; omega
          refine R_iload_n dX11_checkNight_10 rfl (?_ : RR _ _ _ _ 11 _ _ _ _)
          refine R_aload_n dX11_checkNight_11 rfl (?_ : RR _ _ _ _ 12 _ _ _ _)
          refine R_getr dX11_checkNight_12 flX11_10 cok_11 rfl (by decide) (?_ : RR _ _ _ _ 15 _ _ _ _)
          refine R_geti (z := 2) dX11_checkNight_15 flX11_442 cok_7 rfl (by decide) rfl (fun q15 => (?_ : RR _ _ _ _ 18 _ _ _ _))
          rw [h2b] at q15 ⊢
          refine R_icmp_ge (t := 41) dX11_checkNight_18 rfl (fun c18 => ?_) (fun c18 => ?_)
          rotate_left
          · exfalso; omega
          refine R_aload_n dX11_checkNight_41 rfl (?_ : RR _ _ _ _ 42 _ _ _ _)
          refine R_getr dX11_checkNight_42 flX11_10 cok_11 rfl (by decide) (?_ : RR _ _ _ _ 45 _ _ _ _)
          refine R_geti (z := 1) dX11_checkNight_45 flX11_91 cok_7 rfl (by decide) rfl (fun q45 => (?_ : RR _ _ _ _ 48 _ _ _ _))
          rw [h1n] at q45 ⊢
          refine R_iload_n dX11_checkNight_48 rfl (?_ : RR _ _ _ _ 49 _ _ _ _)
          refine R_icmp_ne (t := 56) dX11_checkNight_49 rfl (fun c49 => ?_) (fun c49 => ?_)
          rotate_left
          · exfalso; omega
          refine R_iconst dX11_checkNight_56 (?_ : RR _ _ _ _ 57 _ _ _ _)
          refine R_iload_n dX11_checkNight_57 rfl (?_ : RR _ _ _ _ 58 _ _ _ _)
          refine R_isub dX11_checkNight_58 (?_ : RR _ _ _ _ 59 _ _ _ _)
          exact R_ireturn dX11_checkNight_59 trivial hQ
        · refine R_iload_n dX11_checkNight_4 rfl (?_ : RR _ _ _ _ 5 _ _ _ _)
          refine R_bipush dX11_checkNight_5 rfl (?_ : RR _ _ _ _ 7 _ _ _ _)
          refine R_icmp_ge (t := 41) dX11_checkNight_7 rfl (fun c7 => ?_) (fun c7 => ?_)
          rotate_left
          · exfalso; omega
          refine R_aload_n dX11_checkNight_41 rfl (?_ : RR _ _ _ _ 42 _ _ _ _)
          refine R_getr dX11_checkNight_42 flX11_10 cok_11 rfl (by decide) (?_ : RR _ _ _ _ 45 _ _ _ _)
          refine R_geti (z := 1) dX11_checkNight_45 flX11_91 cok_7 rfl (by decide) rfl (fun q45 => (?_ : RR _ _ _ _ 48 _ _ _ _))
          rw [h1n] at q45 ⊢
          refine R_iload_n dX11_checkNight_48 rfl (?_ : RR _ _ _ _ 49 _ _ _ _)
          refine R_icmp_ne (t := 56) dX11_checkNight_49 rfl (fun c49 => ?_) (fun c49 => ?_)
          rotate_left
          · exfalso; omega
          refine R_iconst dX11_checkNight_56 (?_ : RR _ _ _ _ 57 _ _ _ _)
          refine R_iload_n dX11_checkNight_57 rfl (?_ : RR _ _ _ _ 58 _ _ _ _)
          refine R_isub dX11_checkNight_58 (?_ : RR _ _ _ _ 59 _ _ _ _)
          exact R_ireturn dX11_checkNight_59 trivial hQ
    | succ m ih =>
      intro k w hk ho
      have hl := (g1 k (by omega)).2
      have hT := T_X11_actEnd (h := h) (p := (naR σ k).1) hσ hσb (by omega)
      have e : naE σ (naR σ k).1 = naR σ (k + 1) := rfl
      have hb1 : (naR σ (k + 1)).1 ≤ b := by
        by_cases y : k + 1 < K
        · have := (g1 (k + 1) y).2; omega
        · rw [show k + 1 = K by omega]; exact g3
      rw [e] at hT
      have IH := ih (k + 1)
      clear ih
      by_cases z : (naR σ (k + 1)).2 = true
      · rw [show naZ (naR σ (k + 1)) = ((naR σ (k + 1)).1 : Int) from if_pos z] at hT
        have K2 := IH (pI (naR σ (k + 1)).1) (by omega) z
        rw [show ((k + 1 : Nat) : Int) = (k : Int) + 1 by omega] at K2
        clear IH
        generalize naR σ (k + 1) = x1 at *
        generalize naR σ k = x0 at *
        refine R_iload_n dX11_checkNight_4 rfl (?_ : RR _ _ _ _ 5 _ _ _ _)
        refine R_bipush dX11_checkNight_5 rfl (?_ : RR _ _ _ _ 7 _ _ _ _)
        refine R_icmp_ge (t := 41) dX11_checkNight_7 rfl (fun c7 => ?_) (fun c7 => ?_)
        · exfalso; omega
        refine R_iload_n dX11_checkNight_10 rfl (?_ : RR _ _ _ _ 11 _ _ _ _)
        refine R_aload_n dX11_checkNight_11 rfl (?_ : RR _ _ _ _ 12 _ _ _ _)
        refine R_getr dX11_checkNight_12 flX11_10 cok_11 rfl (by decide) (?_ : RR _ _ _ _ 15 _ _ _ _)
        refine R_geti (z := 2) dX11_checkNight_15 flX11_442 cok_7 rfl (by decide) rfl (fun q15 => (?_ : RR _ _ _ _ 18 _ _ _ _))
        rw [h2b] at q15 ⊢
        refine R_icmp_ge (t := 41) dX11_checkNight_18 rfl (fun c18 => ?_) (fun c18 => ?_)
        · exfalso; omega
        refine R_aload_n dX11_checkNight_21 rfl (?_ : RR _ _ _ _ 22 _ _ _ _)
        refine R_iload_n dX11_checkNight_22 rfl (?_ : RR _ _ _ _ 23 _ _ _ _)
        refine R_cVi1 dX11_checkNight_23 mvX11_actEnd mlX11_278 (by decide) (by decide) (Nat.le_of_ble_eq_true rfl) (Nat.le_of_ble_eq_true rfl) (hT) (?_ : RR _ _ _ _ 26 _ _ _ _)
        refine R_istore_n dX11_checkNight_26 (Nat.le_of_ble_eq_true rfl) (?_ : RR _ _ _ _ 27 [_, _, _, _] _ _ _)
        refine R_iload_n dX11_checkNight_27 rfl (?_ : RR _ _ _ _ 28 _ _ _ _)
        refine R_if_ge (t := 33) dX11_checkNight_28 rfl (fun c28 => ?_) (fun c28 => ?_)
        rotate_left
        · exfalso; omega
        refine R_iload_n dX11_checkNight_33 rfl (?_ : RR _ _ _ _ 34 _ _ _ _)
        refine R_istore_n dX11_checkNight_34 (Nat.le_of_ble_eq_true rfl) (?_ : RR _ _ _ _ 35 [_, _, _, _] _ _ _)
        refine R_iinc dX11_checkNight_35 rfl (Nat.le_of_ble_eq_true rfl) (?_ : RR _ _ _ _ 38 [_, _, _, _] _ _ _)
        refine R_goto (t := 4) dX11_checkNight_38 rfl (?_ : RR _ _ _ _ 4 _ _ _ _)
        exact K2
      · rw [show naZ (naR σ (k + 1)) = -1 - ((naR σ (k + 1)).1 : Int) from if_neg z] at hT
        have ek : k + 1 = K := by
          by_cases y : k + 1 < K
          · exact absurd (g1 (k + 1) y).1 z
          · omega
        rw [ek] at hT z
        rw [if_neg (fun w => z w.1)] at hQ
        clear IH
        generalize naR σ K = x1 at *
        generalize naR σ k = x0 at *
        refine R_iload_n dX11_checkNight_4 rfl (?_ : RR _ _ _ _ 5 _ _ _ _)
        refine R_bipush dX11_checkNight_5 rfl (?_ : RR _ _ _ _ 7 _ _ _ _)
        refine R_icmp_ge (t := 41) dX11_checkNight_7 rfl (fun c7 => ?_) (fun c7 => ?_)
        · exfalso; omega
        refine R_iload_n dX11_checkNight_10 rfl (?_ : RR _ _ _ _ 11 _ _ _ _)
        refine R_aload_n dX11_checkNight_11 rfl (?_ : RR _ _ _ _ 12 _ _ _ _)
        refine R_getr dX11_checkNight_12 flX11_10 cok_11 rfl (by decide) (?_ : RR _ _ _ _ 15 _ _ _ _)
        refine R_geti (z := 2) dX11_checkNight_15 flX11_442 cok_7 rfl (by decide) rfl (fun q15 => (?_ : RR _ _ _ _ 18 _ _ _ _))
        rw [h2b] at q15 ⊢
        refine R_icmp_ge (t := 41) dX11_checkNight_18 rfl (fun c18 => ?_) (fun c18 => ?_)
        · exfalso; omega
        refine R_aload_n dX11_checkNight_21 rfl (?_ : RR _ _ _ _ 22 _ _ _ _)
        refine R_iload_n dX11_checkNight_22 rfl (?_ : RR _ _ _ _ 23 _ _ _ _)
        refine R_cVi1 dX11_checkNight_23 mvX11_actEnd mlX11_278 (by decide) (by decide) (Nat.le_of_ble_eq_true rfl) (Nat.le_of_ble_eq_true rfl) (hT) (?_ : RR _ _ _ _ 26 _ _ _ _)
        refine R_istore_n dX11_checkNight_26 (Nat.le_of_ble_eq_true rfl) (?_ : RR _ _ _ _ 27 [_, _, _, _] _ _ _)
        refine R_iload_n dX11_checkNight_27 rfl (?_ : RR _ _ _ _ 28 _ _ _ _)
        refine R_if_ge (t := 33) dX11_checkNight_28 rfl (fun c28 => ?_) (fun c28 => ?_)
        · exfalso; omega
        refine R_iload_n dX11_checkNight_31 rfl (?_ : RR _ _ _ _ 32 _ _ _ _)
        exact R_ireturn dX11_checkNight_32 trivial hQ
  have K0 := key K 0 pU (by omega) rfl
  have K0 : RR mX11_checkNight 5 0 0 4 [pR 0, pI 0, pI 0, pU] [] (shp0, rf0, h) Q := K0
  clear key
  refine R_iconst dX11_checkNight_0 (?_ : RR _ _ _ _ 1 _ _ _ _)
  refine R_istore_n dX11_checkNight_1 (Nat.le_of_ble_eq_true rfl) (?_ : RR _ _ _ _ 2 [_, _, _, _] _ _ _)
  refine R_iconst dX11_checkNight_2 (?_ : RR _ _ _ _ 3 _ _ _ _)
  refine R_istore_n dX11_checkNight_3 (Nat.le_of_ble_eq_true rfl) (?_ : RR _ _ _ _ 4 [_, _, _, _] _ _ _)
  exact K0
end NI1
