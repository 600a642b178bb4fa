section NE4
variable {k : Nat} {h h1 h2 h3 h4 : Nat → Int → Int} {sem : Sem} {H n b : Nat} {σ : Int → Int}
/-- the loop over the exits -/
theorem RD_29 {Q : Option PV → PH → Prop} (hσ : ∀ p : Int, 0 ≤ p → signAt h p = σ p) (hσb : ∀ p : Int, -1 ≤ σ p ∧ σ p ≤ 255) (h1n : h 1 1 = n) (hn80 : n ≤ 80) (hH9 : 1 ≤ H ∧ H ≤ 9) (hfl : ∀ h2, nrF h h2 H → ((neR σ H (2 * H)).2 = false ∨ (neR σ H (2 * H)).1 ≠ n) → Q (some (pI (-1 - ((neR σ H (2 * H)).1 : Int)))) (shp0, rf0, h2)) (hon : ∀ h2, nrF h h2 H → nrE σ H (2 * H) h2 → (neR σ H (2 * H)).2 = true → (neR σ H (2 * H)).1 = n → Q (some (pI H)) (shp0, rf0, h2)) : ∀ (j e : Nat) (h1 : Nat → Int → Int), e + j = 2 * H → nrF h h1 H → nrE σ H e h1 → (neR σ H e).2 = true → RR mX0_read 3 0 0 29 [pR 7, pR 1, pI H, pI ((neR σ H e).1 : Nat), pI e] [] (shp0, rf0, h1) Q := by
  intro j
  induction j with
  | zero =>
    intro e h1 he hf hE ho
    obtain rfl : e = 2 * H := by omega
    have g1 : h1 1 1 = n := by rw [hf.1 1 (by omega) (by omega) (by omega)]; exact h1n
    have hb := neR_b (σ := σ) (H := H) (e := 2 * H)
    have K1 := hfl h1 hf
    have K2 := hon h1 hf hE ho
    generalize neR σ H (2 * H) = x at *
    by_cases z : x.1 = n
    · have K := K2 z
      refine R_iload dX0_read_29 rfl (?_ : RR _ _ _ _ 31 _ _ _ _)
      refine R_iconst dX0_read_31 (?_ : RR _ _ _ _ 32 _ _ _ _)
      refine R_iload_n dX0_read_32 rfl (?_ : RR _ _ _ _ 33 _ _ _ _)
      refine R_imul dX0_read_33 (?_ : RR _ _ _ _ 34 _ _ _ _)
      refine R_icmp_ge (t := 92) dX0_read_34 rfl (fun c34 => ?_) (fun c34 => ?_)
      rotate_left
      · exfalso; omega
      refine R_aload_n dX0_read_92 rfl (?_ : RR _ _ _ _ 93 _ _ _ _)
      refine R_geti (z := 1) dX0_read_93 flX0_45 cok_7 rfl (by decide) rfl (fun q93 => (?_ : RR _ _ _ _ 96 _ _ _ _))
      rw [g1] at q93 ⊢
      refine R_iload_n dX0_read_96 rfl (?_ : RR _ _ _ _ 97 _ _ _ _)
      refine R_icmp_ne (t := 104) dX0_read_97 rfl (fun c97 => ?_) (fun c97 => ?_)
      · exfalso; omega
      refine R_iload_n dX0_read_100 rfl (?_ : RR _ _ _ _ 101 _ _ _ _)
      refine R_goto (t := 107) dX0_read_101 rfl (?_ : RR _ _ _ _ 107 _ _ _ _)
      exact R_ireturn dX0_read_107 trivial K
    · have K := K1 (Or.inr z)
      refine R_iload dX0_read_29 rfl (?_ : RR _ _ _ _ 31 _ _ _ _)
      refine R_iconst dX0_read_31 (?_ : RR _ _ _ _ 32 _ _ _ _)
      refine R_iload_n dX0_read_32 rfl (?_ : RR _ _ _ _ 33 _ _ _ _)
      refine R_imul dX0_read_33 (?_ : RR _ _ _ _ 34 _ _ _ _)
      refine R_icmp_ge (t := 92) dX0_read_34 rfl (fun c34 => ?_) (fun c34 => ?_)
      rotate_left
      · exfalso; omega
      refine R_aload_n dX0_read_92 rfl (?_ : RR _ _ _ _ 93 _ _ _ _)
      refine R_geti (z := 1) dX0_read_93 flX0_45 cok_7 rfl (by decide) rfl (fun q93 => (?_ : RR _ _ _ _ 96 _ _ _ _))
      rw [g1] at q93 ⊢
      refine R_iload_n dX0_read_96 rfl (?_ : RR _ _ _ _ 97 _ _ _ _)
      refine R_icmp_ne (t := 104) dX0_read_97 rfl (fun c97 => ?_) (fun c97 => ?_)
      rotate_left
      · exfalso; omega
      refine R_iconst dX0_read_104 (?_ : RR _ _ _ _ 105 _ _ _ _)
      refine R_iload_n dX0_read_105 rfl (?_ : RR _ _ _ _ 106 _ _ _ _)
      refine R_isub dX0_read_106 (?_ : RR _ _ _ _ 107 _ _ _ _)
      exact R_ireturn dX0_read_107 trivial K
  | succ j ih =>
    intro e h1 he hf hE ho
    have hb := neR_b (σ := σ) (H := H) (e := e)
    /- a fault stays -/
    have hst : ∀ (p : Nat) (m : Nat), neR σ H (e + 1) = (p, false) → neR σ H (e + 1 + m) = (p, false) := fun p m hp => by
      induction m with
      | zero => exact hp
      | succ m ihm =>
        show (if (neR σ H (e + 1 + m)).2 then _ else neR σ H (e + 1 + m)) = _
        rw [ihm]; rfl
    have hflt : ∀ (p : Nat) (h2 : Nat → Int → Int), neR σ H (e + 1) = (p, false) → nrF h h2 H → Q (some (pI (-1 - (p : Int)))) (shp0, rf0, h2) := fun p h2 hp f2 => by
      have h9 := hst p j hp
      rw [show e + 1 + j = 2 * H by omega] at h9
      have := hfl h2 f2 (Or.inl (by rw [h9]))
      rw [h9] at this
      exact this
    have IH := ih (e + 1)
    have eR : neR σ H (e + 1) = if (neS σ e (neR σ H e).1).2 then neX σ H (neS σ e (neR σ H e).1).1 else ((neS σ e (neR σ H e).1).1, false) := by
      show (if (neR σ H e).2 then _ else _) = _
      rw [ho]; rfl
    have K71 : (neS σ e (neR σ H e).1).2 = true → RR mX0_read 3 0 0 71 [pR 7, pR 1, pI H, pI ((neS σ e (neR σ H e).1).1 : Nat), pI e] [] (shp0, rf0, h1) Q := fun hS => by
      rw [hS, if_pos rfl] at eR
      have hsb : (neS σ e (neR σ H e).1).1 ≤ (neR σ H e).1 + 1 := by
        unfold neS
        by_cases q : e % 2 = 0
        · rw [if_pos q]
          by_cases q2 : σ ((neR σ H e).1 : Nat) = (if e = 0 then 58 else 59)
          · rw [if_pos q2]; exact Nat.le_refl _
          · rw [if_neg q2]; exact Nat.le_succ _
        · rw [if_neg q]; exact Nat.le_succ _
      refine RD_71 (h := h) (h1 := h1) hσ hσb hH9 (by omega) (by omega) hf (fun h2 f2 hx => ?_) (fun h2 f2 hx e8 => ?_)
      · have := hflt (neX σ H (neS σ e (neR σ H e).1).1).1 h2 (by rw [eR, ← hx]) f2
        exact this
      · have K := IH h2 (by omega) f2 (fun e' he' => by
          rw [e8.1, e8.2]
          by_cases z : e' = e
          · rw [z, fup_s, fup_s]; exact ⟨rfl, rfl⟩
          · rw [fup_n (by omega), fup_n (by omega)]; exact hE e' (by omega)) (by rw [eR]; exact hx)
        rw [eR] at K
        exact K
    have hσ1 : ∀ p : Int, 0 ≤ p → signAt h1 p = σ p := fun p p0 => by
      rw [← hσ p p0]
      unfold signAt
      rw [hf.1 1 (by omega) (by omega) (by omega), hf.1 2 (by omega) (by omega) (by omega)]
    have A1 := T_X7_at (h := h1) (p := ((neR σ H e).1 : Int))
    rw [hσ1 _ (by omega)] at A1
    have b1 := hσb ((neR σ H e).1 : Int)
    unfold neS at K71 eR
    generalize neR σ H e = x at *
    by_cases q : e % 2 = 0
    · rw [if_pos q] at K71 eR
      have qe : (e : Int) % 2 = 0 := by omega
      by_cases q0 : e = 0
      · rw [if_pos q0] at K71 eR
        by_cases q2 : σ (x.1 : Nat) = 58
        · rw [if_pos q2] at K71
          have K := K71 rfl
          refine R_iload dX0_read_29 rfl (?_ : RR _ _ _ _ 31 _ _ _ _)
          refine R_iconst dX0_read_31 (?_ : RR _ _ _ _ 32 _ _ _ _)
          refine R_iload_n dX0_read_32 rfl (?_ : RR _ _ _ _ 33 _ _ _ _)
          refine R_imul dX0_read_33 (?_ : RR _ _ _ _ 34 _ _ _ _)
          refine R_icmp_ge (t := 92) dX0_read_34 rfl (fun c34 => ?_) (fun c34 => ?_)
          · exfalso; omega
          refine R_iload dX0_read_37 rfl (?_ : RR _ _ _ _ 39 _ _ _ _)
          refine R_iconst dX0_read_39 (?_ : RR _ _ _ _ 40 _ _ _ _)
          refine R_irem dX0_read_40 (by omega) (by omega) (?_ : RR _ _ _ _ 41 _ _ _ _)
          rw [iRem_pos (by omega) (by omega) (by omega) (by omega), qe] 
          refine R_if_ne (t := 71) dX0_read_41 rfl (fun c41 => ?_) (fun c41 => ?_)
          · exfalso; omega
          refine R_aload_n dX0_read_44 rfl (?_ : RR _ _ _ _ 45 _ _ _ _)
          refine R_iload_n dX0_read_45 rfl (?_ : RR _ _ _ _ 46 _ _ _ _)
          refine R_cVi1 dX0_read_46 mvX7_at mlX0_37 (by decide) (by decide) (Nat.le_of_ble_eq_true rfl) (Nat.le_of_ble_eq_true rfl) (A1) (?_ : RR _ _ _ _ 49 _ _ _ _)
          refine R_iload dX0_read_49 rfl (?_ : RR _ _ _ _ 51 _ _ _ _)
          refine R_if_ne (t := 59) dX0_read_51 rfl (fun c51 => ?_) (fun c51 => ?_)
          · exfalso; omega
          refine R_bipush dX0_read_54 rfl (?_ : RR _ _ _ _ 56 _ _ _ _)
          refine R_goto (t := 61) dX0_read_56 rfl (?_ : RR _ _ _ _ 61 _ _ _ _)
          refine R_icmp_eq (t := 68) dX0_read_61 rfl (fun c61 => ?_) (fun c61 => ?_)
          rotate_left
          · exfalso; omega
          refine R_iinc dX0_read_68 rfl (Nat.le_of_ble_eq_true rfl) (?_ : RR _ _ _ _ 71 [_, _, _, _, _] _ _ _)
          exact K
        · rw [if_neg q2] at eR
          have K := hflt x.1 h1 (by rw [eR]; rfl) hf
          refine R_iload dX0_read_29 rfl (?_ : RR _ _ _ _ 31 _ _ _ _)
          refine R_iconst dX0_read_31 (?_ : RR _ _ _ _ 32 _ _ _ _)
          refine R_iload_n dX0_read_32 rfl (?_ : RR _ _ _ _ 33 _ _ _ _)
          refine R_imul dX0_read_33 (?_ : RR _ _ _ _ 34 _ _ _ _)
          refine R_icmp_ge (t := 92) dX0_read_34 rfl (fun c34 => ?_) (fun c34 => ?_)
          · exfalso; omega
          refine R_iload dX0_read_37 rfl (?_ : RR _ _ _ _ 39 _ _ _ _)
          refine R_iconst dX0_read_39 (?_ : RR _ _ _ _ 40 _ _ _ _)
          refine R_irem dX0_read_40 (by omega) (by omega) (?_ : RR _ _ _ _ 41 _ _ _ _)
          rw [iRem_pos (by omega) (by omega) (by omega) (by omega), qe] 
          refine R_if_ne (t := 71) dX0_read_41 rfl (fun c41 => ?_) (fun c41 => ?_)
          · exfalso; omega
          refine R_aload_n dX0_read_44 rfl (?_ : RR _ _ _ _ 45 _ _ _ _)
          refine R_iload_n dX0_read_45 rfl (?_ : RR _ _ _ _ 46 _ _ _ _)
          refine R_cVi1 dX0_read_46 mvX7_at mlX0_37 (by decide) (by decide) (Nat.le_of_ble_eq_true rfl) (Nat.le_of_ble_eq_true rfl) (A1) (?_ : RR _ _ _ _ 49 _ _ _ _)
          refine R_iload dX0_read_49 rfl (?_ : RR _ _ _ _ 51 _ _ _ _)
          refine R_if_ne (t := 59) dX0_read_51 rfl (fun c51 => ?_) (fun c51 => ?_)
          · exfalso; omega
          refine R_bipush dX0_read_54 rfl (?_ : RR _ _ _ _ 56 _ _ _ _)
          refine R_goto (t := 61) dX0_read_56 rfl (?_ : RR _ _ _ _ 61 _ _ _ _)
          refine R_icmp_eq (t := 68) dX0_read_61 rfl (fun c61 => ?_) (fun c61 => ?_)
          · exfalso; omega
          refine R_iconst dX0_read_64 (?_ : RR _ _ _ _ 65 _ _ _ _)
          refine R_iload_n dX0_read_65 rfl (?_ : RR _ _ _ _ 66 _ _ _ _)
          refine R_isub dX0_read_66 (?_ : RR _ _ _ _ 67 _ _ _ _)
          exact R_ireturn dX0_read_67 trivial K
      · rw [if_neg q0] at K71 eR
        by_cases q2 : σ (x.1 : Nat) = 59
        · rw [if_pos q2] at K71
          have K := K71 rfl
          refine R_iload dX0_read_29 rfl (?_ : RR _ _ _ _ 31 _ _ _ _)
          refine R_iconst dX0_read_31 (?_ : RR _ _ _ _ 32 _ _ _ _)
          refine R_iload_n dX0_read_32 rfl (?_ : RR _ _ _ _ 33 _ _ _ _)
          refine R_imul dX0_read_33 (?_ : RR _ _ _ _ 34 _ _ _ _)
          refine R_icmp_ge (t := 92) dX0_read_34 rfl (fun c34 => ?_) (fun c34 => ?_)
          · exfalso; omega
          refine R_iload dX0_read_37 rfl (?_ : RR _ _ _ _ 39 _ _ _ _)
          refine R_iconst dX0_read_39 (?_ : RR _ _ _ _ 40 _ _ _ _)
          refine R_irem dX0_read_40 (by omega) (by omega) (?_ : RR _ _ _ _ 41 _ _ _ _)
          rw [iRem_pos (by omega) (by omega) (by omega) (by omega), qe] 
          refine R_if_ne (t := 71) dX0_read_41 rfl (fun c41 => ?_) (fun c41 => ?_)
          · exfalso; omega
          refine R_aload_n dX0_read_44 rfl (?_ : RR _ _ _ _ 45 _ _ _ _)
          refine R_iload_n dX0_read_45 rfl (?_ : RR _ _ _ _ 46 _ _ _ _)
          refine R_cVi1 dX0_read_46 mvX7_at mlX0_37 (by decide) (by decide) (Nat.le_of_ble_eq_true rfl) (Nat.le_of_ble_eq_true rfl) (A1) (?_ : RR _ _ _ _ 49 _ _ _ _)
          refine R_iload dX0_read_49 rfl (?_ : RR _ _ _ _ 51 _ _ _ _)
          refine R_if_ne (t := 59) dX0_read_51 rfl (fun c51 => ?_) (fun c51 => ?_)
          rotate_left
          · exfalso; omega
          refine R_bipush dX0_read_59 rfl (?_ : RR _ _ _ _ 61 _ _ _ _)
          refine R_icmp_eq (t := 68) dX0_read_61 rfl (fun c61 => ?_) (fun c61 => ?_)
          rotate_left
          · exfalso; omega
          refine R_iinc dX0_read_68 rfl (Nat.le_of_ble_eq_true rfl) (?_ : RR _ _ _ _ 71 [_, _, _, _, _] _ _ _)
          exact K
        · rw [if_neg q2] at eR
          have K := hflt x.1 h1 (by rw [eR]; rfl) hf
          refine R_iload dX0_read_29 rfl (?_ : RR _ _ _ _ 31 _ _ _ _)
          refine R_iconst dX0_read_31 (?_ : RR _ _ _ _ 32 _ _ _ _)
          refine R_iload_n dX0_read_32 rfl (?_ : RR _ _ _ _ 33 _ _ _ _)
          refine R_imul dX0_read_33 (?_ : RR _ _ _ _ 34 _ _ _ _)
          refine R_icmp_ge (t := 92) dX0_read_34 rfl (fun c34 => ?_) (fun c34 => ?_)
          · exfalso; omega
          refine R_iload dX0_read_37 rfl (?_ : RR _ _ _ _ 39 _ _ _ _)
          refine R_iconst dX0_read_39 (?_ : RR _ _ _ _ 40 _ _ _ _)
          refine R_irem dX0_read_40 (by omega) (by omega) (?_ : RR _ _ _ _ 41 _ _ _ _)
          rw [iRem_pos (by omega) (by omega) (by omega) (by omega), qe] 
          refine R_if_ne (t := 71) dX0_read_41 rfl (fun c41 => ?_) (fun c41 => ?_)
          · exfalso; omega
          refine R_aload_n dX0_read_44 rfl (?_ : RR _ _ _ _ 45 _ _ _ _)
          refine R_iload_n dX0_read_45 rfl (?_ : RR _ _ _ _ 46 _ _ _ _)
          refine R_cVi1 dX0_read_46 mvX7_at mlX0_37 (by decide) (by decide) (Nat.le_of_ble_eq_true rfl) (Nat.le_of_ble_eq_true rfl) (A1) (?_ : RR _ _ _ _ 49 _ _ _ _)
          refine R_iload dX0_read_49 rfl (?_ : RR _ _ _ _ 51 _ _ _ _)
          refine R_if_ne (t := 59) dX0_read_51 rfl (fun c51 => ?_) (fun c51 => ?_)
          rotate_left
          · exfalso; omega
          refine R_bipush dX0_read_59 rfl (?_ : RR _ _ _ _ 61 _ _ _ _)
          refine R_icmp_eq (t := 68) dX0_read_61 rfl (fun c61 => ?_) (fun c61 => ?_)
          · exfalso; omega
          refine R_iconst dX0_read_64 (?_ : RR _ _ _ _ 65 _ _ _ _)
          refine R_iload_n dX0_read_65 rfl (?_ : RR _ _ _ _ 66 _ _ _ _)
          refine R_isub dX0_read_66 (?_ : RR _ _ _ _ 67 _ _ _ _)
          exact R_ireturn dX0_read_67 trivial K
    · rw [if_neg q] at K71
      have qe : (e : Int) % 2 = 1 := by omega
      have K := K71 rfl
      refine R_iload dX0_read_29 rfl (?_ : RR _ _ _ _ 31 _ _ _ _)
      refine R_iconst dX0_read_31 (?_ : RR _ _ _ _ 32 _ _ _ _)
      refine R_iload_n dX0_read_32 rfl (?_ : RR _ _ _ _ 33 _ _ _ _)
      refine R_imul dX0_read_33 (?_ : RR _ _ _ _ 34 _ _ _ _)
      refine R_icmp_ge (t := 92) dX0_read_34 rfl (fun c34 => ?_) (fun c34 => ?_)
      · exfalso; omega
      refine R_iload dX0_read_37 rfl (?_ : RR _ _ _ _ 39 _ _ _ _)
      refine R_iconst dX0_read_39 (?_ : RR _ _ _ _ 40 _ _ _ _)
      refine R_irem dX0_read_40 (by omega) (by omega) (?_ : RR _ _ _ _ 41 _ _ _ _)
      rw [iRem_pos (by omega) (by omega) (by omega) (by omega), qe] 
      refine R_if_ne (t := 71) dX0_read_41 rfl (fun c41 => ?_) (fun c41 => ?_)
      rotate_left
      · exfalso; omega
      exact K
end NE4
