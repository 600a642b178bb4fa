section AD
variable {X : Cx} {H : Nat} {h : Nat → Int → Int} {f : Int → Int} {len : Nat}
theorem C_drive {x n : Int} (hX : xOK X H) (hC : CO X H h 3 14 29) (hc : Cpl X H h 14 f len) (hnow : f 1 ≤ 2000000000) (hx : r32 x) (hn : r32 n) : RR mX11_drive 3 0 0 0 (pm_ent [pR 0, pI x, pI n] 4) [] (shp0, rf0, h) (aPo X H h (aGo X f x n)) := by
  obtain ⟨c1, c2, c3, c4, c5, c6, c7⟩ := id hC
  obtain ⟨hf, e0, e1, e2, e3, ep, ea, es⟩ := id hc
  obtain ⟨x1, x2, x3, x4, x5, x6, x7, x8, x9⟩ := id hX
  have hln := xLn_eq hf
  have fl := hf.2.2.1
  have f0 := hf.1
  have f1 := hf.2.1
  show RR _ _ _ _ _ [pR 0, pI x, pI n, pU] _ _ _
  unfold aGo
  rw [hln]
  by_cases q : (0 ≤ x ∧ x ≤ 1) ∧ 0 ≤ n ∧ n ≤ len
  · rw [if_neg (fun z => z q)]
    have hE := c1.1 (2 * f 0 + x) (by omega) (by omega)
    have hEb := x5 (2 * f 0 + x) (by omega) (by omega)
    have hMb := x6 (2 * f 0 + x) (by omega) (by omega)
    by_cases q2 : xE X (2 * f 0 + x) < 0
    · rw [if_pos q2]
      have hq : aPo X H h (-2, f) (some (pI (-2))) (shp0, rf0, h) := ⟨h, len, rfl, fun _ _ => rfl, rfl, hc⟩
      refine R_iload_n dX11_drive_0 rfl (?_ : RR _ _ _ _ 1 _ _ _ _)
      refine R_if_lt (t := 24) dX11_drive_1 rfl (fun c1 => ?_) (fun c1 => ?_)
      · exfalso; omega
      refine R_iload_n dX11_drive_4 rfl (?_ : RR _ _ _ _ 5 _ _ _ _)
      refine R_iconst dX11_drive_5 (?_ : RR _ _ _ _ 6 _ _ _ _)
      refine R_icmp_gt (t := 24) dX11_drive_6 rfl (fun c6 => ?_) (fun c6 => ?_)
      · exfalso; omega
      refine R_iload_n dX11_drive_9 rfl (?_ : RR _ _ _ _ 10 _ _ _ _)
      refine R_if_lt (t := 24) dX11_drive_10 rfl (fun c10 => ?_) (fun c10 => ?_)
      · exfalso; omega
      refine R_iload_n dX11_drive_13 rfl (?_ : RR _ _ _ _ 14 _ _ _ _)
      refine R_aload_n dX11_drive_14 rfl (?_ : RR _ _ _ _ 15 _ _ _ _)
      refine R_getr dX11_drive_15 flX11_36 cok_11 rfl (by decide) (?_ : RR _ _ _ _ 18 _ _ _ _)
      refine R_geti (z := 3) dX11_drive_18 flX11_451 cok_9 rfl (by decide) rfl (fun q18 => (?_ : RR _ _ _ _ 21 _ _ _ _))
      rw [e3] at q18 ⊢
      refine R_icmp_le (t := 26) dX11_drive_21 rfl (fun c21 => ?_) (fun c21 => ?_)
      rotate_left
      · exfalso; omega
      refine R_iconst dX11_drive_26 (?_ : RR _ _ _ _ 27 _ _ _ _)
      refine R_aload_n dX11_drive_27 rfl (?_ : RR _ _ _ _ 28 _ _ _ _)
      refine R_getr dX11_drive_28 flX11_36 cok_11 rfl (by decide) (?_ : RR _ _ _ _ 31 _ _ _ _)
      refine R_geti (z := 0) dX11_drive_31 flX11_171 cok_9 rfl (by decide) rfl (fun q31 => (?_ : RR _ _ _ _ 34 _ _ _ _))
      rw [e0] at q31 ⊢
      refine R_imul dX11_drive_34 (?_ : RR _ _ _ _ 35 _ _ _ _)
      refine R_iload_n dX11_drive_35 rfl (?_ : RR _ _ _ _ 36 _ _ _ _)
      refine R_iadd dX11_drive_36 (?_ : RR _ _ _ _ 37 _ _ _ _)
      refine R_istore_n dX11_drive_37 (Nat.le_of_ble_eq_true rfl) (?_ : RR _ _ _ _ 38 [_, _, _, _] _ _ _)
      refine R_aload_n dX11_drive_38 rfl (?_ : RR _ _ _ _ 39 _ _ _ _)
      refine R_getr dX11_drive_39 flX11_19 cok_11 rfl (by decide) (?_ : RR _ _ _ _ 42 _ _ _ _)
      refine R_getr dX11_drive_42 flX11_160 cok_0 rfl (by decide) (?_ : RR _ _ _ _ 45 _ _ _ _)
      refine R_iload_n dX11_drive_45 rfl (?_ : RR _ _ _ _ 46 _ _ _ _)
      refine R_iald dX11_drive_46 (fun q46 => (?_ : RR _ _ _ _ 47 _ _ _ _))
      rw [hE.1] at q46 ⊢
      refine R_iconst dX11_drive_47 (?_ : RR _ _ _ _ 48 _ _ _ _)
      refine R_icmp_ne (t := 54) dX11_drive_48 rfl (fun c48 => ?_) (fun c48 => ?_)
      · exfalso; omega
      refine R_bipush dX11_drive_51 rfl (?_ : RR _ _ _ _ 53 _ _ _ _)
      exact R_ireturn dX11_drive_53 trivial hq
    · rw [if_neg q2]
      obtain ⟨a, ha⟩ : ∃ a : Nat, n = a := ⟨n.toNat, by omega⟩
      subst ha
      rw [Int.toNat_natCast]
      have ho : ∀ j : Nat, j < len → 0 ≤ h (14 + 1) j ∧ h (14 + 1) j < 6 := fun j hj => by
        have := hf.2.2.2.1 j hj
        omega
      have hT := isTr_14
      have hs : ∀ j : Nat, j < xP X → h (14 + 4) j = -1 ∨ (0 ≤ h (14 + 4) j ∧ h (14 + 4) j < 6) := fun j hj => by
        rw [es j hj]
        have := hf.2.2.2.2.2 j hj
        omega
      obtain ⟨P', hP'⟩ : ∃ P', P' = shF (h (14 + 1)) (-1) (h (14 + 2)) a (len - a) := ⟨_, rfl⟩
      obtain ⟨S', hS'⟩ : ∃ S', S' = shF (h (14 + 1)) (h 14 0) (h (14 + 3)) a (len - a) := ⟨_, rfl⟩
      obtain ⟨T', hT'⟩ : ∃ T', T' = fup (fup (fup (h 14) 3 a) 0 (xE X (2 * f 0 + x))) 1 (h 14 1 + xM X (2 * f 0 + x)) := ⟨_, rfl⟩
      have hT0 : T' 0 = xE X (2 * f 0 + x) := by rw [hT']; simp (disch := omega) only [fup_n, fup_s]
      have hq : aPo X H h (xM X (2 * f 0 + x), xGo X f a (2 * f 0 + x)) (some (pI (xM X (2 * f 0 + x)))) (shp0, rf0, rup (rup (rup (rup h 14 T') (14 + 2) P') (14 + 3) S') (14 + 4) (outF (h 12) (halS (T' 0) P' S') (h (14 + 4)) (xP X))) := by
        refine ⟨_, a, rfl, fun a q => by rw [rup_n (by omega), rup_n (by omega), rup_n (by omega), rup_n (by omega)], rfl, cpl_go hX hc c2 (by omega) (by omega) (by omega) ?_ ?_ ?_ ?_ ?_⟩
        · simp (disch := omega) only [rup_n]
        · simp (disch := omega) only [rup_n, rup_s]; exact hT'
        · simp (disch := omega) only [rup_n, rup_s]; exact hP'
        · simp (disch := omega) only [rup_n, rup_s]; exact hS'
        · simp (disch := omega) only [rup_n, rup_s, hT0]
      refine R_iload_n dX11_drive_0 rfl (?_ : RR _ _ _ _ 1 _ _ _ _)
      refine R_if_lt (t := 24) dX11_drive_1 rfl (fun c1 => ?_) (fun c1 => ?_)
      · exfalso; omega
      refine R_iload_n dX11_drive_4 rfl (?_ : RR _ _ _ _ 5 _ _ _ _)
      refine R_iconst dX11_drive_5 (?_ : RR _ _ _ _ 6 _ _ _ _)
      refine R_icmp_gt (t := 24) dX11_drive_6 rfl (fun c6 => ?_) (fun c6 => ?_)
      · exfalso; omega
      refine R_iload_n dX11_drive_9 rfl (?_ : RR _ _ _ _ 10 _ _ _ _)
      refine R_if_lt (t := 24) dX11_drive_10 rfl (fun c10 => ?_) (fun c10 => ?_)
      · exfalso; omega
      refine R_iload_n dX11_drive_13 rfl (?_ : RR _ _ _ _ 14 _ _ _ _)
      refine R_aload_n dX11_drive_14 rfl (?_ : RR _ _ _ _ 15 _ _ _ _)
      refine R_getr dX11_drive_15 flX11_36 cok_11 rfl (by decide) (?_ : RR _ _ _ _ 18 _ _ _ _)
      refine R_geti (z := 3) dX11_drive_18 flX11_451 cok_9 rfl (by decide) rfl (fun q18 => (?_ : RR _ _ _ _ 21 _ _ _ _))
      rw [e3] at q18 ⊢
      refine R_icmp_le (t := 26) dX11_drive_21 rfl (fun c21 => ?_) (fun c21 => ?_)
      rotate_left
      · exfalso; omega
      refine R_iconst dX11_drive_26 (?_ : RR _ _ _ _ 27 _ _ _ _)
      refine R_aload_n dX11_drive_27 rfl (?_ : RR _ _ _ _ 28 _ _ _ _)
      refine R_getr dX11_drive_28 flX11_36 cok_11 rfl (by decide) (?_ : RR _ _ _ _ 31 _ _ _ _)
      refine R_geti (z := 0) dX11_drive_31 flX11_171 cok_9 rfl (by decide) rfl (fun q31 => (?_ : RR _ _ _ _ 34 _ _ _ _))
      rw [e0] at q31 ⊢
      refine R_imul dX11_drive_34 (?_ : RR _ _ _ _ 35 _ _ _ _)
      refine R_iload_n dX11_drive_35 rfl (?_ : RR _ _ _ _ 36 _ _ _ _)
      refine R_iadd dX11_drive_36 (?_ : RR _ _ _ _ 37 _ _ _ _)
      refine R_istore_n dX11_drive_37 (Nat.le_of_ble_eq_true rfl) (?_ : RR _ _ _ _ 38 [_, _, _, _] _ _ _)
      refine R_aload_n dX11_drive_38 rfl (?_ : RR _ _ _ _ 39 _ _ _ _)
      refine R_getr dX11_drive_39 flX11_19 cok_11 rfl (by decide) (?_ : RR _ _ _ _ 42 _ _ _ _)
      refine R_getr dX11_drive_42 flX11_160 cok_0 rfl (by decide) (?_ : RR _ _ _ _ 45 _ _ _ _)
      refine R_iload_n dX11_drive_45 rfl (?_ : RR _ _ _ _ 46 _ _ _ _)
      refine R_iald dX11_drive_46 (fun q46 => (?_ : RR _ _ _ _ 47 _ _ _ _))
      rw [hE.1] at q46 ⊢
      refine R_iconst dX11_drive_47 (?_ : RR _ _ _ _ 48 _ _ _ _)
      refine R_icmp_ne (t := 54) dX11_drive_48 rfl (fun c48 => ?_) (fun c48 => ?_)
      rotate_left
      · exfalso; omega
      refine R_aload_n dX11_drive_54 rfl (?_ : RR _ _ _ _ 55 _ _ _ _)
      refine R_getr dX11_drive_55 flX11_36 cok_11 rfl (by decide) (?_ : RR _ _ _ _ 58 _ _ _ _)
      refine R_iload_n dX11_drive_58 rfl (?_ : RR _ _ _ _ 59 _ _ _ _)
      refine R_aload_n dX11_drive_59 rfl (?_ : RR _ _ _ _ 60 _ _ _ _)
      refine R_getr dX11_drive_60 flX11_19 cok_11 rfl (by decide) (?_ : RR _ _ _ _ 63 _ _ _ _)
      refine R_getr dX11_drive_63 flX11_160 cok_0 rfl (by decide) (?_ : RR _ _ _ _ 66 _ _ _ _)
      refine R_iload_n dX11_drive_66 rfl (?_ : RR _ _ _ _ 67 _ _ _ _)
      refine R_iald dX11_drive_67 (fun q67 => (?_ : RR _ _ _ _ 68 _ _ _ _))
      rw [hE.1] at q67 ⊢
      refine R_aload_n dX11_drive_68 rfl (?_ : RR _ _ _ _ 69 _ _ _ _)
      refine R_getr dX11_drive_69 flX11_19 cok_11 rfl (by decide) (?_ : RR _ _ _ _ 72 _ _ _ _)
      refine R_getr dX11_drive_72 flX11_164 cok_0 rfl (by decide) (?_ : RR _ _ _ _ 75 _ _ _ _)
      refine R_iload_n dX11_drive_75 rfl (?_ : RR _ _ _ _ 76 _ _ _ _)
      refine R_iald dX11_drive_76 (fun q76 => (?_ : RR _ _ _ _ 77 _ _ _ _))
      rw [hE.2] at q76 ⊢
      refine R_cVi3 dX11_drive_77 mvX9_leave mlX11_452 (by decide) (by decide) (Nat.le_of_ble_eq_true rfl) (Nat.le_of_ble_eq_true rfl) (T_X9_leave (n := len) e3 ho (by rw [e1]; omega)) (?_ : RR _ _ _ _ 80 _ _ _ _)
      rw [← hP', ← hS', ← hT']
      refine R_pop dX11_drive_80 (fun _ => rfl) (?_ : RR _ _ _ _ 81 _ _ _ _)
      refine R_aload_n dX11_drive_81 rfl (?_ : RR _ _ _ _ 82 _ _ _ _)
      refine R_getr dX11_drive_82 flX11_36 cok_11 rfl (by decide) (?_ : RR _ _ _ _ 85 _ _ _ _)
      refine R_aload_n dX11_drive_85 rfl (?_ : RR _ _ _ _ 86 _ _ _ _)
      refine R_getr dX11_drive_86 flX11_29 cok_11 rfl (by decide) (?_ : RR _ _ _ _ 89 _ _ _ _)
      refine R_nzf (fun hz => ?_)
      refine R_cVi1 dX11_drive_89 mvX9_letOut mlX11_145 (by decide) (by decide) (Nat.le_of_ble_eq_true rfl) (Nat.le_of_ble_eq_true rfl) (T_X9_letOut (n := xP X) (by simp (disch := omega) only [rup_n]; exact c2.1) (by simp (disch := omega) only [rup_n]; exact hs) (hw := fun c => by unfold trHal; split; exact nz_i hz hT.2.2.2.2.2.2.2.1 (by decide) c; exact nz_i hz hT.1 (by decide) 0)) (?_ : RR _ _ _ _ 92 _ _ _ _)
      simp (disch := omega) only [trHal_eq, rup_s, rup_n]
      refine R_pop dX11_drive_92 (fun _ => rfl) (?_ : RR _ _ _ _ 93 _ _ _ _)
      refine R_aload_n dX11_drive_93 rfl (?_ : RR _ _ _ _ 94 _ _ _ _)
      refine R_getr dX11_drive_94 flX11_19 cok_11 rfl (by decide) (?_ : RR _ _ _ _ 97 _ _ _ _)
      refine R_getr dX11_drive_97 flX11_164 cok_0 rfl (by decide) (?_ : RR _ _ _ _ 100 _ _ _ _)
      refine R_iload_n dX11_drive_100 rfl (?_ : RR _ _ _ _ 101 _ _ _ _)
      refine R_iald dX11_drive_101 (fun q101 => (?_ : RR _ _ _ _ 102 _ _ _ _))
      simp (disch := omega) only [rup_n, hE.2] at q101 ⊢
      exact R_ireturn dX11_drive_102 trivial hq
  · rw [if_pos q]
    have hq : aPo X H h (-1, f) (some (pI (-1))) (shp0, rf0, h) := ⟨h, len, rfl, fun _ _ => rfl, rfl, hc⟩
    refine R_iload_n dX11_drive_0 rfl (?_ : RR _ _ _ _ 1 _ _ _ _)
    refine R_if_lt (t := 24) dX11_drive_1 rfl (fun c1 => ?_) (fun c1 => ?_)
    · first
      | (exfalso; omega)
      | (refine R_iconst dX11_drive_24 (?_ : RR _ _ _ _ 25 _ _ _ _)
         exact R_ireturn dX11_drive_25 trivial hq)
    · first
      | (exfalso; omega)
      | (refine R_iload_n dX11_drive_4 rfl (?_ : RR _ _ _ _ 5 _ _ _ _)
         refine R_iconst dX11_drive_5 (?_ : RR _ _ _ _ 6 _ _ _ _)
         refine R_icmp_gt (t := 24) dX11_drive_6 rfl (fun c6 => ?_) (fun c6 => ?_)
         · first
           | (exfalso; omega)
           | (refine R_iconst dX11_drive_24 (?_ : RR _ _ _ _ 25 _ _ _ _)
              exact R_ireturn dX11_drive_25 trivial hq)
         · first
           | (exfalso; omega)
           | (refine R_iload_n dX11_drive_9 rfl (?_ : RR _ _ _ _ 10 _ _ _ _)
              refine R_if_lt (t := 24) dX11_drive_10 rfl (fun c10 => ?_) (fun c10 => ?_)
              · first
                | (exfalso; omega)
                | (refine R_iconst dX11_drive_24 (?_ : RR _ _ _ _ 25 _ _ _ _)
                   exact R_ireturn dX11_drive_25 trivial hq)
              · first
                | (exfalso; omega)
                | (refine R_iload_n dX11_drive_13 rfl (?_ : RR _ _ _ _ 14 _ _ _ _)
                   refine R_aload_n dX11_drive_14 rfl (?_ : RR _ _ _ _ 15 _ _ _ _)
                   refine R_getr dX11_drive_15 flX11_36 cok_11 rfl (by decide) (?_ : RR _ _ _ _ 18 _ _ _ _)
                   refine R_geti (z := 3) dX11_drive_18 flX11_451 cok_9 rfl (by decide) rfl (fun q18 => (?_ : RR _ _ _ _ 21 _ _ _ _))
                   rw [e3] at q18 ⊢
                   refine R_icmp_le (t := 26) dX11_drive_21 rfl (fun c21 => ?_) (fun c21 => ?_)
                   · first
                     | (exfalso; omega)
                     | (exfalso; omega)
                   · first
                     | (exfalso; omega)
                     | (refine R_iconst dX11_drive_24 (?_ : RR _ _ _ _ 25 _ _ _ _)
                        exact R_ireturn dX11_drive_25 trivial hq))))
theorem cpl_seat {t : Nat} {p c : Nat} (h6 : xC X ≤ 6) (hc : Cpl X H h t f len) (hcc : c < xC X) (hpp : p < xP X) (hin : mS f p ≠ -1) (h1 : 0 ≤ mP f (mS f p)) (h2 : 0 ≤ mP f c) : Cpl X H (rup h (t + 4) (fup (h (t + 4)) p c)) t (fup f (14 + p) c) len := by
  obtain ⟨hf, e0, e1, e2, e3, ep, ea, es⟩ := id hc
  obtain ⟨f0, f1, fl, fo, fp, fs⟩ := id hf
  have gP : ∀ k : Int, k < 6 → mP (fup f (14 + p) c) k = mP f k := fun k hk => fup_n (by omega)
  have gA : ∀ k : Int, k < 6 → mA (fup f (14 + p) c) k = mA f k := fun k hk => fup_n (by omega)
  refine ⟨⟨by rw [fup_n (by omega)]; exact f0, by rw [fup_n (by omega)]; exact f1, fl, fun j hj => ?_, fun k hk => ?_, fun p' hp' => ?_⟩, ?_, ?_, ?_, ?_, fun k hk => ?_, fun k hk hm => ?_, fun p' hp' => ?_⟩
  · have := fo j hj
    rw [rup_n (by omega), gP _ (by omega)]
    exact this
  · rw [rup_n (by omega), gP k (by omega), gA k (by omega)]
    exact fp k hk
  · rw [fup_n (show (0 : Int) ≠ 14 + p by omega)]
    have hw := fs p hpp
    by_cases z : p' = p
    · subst z
      have e : mS (fup f (14 + p') c) p' = c := fup_s
      rw [e]
      refine Or.inr ⟨by omega, by omega, ?_⟩
      have h3 : halS (f 0) (mP f) (mA f) (mS f p') ≠ xW X p' := by omega
      unfold halS at h3 ⊢
      rw [gP c (by omega), if_neg (by omega)]
      rw [if_neg (by omega)] at h3
      exact h3
    · have e : mS (fup f (14 + p) c) p' = mS f p' := fup_n (by omega)
      rw [e]
      have h3 := fs p' hp'
      by_cases y : mS f p' = -1
      · exact Or.inl y
      · unfold halS at h3 ⊢
        rw [gP _ (by omega), gA _ (by omega)]
        exact h3
  · rw [rup_n (by omega), fup_n (by omega)]; exact e0
  · rw [rup_n (by omega), fup_n (by omega)]; exact e1
  · rw [rup_n (by omega)]; exact e2
  · rw [rup_n (by omega)]; exact e3
  · rw [rup_n (by omega), gP k (by omega)]; exact ep k hk
  · rw [gP k (by omega)] at hm
    rw [rup_n (by omega), gA k (by omega)]; exact ea k hk hm
  · rw [rup_s]
    by_cases z : p' = p
    · subst z
      rw [fup_s]
      exact fup_s.symm
    · rw [fup_n (by omega), es p' hp']
      exact (fup_n (f := f) (show (14 + (p' : Int)) ≠ 14 + p by omega)).symm
theorem C_changeCoach {p c : Int} (hX : xOK X H) (hr : RidC X h) (hc : Cpl X H h 14 f len) (hnow : f 1 ≤ 2000000000) (hp : r32 p) (hcr : r32 c) : RR mX11_changeCoach 2 0 0 0 (pm_ent [pR 0, pI p, pI c] 4) [] (shp0, rf0, h) (aPo X H h (aWa X f p c)) := by
  obtain ⟨hf, e0, e1, e2, e3, ep, ea, es⟩ := id hc
  obtain ⟨f0, f1, fl, fo, fp, fs⟩ := id hf
  have x6 := hX.2.2.2.1
  have x12 := hX.2.2.1
  have hT := isTr_14
  show RR _ _ _ _ _ [pR 0, pI p, pI c, pU] _ _ _
  unfold aWa
  by_cases q : (0 ≤ p ∧ p < xP X) ∧ 0 ≤ c ∧ c < xC X
  · rw [if_neg (fun z => z q)]
    obtain ⟨p', hp'⟩ := Int.eq_ofNat_of_zero_le q.1.1
    obtain ⟨c', hc'⟩ := Int.eq_ofNat_of_zero_le q.2.1
    subst hp'
    subst hc'
    have hpl : p' < xP X := by omega
    have hcl : c' < xC X := by omega
    have hse := es p' hpl
    have hsv := fs p' hpl
    by_cases q2 : mS f p' = -1
    · rw [if_pos q2]
      have hq : aPo X H h (-2, f) (some (pI (-2))) (shp0, rf0, h) := ⟨h, len, rfl, fun _ _ => rfl, rfl, hc⟩
      refine R_aload_n dX11_changeCoach_0 rfl (?_ : RR _ _ _ _ 1 _ _ _ _)
      refine R_getr dX11_changeCoach_1 flX11_29 cok_11 rfl (by decide) (?_ : RR _ _ _ _ 4 _ _ _ _)
      refine R_iload_n dX11_changeCoach_4 rfl (?_ : RR _ _ _ _ 5 _ _ _ _)
      refine R_cVi1 dX11_changeCoach_5 mvX2_has mlX11_202 (by decide) (by decide) (Nat.le_of_ble_eq_true rfl) (Nat.le_of_ble_eq_true rfl) (T_X2_has) (?_ : RR _ _ _ _ 8 _ _ _ _)
      rw [hr.1, if_pos (by omega)]
      refine R_if_eq (t := 22) dX11_changeCoach_8 rfl (fun c8 => ?_) (fun c8 => ?_)
      · exfalso; omega
      refine R_aload_n dX11_changeCoach_11 rfl (?_ : RR _ _ _ _ 12 _ _ _ _)
      refine R_getr dX11_changeCoach_12 flX11_36 cok_11 rfl (by decide) (?_ : RR _ _ _ _ 15 _ _ _ _)
      refine R_iload_n dX11_changeCoach_15 rfl (?_ : RR _ _ _ _ 16 _ _ _ _)
      refine R_cVi1 dX11_changeCoach_16 mvX9_has mlX11_174 (by decide) (by decide) (Nat.le_of_ble_eq_true rfl) (Nat.le_of_ble_eq_true rfl) (T_X9_has) (?_ : RR _ _ _ _ 19 _ _ _ _)
      rw [e2, if_pos (by omega)]
      refine R_if_ne (t := 24) dX11_changeCoach_19 rfl (fun c19 => ?_) (fun c19 => ?_)
      rotate_left
      · exfalso; omega
      refine R_aload_n dX11_changeCoach_24 rfl (?_ : RR _ _ _ _ 25 _ _ _ _)
      refine R_getr dX11_changeCoach_25 flX11_36 cok_11 rfl (by decide) (?_ : RR _ _ _ _ 28 _ _ _ _)
      refine R_getr dX11_changeCoach_28 flX11_205 cok_9 rfl (by decide) (?_ : RR _ _ _ _ 31 _ _ _ _)
      refine R_iload_n dX11_changeCoach_31 rfl (?_ : RR _ _ _ _ 32 _ _ _ _)
      refine R_iald dX11_changeCoach_32 (fun q32 => (?_ : RR _ _ _ _ 33 _ _ _ _))
      rw [hse] at q32 ⊢
      refine R_istore_n dX11_changeCoach_33 (Nat.le_of_ble_eq_true rfl) (?_ : RR _ _ _ _ 34 [_, _, _, _] _ _ _)
      refine R_iload_n dX11_changeCoach_34 rfl (?_ : RR _ _ _ _ 35 _ _ _ _)
      refine R_iconst dX11_changeCoach_35 (?_ : RR _ _ _ _ 36 _ _ _ _)
      refine R_icmp_ne (t := 42) dX11_changeCoach_36 rfl (fun c36 => ?_) (fun c36 => ?_)
      · exfalso; omega
      refine R_bipush dX11_changeCoach_39 rfl (?_ : RR _ _ _ _ 41 _ _ _ _)
      exact R_ireturn dX11_changeCoach_41 trivial hq
    · rw [if_neg q2]
      have hpa := fOK_pl hf (c := mS f p') (by omega) (by omega)
      have hpb := fOK_pl hf (c := (c' : Int)) (by omega) (by omega)
      have hra := cpl_pl hc (c := mS f p') (by omega) (by omega)
      have hrb := cpl_pl hc (c := (c' : Int)) (by omega) (by omega)
      by_cases q3 : mP f (mS f p') ≠ -1 ∧ mP f c' ≠ -1 ∧ iAbs (mP f (mS f p') - mP f c') = 1
      · rw [if_neg (fun z => z q3)]
        have hq : aPo X H h (mS f p', fup (fup f (14 + p') c') 1 (f 1 + 1)) (some (pI (mS f p'))) (shp0, rf0, rup (rup h 14 (fup (h 14) 1 (f 1 + 1))) 18 (fup (h 18) p' c')) := by
          refine ⟨_, len, rfl, fun a q => by rw [rup_n (by omega), rup_n (by omega)], rfl, ?_⟩
          have k1 := cpl_seat (p := p') (c := c') x6 hc hcl hpl q2 (by omega) (by omega)
          have k2 := Cpl_stay (z := f 1 + 1) k1 (by omega)
          rw [rup_n (by omega)] at k2
          rw [rup_comm (by decide)]
          exact k2
        refine R_aload_n dX11_changeCoach_0 rfl (?_ : RR _ _ _ _ 1 _ _ _ _)
        refine R_getr dX11_changeCoach_1 flX11_29 cok_11 rfl (by decide) (?_ : RR _ _ _ _ 4 _ _ _ _)
        refine R_iload_n dX11_changeCoach_4 rfl (?_ : RR _ _ _ _ 5 _ _ _ _)
        refine R_cVi1 dX11_changeCoach_5 mvX2_has mlX11_202 (by decide) (by decide) (Nat.le_of_ble_eq_true rfl) (Nat.le_of_ble_eq_true rfl) (T_X2_has) (?_ : RR _ _ _ _ 8 _ _ _ _)
        try simp (disch := omega) only [rup_rup, rup_sort, rupS_def, rup_s, rup_n, fup_fup, fup_s, fup_n]
        rw [hr.1, if_pos (by omega)]
        refine R_if_eq (t := 22) dX11_changeCoach_8 rfl (fun c8 => ?_) (fun c8 => ?_)
        · exfalso; omega
        refine R_aload_n dX11_changeCoach_11 rfl (?_ : RR _ _ _ _ 12 _ _ _ _)
        refine R_getr dX11_changeCoach_12 flX11_36 cok_11 rfl (by decide) (?_ : RR _ _ _ _ 15 _ _ _ _)
        refine R_iload_n dX11_changeCoach_15 rfl (?_ : RR _ _ _ _ 16 _ _ _ _)
        refine R_cVi1 dX11_changeCoach_16 mvX9_has mlX11_174 (by decide) (by decide) (Nat.le_of_ble_eq_true rfl) (Nat.le_of_ble_eq_true rfl) (T_X9_has) (?_ : RR _ _ _ _ 19 _ _ _ _)
        try simp (disch := omega) only [rup_rup, rup_sort, rupS_def, rup_s, rup_n, fup_fup, fup_s, fup_n]
        rw [e2, if_pos (by omega)]
        refine R_if_ne (t := 24) dX11_changeCoach_19 rfl (fun c19 => ?_) (fun c19 => ?_)
        rotate_left
        · exfalso; omega
        refine R_aload_n dX11_changeCoach_24 rfl (?_ : RR _ _ _ _ 25 _ _ _ _)
        refine R_getr dX11_changeCoach_25 flX11_36 cok_11 rfl (by decide) (?_ : RR _ _ _ _ 28 _ _ _ _)
        refine R_getr dX11_changeCoach_28 flX11_205 cok_9 rfl (by decide) (?_ : RR _ _ _ _ 31 _ _ _ _)
        refine R_iload_n dX11_changeCoach_31 rfl (?_ : RR _ _ _ _ 32 _ _ _ _)
        refine R_iald dX11_changeCoach_32 (fun q32 => (?_ : RR _ _ _ _ 33 _ _ _ _))
        try simp (disch := omega) only [rup_rup, rup_sort, rupS_def, rup_s, rup_n, fup_fup, fup_s, fup_n] at q32 ⊢
        rw [hse] at q32 ⊢
        refine R_istore_n dX11_changeCoach_33 (Nat.le_of_ble_eq_true rfl) (?_ : RR _ _ _ _ 34 [_, _, _, _] _ _ _)
        refine R_iload_n dX11_changeCoach_34 rfl (?_ : RR _ _ _ _ 35 _ _ _ _)
        refine R_iconst dX11_changeCoach_35 (?_ : RR _ _ _ _ 36 _ _ _ _)
        refine R_icmp_ne (t := 42) dX11_changeCoach_36 rfl (fun c36 => ?_) (fun c36 => ?_)
        rotate_left
        · exfalso; omega
        refine R_aload_n dX11_changeCoach_42 rfl (?_ : RR _ _ _ _ 43 _ _ _ _)
        refine R_getr dX11_changeCoach_43 flX11_36 cok_11 rfl (by decide) (?_ : RR _ _ _ _ 46 _ _ _ _)
        refine R_iload_n dX11_changeCoach_46 rfl (?_ : RR _ _ _ _ 47 _ _ _ _)
        refine R_iload_n dX11_changeCoach_47 rfl (?_ : RR _ _ _ _ 48 _ _ _ _)
        refine R_cVi2 dX11_changeCoach_48 mvX9_areNeighbours mlX11_458 (by decide) (by decide) (Nat.le_of_ble_eq_true rfl) (Nat.le_of_ble_eq_true rfl) (T_X9_areNeighbours (t := 14) (hpa := by omega) (hpb := by omega)) (?_ : RR _ _ _ _ 51 _ _ _ _)
        try simp (disch := omega) only [rup_rup, rup_sort, rupS_def, rup_s, rup_n, fup_fup, fup_s, fup_n]
        rw [hra, hrb, if_pos q3]
        refine R_if_ne (t := 57) dX11_changeCoach_51 rfl (fun c51 => ?_) (fun c51 => ?_)
        rotate_left
        · exfalso; omega
        refine R_aload_n dX11_changeCoach_57 rfl (?_ : RR _ _ _ _ 58 _ _ _ _)
        refine R_getr dX11_changeCoach_58 flX11_36 cok_11 rfl (by decide) (?_ : RR _ _ _ _ 61 _ _ _ _)
        refine R_getr dX11_changeCoach_61 flX11_205 cok_9 rfl (by decide) (?_ : RR _ _ _ _ 64 _ _ _ _)
        refine R_iload_n dX11_changeCoach_64 rfl (?_ : RR _ _ _ _ 65 _ _ _ _)
        refine R_iload_n dX11_changeCoach_65 rfl (?_ : RR _ _ _ _ 66 _ _ _ _)
        refine R_iast dX11_changeCoach_66 (?_ : RR _ _ _ _ 67 _ _ _ _)
        try simp (disch := omega) only [rup_rup, rup_sort, rupS_def, rup_s, rup_n, fup_fup, fup_s, fup_n]
        refine R_aload_n dX11_changeCoach_67 rfl (?_ : RR _ _ _ _ 68 _ _ _ _)
        refine R_getr dX11_changeCoach_68 flX11_36 cok_11 rfl (by decide) (?_ : RR _ _ _ _ 71 _ _ _ _)
        refine R_dup dX11_changeCoach_71 (fun _ => rfl) (?_ : RR _ _ _ _ 72 _ _ _ _)
        refine R_geti (z := 1) dX11_changeCoach_72 flX11_312 cok_9 rfl (by decide) rfl (fun q72 => (?_ : RR _ _ _ _ 75 _ _ _ _))
        try simp (disch := omega) only [rup_rup, rup_sort, rupS_def, rup_s, rup_n, fup_fup, fup_s, fup_n] at q72 ⊢
        rw [e1] at q72 ⊢
        refine R_iconst dX11_changeCoach_75 (?_ : RR _ _ _ _ 76 _ _ _ _)
        refine R_iadd dX11_changeCoach_76 (?_ : RR _ _ _ _ 77 _ _ _ _)
        refine R_puti (zk := 1) dX11_changeCoach_77 flX11_312 cok_9 (by decide) (fun q hq => by cases hq; rfl) rfl (?_ : RR _ _ _ _ 80 _ _ _ _)
        try simp (disch := omega) only [rup_rup, rup_sort, rupS_def, rup_s, rup_n, fup_fup, fup_s, fup_n]
        refine R_iload_n dX11_changeCoach_80 rfl (?_ : RR _ _ _ _ 81 _ _ _ _)
        exact R_ireturn dX11_changeCoach_81 trivial hq
      · rw [if_pos q3]
        have hq : aPo X H h (-3, f) (some (pI (-3))) (shp0, rf0, h) := ⟨h, len, rfl, fun _ _ => rfl, rfl, hc⟩
        refine R_aload_n dX11_changeCoach_0 rfl (?_ : RR _ _ _ _ 1 _ _ _ _)
        refine R_getr dX11_changeCoach_1 flX11_29 cok_11 rfl (by decide) (?_ : RR _ _ _ _ 4 _ _ _ _)
        refine R_iload_n dX11_changeCoach_4 rfl (?_ : RR _ _ _ _ 5 _ _ _ _)
        refine R_cVi1 dX11_changeCoach_5 mvX2_has mlX11_202 (by decide) (by decide) (Nat.le_of_ble_eq_true rfl) (Nat.le_of_ble_eq_true rfl) (T_X2_has) (?_ : RR _ _ _ _ 8 _ _ _ _)
        rw [hr.1, if_pos (by omega)]
        refine R_if_eq (t := 22) dX11_changeCoach_8 rfl (fun c8 => ?_) (fun c8 => ?_)
        · exfalso; omega
        refine R_aload_n dX11_changeCoach_11 rfl (?_ : RR _ _ _ _ 12 _ _ _ _)
        refine R_getr dX11_changeCoach_12 flX11_36 cok_11 rfl (by decide) (?_ : RR _ _ _ _ 15 _ _ _ _)
        refine R_iload_n dX11_changeCoach_15 rfl (?_ : RR _ _ _ _ 16 _ _ _ _)
        refine R_cVi1 dX11_changeCoach_16 mvX9_has mlX11_174 (by decide) (by decide) (Nat.le_of_ble_eq_true rfl) (Nat.le_of_ble_eq_true rfl) (T_X9_has) (?_ : RR _ _ _ _ 19 _ _ _ _)
        rw [e2, if_pos (by omega)]
        refine R_if_ne (t := 24) dX11_changeCoach_19 rfl (fun c19 => ?_) (fun c19 => ?_)
        rotate_left
        · exfalso; omega
        refine R_aload_n dX11_changeCoach_24 rfl (?_ : RR _ _ _ _ 25 _ _ _ _)
        refine R_getr dX11_changeCoach_25 flX11_36 cok_11 rfl (by decide) (?_ : RR _ _ _ _ 28 _ _ _ _)
        refine R_getr dX11_changeCoach_28 flX11_205 cok_9 rfl (by decide) (?_ : RR _ _ _ _ 31 _ _ _ _)
        refine R_iload_n dX11_changeCoach_31 rfl (?_ : RR _ _ _ _ 32 _ _ _ _)
        refine R_iald dX11_changeCoach_32 (fun q32 => (?_ : RR _ _ _ _ 33 _ _ _ _))
        rw [hse] at q32 ⊢
        refine R_istore_n dX11_changeCoach_33 (Nat.le_of_ble_eq_true rfl) (?_ : RR _ _ _ _ 34 [_, _, _, _] _ _ _)
        refine R_iload_n dX11_changeCoach_34 rfl (?_ : RR _ _ _ _ 35 _ _ _ _)
        refine R_iconst dX11_changeCoach_35 (?_ : RR _ _ _ _ 36 _ _ _ _)
        refine R_icmp_ne (t := 42) dX11_changeCoach_36 rfl (fun c36 => ?_) (fun c36 => ?_)
        rotate_left
        · exfalso; omega
        refine R_aload_n dX11_changeCoach_42 rfl (?_ : RR _ _ _ _ 43 _ _ _ _)
        refine R_getr dX11_changeCoach_43 flX11_36 cok_11 rfl (by decide) (?_ : RR _ _ _ _ 46 _ _ _ _)
        refine R_iload_n dX11_changeCoach_46 rfl (?_ : RR _ _ _ _ 47 _ _ _ _)
        refine R_iload_n dX11_changeCoach_47 rfl (?_ : RR _ _ _ _ 48 _ _ _ _)
        refine R_cVi2 dX11_changeCoach_48 mvX9_areNeighbours mlX11_458 (by decide) (by decide) (Nat.le_of_ble_eq_true rfl) (Nat.le_of_ble_eq_true rfl) (T_X9_areNeighbours (t := 14) (hpa := by omega) (hpb := by omega)) (?_ : RR _ _ _ _ 51 _ _ _ _)
        rw [hra, hrb, if_neg q3]
        refine R_if_ne (t := 57) dX11_changeCoach_51 rfl (fun c51 => ?_) (fun c51 => ?_)
        · exfalso; omega
        refine R_bipush dX11_changeCoach_54 rfl (?_ : RR _ _ _ _ 56 _ _ _ _)
        exact R_ireturn dX11_changeCoach_56 trivial hq
  · rw [if_pos q]
    have hq : aPo X H h (-1, f) (some (pI (-1))) (shp0, rf0, h) := ⟨h, len, rfl, fun _ _ => rfl, rfl, hc⟩
    by_cases q2 : 0 ≤ p ∧ p < xP X
    · refine R_aload_n dX11_changeCoach_0 rfl (?_ : RR _ _ _ _ 1 _ _ _ _)
      refine R_getr dX11_changeCoach_1 flX11_29 cok_11 rfl (by decide) (?_ : RR _ _ _ _ 4 _ _ _ _)
      refine R_iload_n dX11_changeCoach_4 rfl (?_ : RR _ _ _ _ 5 _ _ _ _)
      refine R_cVi1 dX11_changeCoach_5 mvX2_has mlX11_202 (by decide) (by decide) (Nat.le_of_ble_eq_true rfl) (Nat.le_of_ble_eq_true rfl) (T_X2_has) (?_ : RR _ _ _ _ 8 _ _ _ _)
      rw [hr.1, if_pos q2]
      refine R_if_eq (t := 22) dX11_changeCoach_8 rfl (fun c8 => ?_) (fun c8 => ?_)
      · exfalso; omega
      refine R_aload_n dX11_changeCoach_11 rfl (?_ : RR _ _ _ _ 12 _ _ _ _)
      refine R_getr dX11_changeCoach_12 flX11_36 cok_11 rfl (by decide) (?_ : RR _ _ _ _ 15 _ _ _ _)
      refine R_iload_n dX11_changeCoach_15 rfl (?_ : RR _ _ _ _ 16 _ _ _ _)
      refine R_cVi1 dX11_changeCoach_16 mvX9_has mlX11_174 (by decide) (by decide) (Nat.le_of_ble_eq_true rfl) (Nat.le_of_ble_eq_true rfl) (T_X9_has) (?_ : RR _ _ _ _ 19 _ _ _ _)
      rw [e2, if_neg (fun z => q ⟨q2, z⟩)]
      refine R_if_ne (t := 24) dX11_changeCoach_19 rfl (fun c19 => ?_) (fun c19 => ?_)
      · exfalso; omega
      refine R_iconst dX11_changeCoach_22 (?_ : RR _ _ _ _ 23 _ _ _ _)
      exact R_ireturn dX11_changeCoach_23 trivial hq
    · refine R_aload_n dX11_changeCoach_0 rfl (?_ : RR _ _ _ _ 1 _ _ _ _)
      refine R_getr dX11_changeCoach_1 flX11_29 cok_11 rfl (by decide) (?_ : RR _ _ _ _ 4 _ _ _ _)
      refine R_iload_n dX11_changeCoach_4 rfl (?_ : RR _ _ _ _ 5 _ _ _ _)
      refine R_cVi1 dX11_changeCoach_5 mvX2_has mlX11_202 (by decide) (by decide) (Nat.le_of_ble_eq_true rfl) (Nat.le_of_ble_eq_true rfl) (T_X2_has) (?_ : RR _ _ _ _ 8 _ _ _ _)
      rw [hr.1, if_neg q2]
      refine R_if_eq (t := 22) dX11_changeCoach_8 rfl (fun c8 => ?_) (fun c8 => ?_)
      rotate_left
      · exfalso; omega
      refine R_iconst dX11_changeCoach_22 (?_ : RR _ _ _ _ 23 _ _ _ _)
      exact R_ireturn dX11_changeCoach_23 trivial hq
end AD
