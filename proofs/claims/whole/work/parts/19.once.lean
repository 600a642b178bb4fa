theorem trHal_eq {h : Nat → Int → Int} {t : Nat} : trHal h t = halS (h t 0) (h (t + 2)) (h (t + 3)) := rfl
theorem T_X5_once {n t r np len : Nat} {bh : Int} {sem : Sem} {h : Nat → Int → Int} (hnp : h 11 0 = np) (hE : exB (h (n + 1))) (hM : miB (h (n + 2))) (hB : bnd (h (n + 3))) (hs : seB (h (t + 4)) np) (hha : ∀ j : Nat, j < np → h (t + 4) j ≠ -1 → 0 ≤ halS (h t 0) (h (t + 2)) (h (t + 3)) (h (t + 4) j) ∧ halS (h t 0) (h (t + 2)) (h (t + 3)) (h (t + 4) j) < 9) (hwa : ∀ j : Nat, j < np → 0 ≤ h 12 j ∧ h 12 j < 9) (hnow : 0 ≤ h t 1 ∧ h t 1 ≤ 2000000000) (hen : 0 ≤ h t 0 ∧ h t 0 < 9) (hru : ruOK h r sem) (hlen : h t 3 = len) (hor : ∀ j : Nat, j < len → 0 ≤ h (t + 1) j ∧ h (t + 1) j < 6)
    (ht : isTr t := by assumption) (hnn : isNet n := by assumption) (hr : isRule r := by assumption) (htb : 13 < t ∧ t + 4 < 29 := by omega) (hnb : n + 3 < 11 := by omega) (hrb : 29 ≤ r ∧ r + 2 < 35 := by omega) (h12 : np ≤ 12 := by omega) (hl6 : len ≤ 6 := by omega) (hbh : bh = 0 ∨ bh = 1 := by omega) :
    RR mX5_once 4 0 0 0 (pm_ent [pR 35, pR n, pR t, pR 11, pR r, pI bh] 8) [] (shp0, rf0, h) (fun r' g' => ∃ h', g' = (shp0, rf0, h') ∧ onP sem h n t r np len bh r' h') := by
  obtain ⟨t0, t1, t2, t3, t4, t5, t6, t7, t8⟩ := id ht
  obtain ⟨n0, n1, n2, n3, n4, n5, n6⟩ := id hnn
  obtain ⟨r0, r1, r2, r3, r4⟩ := id hr
  show RR mX5_once _ _ _ _ [pR 35, pR n, pR t, pR 11, pR r, pI bh, pU, pU] _ _ _
  suffices hS : ∀ Q : Option PV → PH → Prop, (∀ r' h', onP sem h n t r np len bh r' h' → Q r' (shp0, rf0, h')) → RR mX5_once 4 0 0 0 [pR 35, pR n, pR t, pR 11, pR r, pI bh, pU, pU] [] (shp0, rf0, h) Q from hS _ (fun r' h' q => ⟨h', rfl, q⟩)
  intro Q hQ
  obtain ⟨crs, hcrs⟩ : ∃ crs, crs = onCrs sem h n t np len bh := ⟨_, rfl⟩
  have hcb : 0 ≤ crs ∧ crs ≤ 2 := by
    rw [hcrs]
    unfold onCrs
    split <;> exact chS_b
  obtain ⟨X, hX⟩ : ∃ X, X = fup (fup (fup (h 35) 1 0) 2 0) 3 1 := ⟨_, rfl⟩
  have hX1 : X 1 = 0 := by rw [hX]; simp (disch := omega) only [fup_n, fup_s]
  have hX2 : X 2 = 0 := by rw [hX]; simp (disch := omega) only [fup_n, fup_s]
  have hX3 : X 3 = 1 := by rw [hX, fup_s]
  have K50 : ∀ h2 : Nat → Int → Int, (∀ a, a ≠ r + 2 → a ≠ 35 → ¬ (37 ≤ a ∧ a ≤ 43) → h2 a = h a) → h2 39 = onSu sem h n t np → h2 40 = onAl sem h n t np → h2 35 = X → RR mX5_once 4 0 0 50 [pR 35, pR n, pR t, pR 11, pR r, pI bh, pU, pU] [pI crs] (shp0, rf0, h2) Q := by
    intro h2 hfr e39 e40 e35
    have et := hfr t (by omega) (by omega) (by omega)
    have et1 := hfr (t + 1) (by omega) (by omega) (by omega)
    have et2 := hfr (t + 2) (by omega) (by omega) (by omega)
    have et3 := hfr (t + 3) (by omega) (by omega) (by omega)
    have et4 := hfr (t + 4) (by omega) (by omega) (by omega)
    have en1 := hfr (n + 1) (by omega) (by omega) (by omega)
    have en2 := hfr (n + 2) (by omega) (by omega) (by omega)
    have e11 := hfr 11 (by omega) (by omega) (by omega)
    have e12 := hfr 12 (by omega) (by omega) (by omega)
    by_cases hst : crs = 2 ∨ h (n + 1) (2 * h t 0 + crs) = -1
    · have hq : Q (some (pI 2)) (shp0, rf0, rup h2 t (fup (h t) 1 (h t 1 + 1))) := by
        refine hQ _ _ ⟨fun a a1 a2 a3 a4 a5 a6 a7 => by rw [rup_n a1]; exact hfr a a7 a5 a6, by rw [rup_n (by omega)]; exact e40, fun _ => ⟨rfl, rup_s, by rw [rup_n (by omega)]; exact et2, by rw [rup_n (by omega)]; exact et3, by rw [rup_n (by omega)]; exact et4, by rw [rup_n (by omega), e35]; exact hX1, by rw [rup_n (by omega), e35]; exact hX2, by rw [rup_n (by omega), e35]; exact hX3⟩, fun q => absurd (hcrs ▸ hst) q⟩
      refine R_istore dX5_once_50 (Nat.le_of_ble_eq_true rfl) (?_ : RR _ _ _ _ 52 [_, _, _, _, _, _, _, _] _ _ _)
      refine R_iload dX5_once_52 rfl (?_ : RR _ _ _ _ 54 _ _ _ _)
      refine R_iconst dX5_once_54 (?_ : RR _ _ _ _ 55 _ _ _ _)
      refine R_icmp_eq (t := 76) dX5_once_55 rfl (fun c55 => ?_) (fun c55 => ?_)
      · refine R_aload_n dX5_once_76 rfl (?_ : RR _ _ _ _ 77 _ _ _ _)
        refine R_dup dX5_once_77 (fun _ => rfl) (?_ : RR _ _ _ _ 78 _ _ _ _)
        refine R_geti (z := 1) dX5_once_78 flX5_51 cok_9 rfl (by decide) rfl (fun q78 => (?_ : RR _ _ _ _ 81 _ _ _ _))
        try simp (disch := omega) only [rup_rup, rup_sort, rupS_def, rup_s, rup_n, fup_fup, fup_s, fup_n, et, et1, et2, et3, et4, en1, en2] at q78 ⊢
        refine R_iconst dX5_once_81 (?_ : RR _ _ _ _ 82 _ _ _ _)
        refine R_iadd dX5_once_82 (?_ : RR _ _ _ _ 83 _ _ _ _)
        refine R_puti (zk := 1) dX5_once_83 flX5_51 cok_9 (by decide) (fun q hq => by cases hq; rfl) rfl (?_ : RR _ _ _ _ 86 _ _ _ _)
        try simp (disch := omega) only [rup_rup, rup_sort, rupS_def, rup_s, rup_n, fup_fup, fup_s, fup_n, et, et1, et2, et3, et4, en1, en2]
        refine R_iconst dX5_once_86 (?_ : RR _ _ _ _ 87 _ _ _ _)
        exact R_ireturn dX5_once_87 trivial hq
      · refine R_aload_n dX5_once_58 rfl (?_ : RR _ _ _ _ 59 _ _ _ _)
        refine R_getr dX5_once_59 flX5_40 cok_0 rfl (by decide) (?_ : RR _ _ _ _ 62 _ _ _ _)
        refine R_iconst dX5_once_62 (?_ : RR _ _ _ _ 63 _ _ _ _)
        refine R_aload_n dX5_once_63 rfl (?_ : RR _ _ _ _ 64 _ _ _ _)
        refine R_geti (z := 0) dX5_once_64 flX5_46 cok_9 rfl (by decide) rfl (fun q64 => (?_ : RR _ _ _ _ 67 _ _ _ _))
        try simp (disch := omega) only [rup_rup, rup_sort, rupS_def, rup_s, rup_n, fup_fup, fup_s, fup_n, et, et1, et2, et3, et4, en1, en2] at q64 ⊢
        refine R_imul dX5_once_67 (?_ : RR _ _ _ _ 68 _ _ _ _)
        refine R_iload dX5_once_68 rfl (?_ : RR _ _ _ _ 70 _ _ _ _)
        refine R_iadd dX5_once_70 (?_ : RR _ _ _ _ 71 _ _ _ _)
        refine R_iald dX5_once_71 (fun q71 => (?_ : RR _ _ _ _ 72 _ _ _ _))
        try simp (disch := omega) only [rup_rup, rup_sort, rupS_def, rup_s, rup_n, fup_fup, fup_s, fup_n, et, et1, et2, et3, et4, en1, en2] at q71 ⊢
        refine R_iconst dX5_once_72 (?_ : RR _ _ _ _ 73 _ _ _ _)
        refine R_icmp_ne (t := 88) dX5_once_73 rfl (fun c73 => ?_) (fun c73 => ?_)
        · exfalso; omega
        refine R_aload_n dX5_once_76 rfl (?_ : RR _ _ _ _ 77 _ _ _ _)
        refine R_dup dX5_once_77 (fun _ => rfl) (?_ : RR _ _ _ _ 78 _ _ _ _)
        refine R_geti (z := 1) dX5_once_78 flX5_51 cok_9 rfl (by decide) rfl (fun q78 => (?_ : RR _ _ _ _ 81 _ _ _ _))
        try simp (disch := omega) only [rup_rup, rup_sort, rupS_def, rup_s, rup_n, fup_fup, fup_s, fup_n, et, et1, et2, et3, et4, en1, en2] at q78 ⊢
        refine R_iconst dX5_once_81 (?_ : RR _ _ _ _ 82 _ _ _ _)
        refine R_iadd dX5_once_82 (?_ : RR _ _ _ _ 83 _ _ _ _)
        refine R_puti (zk := 1) dX5_once_83 flX5_51 cok_9 (by decide) (fun q hq => by cases hq; rfl) rfl (?_ : RR _ _ _ _ 86 _ _ _ _)
        try simp (disch := omega) only [rup_rup, rup_sort, rupS_def, rup_s, rup_n, fup_fup, fup_s, fup_n, et, et1, et2, et3, et4, en1, en2]
        refine R_iconst dX5_once_86 (?_ : RR _ _ _ _ 87 _ _ _ _)
        exact R_ireturn dX5_once_87 trivial hq
    · have hc2 : ¬ crs = 2 := fun q => hst (Or.inl q)
      have hx : ¬ h (n + 1) (2 * h t 0 + crs) = -1 := fun q => hst (Or.inr q)
      have hxe := hE (2 * h t 0 + crs) (by omega) (by omega)
      have hme := hM (2 * h t 0 + crs) (by omega) (by omega)
      obtain ⟨a, ha⟩ : ∃ a, a = onAlong sem h n t np len crs := ⟨_, rfl⟩
      have hab := algS_b (fun i => decide (vcS (onSu sem h n t np) (h (t + 1) i) = crs)) len 0
      have hal : a ≤ len := by rw [ha]; unfold onAlong; omega
      have hshb := shB_lt (ord := h (t + 1)) (lo := a) (k := len - a) (fun j hj => hor j (by omega))
      obtain ⟨P', hP'⟩ : ∃ P', P' = shF (h (t + 1)) (-1) (h (t + 2)) a (len - a) := ⟨_, rfl⟩
      obtain ⟨S', hS'⟩ : ∃ S', S' = shF (h (t + 1)) (h t 0) (h (t + 3)) a (len - a) := ⟨_, rfl⟩
      obtain ⟨T', hT'⟩ : ∃ T', T' = fup (fup (fup (h t) 3 a) 0 (h (n + 1) (2 * h t 0 + crs))) 1 (h t 1 + h (n + 2) (2 * h t 0 + crs)) := ⟨_, rfl⟩
      have hT0 : T' 0 = h (n + 1) (2 * h t 0 + crs) := by rw [hT']; simp (disch := omega) only [fup_n, fup_s]
      obtain ⟨B, hBB⟩ : ∃ B : Nat, B = bset (fun j => decide (h (t + 4) j ≠ -1 ∧ halS (T' 0) P' S' (h (t + 4) j) = h 12 j)) np := ⟨_, rfl⟩
      have hBl : B < 2147483648 := by rw [hBB]; exact bset_31 (by omega)
      have hq : Q (some (pI crs)) (shp0, rf0, rup (rup (rup (rup (rup h2 t T') (t + 2) P') (t + 3) S') (t + 4) (outF (h 12) (halS (T' 0) P' S') (h (t + 4)) np)) 35 (fup (fup (fup X 3 (h (n + 2) (2 * h t 0 + crs))) 1 (shB (h (t + 1)) a (len - a))) 2 B)) := by
        refine hQ _ _ ⟨fun a a1 a2 a3 a4 a5 a6 a7 => ?_, ?_, fun q => absurd (hcrs ▸ q) hst, fun _ c e a' hc he ha' => ?_⟩
        · rw [rup_n a5, rup_n a4, rup_n a3, rup_n a2, rup_n a1]
          exact hfr a a7 a5 a6
        · simp (disch := omega) only [rup_n]
          exact e40
        · have e1 : c = crs := hc.trans hcrs.symm
          subst e1
          subst he
          have e2 : a' = a := ha'.trans ha.symm
          subst e2
          simp (disch := omega) only [rup_n, rup_s, fup_n, fup_s]
          refine ⟨trivial, hT', hP', hS', by rw [hT0], trivial, ?_, trivial⟩
          rw [hBB, hT0]
      refine R_istore dX5_once_50 (Nat.le_of_ble_eq_true rfl) (?_ : RR _ _ _ _ 52 [_, _, _, _, _, _, _, _] _ _ _)
      refine R_iload dX5_once_52 rfl (?_ : RR _ _ _ _ 54 _ _ _ _)
      refine R_iconst dX5_once_54 (?_ : RR _ _ _ _ 55 _ _ _ _)
      refine R_icmp_eq (t := 76) dX5_once_55 rfl (fun c55 => ?_) (fun c55 => ?_)
      · exfalso; omega
      refine R_aload_n dX5_once_58 rfl (?_ : RR _ _ _ _ 59 _ _ _ _)
      refine R_getr dX5_once_59 flX5_40 cok_0 rfl (by decide) (?_ : RR _ _ _ _ 62 _ _ _ _)
      refine R_iconst dX5_once_62 (?_ : RR _ _ _ _ 63 _ _ _ _)
      refine R_aload_n dX5_once_63 rfl (?_ : RR _ _ _ _ 64 _ _ _ _)
      refine R_geti (z := 0) dX5_once_64 flX5_46 cok_9 rfl (by decide) rfl (fun q64 => (?_ : RR _ _ _ _ 67 _ _ _ _))
      try simp (disch := omega) only [rup_rup, rup_sort, rupS_def, rup_s, rup_n, fup_fup, fup_s, fup_n, et, et1, et2, et3, et4, en1, en2, e35, e39, e11, e12] at q64 ⊢
      refine R_imul dX5_once_67 (?_ : RR _ _ _ _ 68 _ _ _ _)
      refine R_iload dX5_once_68 rfl (?_ : RR _ _ _ _ 70 _ _ _ _)
      refine R_iadd dX5_once_70 (?_ : RR _ _ _ _ 71 _ _ _ _)
      refine R_iald dX5_once_71 (fun q71 => (?_ : RR _ _ _ _ 72 _ _ _ _))
      try simp (disch := omega) only [rup_rup, rup_sort, rupS_def, rup_s, rup_n, fup_fup, fup_s, fup_n, et, et1, et2, et3, et4, en1, en2, e35, e39, e11, e12] at q71 ⊢
      refine R_iconst dX5_once_72 (?_ : RR _ _ _ _ 73 _ _ _ _)
      refine R_icmp_ne (t := 88) dX5_once_73 rfl (fun c73 => ?_) (fun c73 => ?_)
      rotate_left
      · exfalso; omega
      refine R_iconst dX5_once_88 (?_ : RR _ _ _ _ 89 _ _ _ _)
      refine R_aload_n dX5_once_89 rfl (?_ : RR _ _ _ _ 90 _ _ _ _)
      refine R_geti (z := 0) dX5_once_90 flX5_46 cok_9 rfl (by decide) rfl (fun q90 => (?_ : RR _ _ _ _ 93 _ _ _ _))
      try simp (disch := omega) only [rup_rup, rup_sort, rupS_def, rup_s, rup_n, fup_fup, fup_s, fup_n, et, et1, et2, et3, et4, en1, en2, e35, e39, e11, e12] at q90 ⊢
      refine R_imul dX5_once_93 (?_ : RR _ _ _ _ 94 _ _ _ _)
      refine R_iload dX5_once_94 rfl (?_ : RR _ _ _ _ 96 _ _ _ _)
      refine R_iadd dX5_once_96 (?_ : RR _ _ _ _ 97 _ _ _ _)
      refine R_istore dX5_once_97 (Nat.le_of_ble_eq_true rfl) (?_ : RR _ _ _ _ 99 [_, _, _, _, _, _, _, _] _ _ _)
      refine R_aload_n dX5_once_99 rfl (?_ : RR _ _ _ _ 100 _ _ _ _)
      refine R_aload_n dX5_once_100 rfl (?_ : RR _ _ _ _ 101 _ _ _ _)
      refine R_getr dX5_once_101 flX5_54 cok_0 rfl (by decide) (?_ : RR _ _ _ _ 104 _ _ _ _)
      refine R_iload dX5_once_104 rfl (?_ : RR _ _ _ _ 106 _ _ _ _)
      refine R_iald dX5_once_106 (fun q106 => (?_ : RR _ _ _ _ 107 _ _ _ _))
      try simp (disch := omega) only [rup_rup, rup_sort, rupS_def, rup_s, rup_n, fup_fup, fup_s, fup_n, et, et1, et2, et3, et4, en1, en2, e35, e39, e11, e12] at q106 ⊢
      refine R_puti (zk := 3) dX5_once_107 flX5_25 cok_5 (by decide) (fun q hq => by cases hq; rfl) rfl (?_ : RR _ _ _ _ 110 _ _ _ _)
      try simp (disch := omega) only [rup_rup, rup_sort, rupS_def, rup_s, rup_n, fup_fup, fup_s, fup_n, et, et1, et2, et3, et4, en1, en2, e35, e39, e11, e12]
      refine R_aload_n dX5_once_110 rfl (?_ : RR _ _ _ _ 111 _ _ _ _)
      refine R_aload_n dX5_once_111 rfl (?_ : RR _ _ _ _ 112 _ _ _ _)
      refine R_aload_n dX5_once_112 rfl (?_ : RR _ _ _ _ 113 _ _ _ _)
      refine R_getr dX5_once_113 flX5_12 cok_5 rfl (by decide) (?_ : RR _ _ _ _ 116 _ _ _ _)
      refine R_aload_n dX5_once_116 rfl (?_ : RR _ _ _ _ 117 _ _ _ _)
      refine R_iload dX5_once_117 rfl (?_ : RR _ _ _ _ 119 _ _ _ _)
      refine R_cVi2 dX5_once_119 mvX10_alongBy mlX5_56 (by decide) (by decide) (Nat.le_of_ble_eq_true rfl) (Nat.le_of_ble_eq_true rfl) (T_X10_alongBy (n := len) (by simp (disch := omega) only [rup_n, et]; exact hlen) (by simp (disch := omega) only [rup_n, et1]; exact hor)) (?_ : RR _ _ _ _ 122 _ _ _ _)
      try simp (disch := omega) only [rup_rup, rup_sort, rupS_def, rup_s, rup_n, fup_fup, fup_s, fup_n, et, et1, et2, et3, et4, en1, en2, e35, e39, e11, e12]
      show RR _ _ _ _ _ _ (pI (onAlong sem h n t np len crs : Nat) :: _) _ _
      rw [← ha]
      refine R_aload_n dX5_once_122 rfl (?_ : RR _ _ _ _ 123 _ _ _ _)
      refine R_getr dX5_once_123 flX5_40 cok_0 rfl (by decide) (?_ : RR _ _ _ _ 126 _ _ _ _)
      refine R_iload dX5_once_126 rfl (?_ : RR _ _ _ _ 128 _ _ _ _)
      refine R_iald dX5_once_128 (fun q128 => (?_ : RR _ _ _ _ 129 _ _ _ _))
      try simp (disch := omega) only [rup_rup, rup_sort, rupS_def, rup_s, rup_n, fup_fup, fup_s, fup_n, et, et1, et2, et3, et4, en1, en2, e35, e39, e11, e12] at q128 ⊢
      refine R_aload_n dX5_once_129 rfl (?_ : RR _ _ _ _ 130 _ _ _ _)
      refine R_geti (z := 3) dX5_once_130 flX5_25 cok_5 rfl (by decide) rfl (fun q130 => (?_ : RR _ _ _ _ 133 _ _ _ _))
      try simp (disch := omega) only [rup_rup, rup_sort, rupS_def, rup_s, rup_n, fup_fup, fup_s, fup_n, et, et1, et2, et3, et4, en1, en2, e35, e39, e11, e12] at q130 ⊢
      refine R_cVi3 dX5_once_133 mvX9_leave mlX5_60 (by decide) (by decide) (Nat.le_of_ble_eq_true rfl) (Nat.le_of_ble_eq_true rfl) (T_X9_leave (n := len) (by simp (disch := omega) only [rup_n, et]; exact hlen) (by simp (disch := omega) only [rup_n, et1]; exact hor) (by simp (disch := omega) only [rup_n, et]; omega)) (?_ : RR _ _ _ _ 136 _ _ _ _)
      try simp (disch := omega) only [rup_rup, rup_sort, rupS_def, rup_s, rup_n, fup_fup, fup_s, fup_n, et, et1, et2, et3, et4, en1, en2, e35, e39, e11, e12]
      rw [← hP', ← hS', ← hT']
      refine R_puti (zk := 1) dX5_once_136 flX5_18 cok_5 (by decide) (fun q hq => by cases hq; rfl) rfl (?_ : RR _ _ _ _ 139 _ _ _ _)
      try simp (disch := omega) only [rup_rup, rup_sort, rupS_def, rup_s, rup_n, fup_fup, fup_s, fup_n, et, et1, et2, et3, et4, en1, en2, e35, e39, e11, e12]
      refine R_nzf (fun hz => ?_)
      refine R_aload_n dX5_once_139 rfl (?_ : RR _ _ _ _ 140 _ _ _ _)
      refine R_aload_n dX5_once_140 rfl (?_ : RR _ _ _ _ 141 _ _ _ _)
      refine R_aload_n dX5_once_141 rfl (?_ : RR _ _ _ _ 142 _ _ _ _)
      refine R_cVi1 dX5_once_142 mvX9_letOut mlX5_64 (by decide) (by decide) (Nat.le_of_ble_eq_true rfl) (Nat.le_of_ble_eq_true rfl) (T_X9_letOut (n := np) (by simp (disch := omega) only [rup_n, e11]; exact hnp) (by simp (disch := omega) only [rup_n, et4]; exact hs) (hw := fun c => by unfold trHal; split; exact nz_i hz t7 (by decide) c; exact nz_i hz t0 (by decide) 0)) (?_ : RR _ _ _ _ 145 _ _ _ _)
      try simp (disch := omega) only [rup_rup, rup_sort, rupS_def, rup_s, rup_n, fup_fup, fup_s, fup_n, et, et1, et2, et3, et4, en1, en2, e35, e39, e11, e12]
      simp (disch := omega) only [trHal_eq, rup_sort, rupS_def, rup_s, rup_n]
      show RR _ _ _ _ _ _ (pI (bset (fun j => decide (h (t + 4) j ≠ -1 ∧ halS (T' 0) P' S' (h (t + 4) j) = h 12 j)) np : Nat) :: _) _ _
      rw [← hBB]
      refine R_puti (zk := 2) dX5_once_145 flX5_22 cok_5 (by decide) (fun q hq => by cases hq; rfl) rfl (?_ : RR _ _ _ _ 148 _ _ _ _)
      try simp (disch := omega) only [rup_rup, rup_sort, rupS_def, rup_s, rup_n, fup_fup, fup_s, fup_n, et, et1, et2, et3, et4, en1, en2, e35, e39, e11, e12]
      refine R_iload dX5_once_148 rfl (?_ : RR _ _ _ _ 150 _ _ _ _)
      exact R_ireturn dX5_once_150 trivial hq
  have K27 : ∀ h1 : Nat → Int → Int, (∀ a, a ≠ r + 2 → a ≠ 35 → ¬ (37 ≤ a ∧ a ≤ 43) → h1 a = h a) → h1 39 = onSu sem h n t np → h1 40 = onAl sem h n t np → h1 42 = h 42 → h1 35 = X → RR mX5_once 4 0 0 27 [pR 35, pR n, pR t, pR 11, pR r, pI bh, pU, pU] [] (shp0, rf0, h1) Q := by
    intro h1 hfr e39 e40 e42 e35
    refine R_iload dX5_once_27 rfl (?_ : RR _ _ _ _ 29 _ _ _ _)
    refine R_if_eq (t := 43) dX5_once_29 rfl (fun c29 => ?_) (fun c29 => ?_)
    · unfold onCrs at hcrs
      rw [if_pos c29] at hcrs
      refine R_aload_n dX5_once_43 rfl (?_ : RR _ _ _ _ 44 _ _ _ _)
      refine R_getr dX5_once_44 flX5_12 cok_5 rfl (by decide) (?_ : RR _ _ _ _ 47 _ _ _ _)
      refine R_cVi0 dX5_once_47 mvX10_voteOfAll mlX5_36 (by decide) (by decide) (Nat.le_of_ble_eq_true rfl) (Nat.le_of_ble_eq_true rfl) (T_X10_voteOfAll) (?_ : RR _ _ _ _ 50 _ _ _ _)
      try simp (disch := omega) only [rup_rup, rup_sort, rupS_def, rup_s, rup_n, fup_fup, fup_s, fup_n, e39, e40, e42]
      rw [← hcrs]
      exact K50 h1 hfr e39 e40 e35
    · unfold onCrs at hcrs
      rw [if_neg c29] at hcrs
      refine R_aload_n dX5_once_32 rfl (?_ : RR _ _ _ _ 33 _ _ _ _)
      refine R_getr dX5_once_33 flX5_12 cok_5 rfl (by decide) (?_ : RR _ _ _ _ 36 _ _ _ _)
      refine R_aload_n dX5_once_36 rfl (?_ : RR _ _ _ _ 37 _ _ _ _)
      refine R_cVi1 dX5_once_37 mvX10_voteOfHeads mlX5_32 (by decide) (by decide) (Nat.le_of_ble_eq_true rfl) (Nat.le_of_ble_eq_true rfl) (T_X10_voteOfHeads (n := len) (by rw [hfr t (by omega) (by omega) (by omega)]; exact hlen) (by rw [hfr (t + 1) (by omega) (by omega) (by omega)]; exact hor)) (?_ : RR _ _ _ _ 40 _ _ _ _)
      try simp (disch := omega) only [rup_rup, rup_sort, rupS_def, rup_s, rup_n, fup_fup, fup_s, fup_n, e39, e40, e42]
      rw [hfr (t + 1) (by omega) (by omega) (by omega)]
      refine R_goto (t := 50) dX5_once_40 rfl (?_ : RR _ _ _ _ 50 _ _ _ _)
      rw [← hcrs]
      exact K50 (rup h1 42 _) (fun a a1 a2 a3 => by rw [rup_n (by omega)]; exact hfr a a1 a2 a3) (by rw [rup_n (by omega)]; exact e39) (by rw [rup_n (by omega)]; exact e40) (by rw [rup_n (by omega)]; exact e35)
  refine R_aload_n dX5_once_0 rfl (?_ : RR _ _ _ _ 1 _ _ _ _)
  refine R_iconst dX5_once_1 (?_ : RR _ _ _ _ 2 _ _ _ _)
  refine R_puti (zk := 1) dX5_once_2 flX5_18 cok_5 (by decide) (fun q hq => by cases hq; rfl) rfl (?_ : RR _ _ _ _ 5 _ _ _ _)
  try simp (disch := omega) only [rup_rup, rup_sort, rupS_def, rup_s, rup_n, fup_fup, fup_s, fup_n]
  refine R_aload_n dX5_once_5 rfl (?_ : RR _ _ _ _ 6 _ _ _ _)
  refine R_iconst dX5_once_6 (?_ : RR _ _ _ _ 7 _ _ _ _)
  refine R_puti (zk := 2) dX5_once_7 flX5_22 cok_5 (by decide) (fun q hq => by cases hq; rfl) rfl (?_ : RR _ _ _ _ 10 _ _ _ _)
  try simp (disch := omega) only [rup_rup, rup_sort, rupS_def, rup_s, rup_n, fup_fup, fup_s, fup_n]
  refine R_aload_n dX5_once_10 rfl (?_ : RR _ _ _ _ 11 _ _ _ _)
  refine R_iconst dX5_once_11 (?_ : RR _ _ _ _ 12 _ _ _ _)
  refine R_puti (zk := 3) dX5_once_12 flX5_25 cok_5 (by decide) (fun q hq => by cases hq; rfl) rfl (?_ : RR _ _ _ _ 15 _ _ _ _)
  try simp (disch := omega) only [rup_rup, rup_sort, rupS_def, rup_s, rup_n, fup_fup, fup_s, fup_n]
  refine R_aload_n dX5_once_15 rfl (?_ : RR _ _ _ _ 16 _ _ _ _)
  refine R_getr dX5_once_16 flX5_12 cok_5 rfl (by decide) (?_ : RR _ _ _ _ 19 _ _ _ _)
  refine R_aload_n dX5_once_19 rfl (?_ : RR _ _ _ _ 20 _ _ _ _)
  refine R_aload_n dX5_once_20 rfl (?_ : RR _ _ _ _ 21 _ _ _ _)
  refine R_aload_n dX5_once_21 rfl (?_ : RR _ _ _ _ 22 _ _ _ _)
  refine R_aload dX5_once_22 rfl (?_ : RR _ _ _ _ 24 _ _ _ _)
  refine R_qV4 dX5_once_24 mvX10_hold mlX5_28 (by decide) (by decide) (Nat.le_of_ble_eq_true rfl) (Nat.le_of_ble_eq_true rfl) (T_X10_hold (sem := sem) (np := np) (by simp (disch := omega) only [rup_n]; exact hnp) (by simp (disch := omega) only [rup_n]; exact hE) (by simp (disch := omega) only [rup_n]; exact hM) (by simp (disch := omega) only [rup_n]; exact hB) (by simp (disch := omega) only [rup_n]; exact hs) (by simp (disch := omega) only [rup_n]; exact hha) (by simp (disch := omega) only [rup_n]; exact hwa) (by simp (disch := omega) only [rup_n]; exact hnow.1) (by unfold ruOK; simp (disch := omega) only [rup_n]; exact hru)) (fun r9 g9 hq9 => (?_ : RR _ _ _ _ 27 _ _ _ _))
  obtain ⟨rfl, th, sk, rfl⟩ := hq9
  rw [← hX]
  show RR _ _ _ _ 27 _ [] (shp0, rf0, hoH sem (rup h 35 X) n t r np th sk) _
  obtain ⟨h1, hh1⟩ : ∃ h1, h1 = hoH sem (rup h 35 X) n t r np th sk := ⟨_, rfl⟩
  rw [← hh1]
  have hfr : ∀ a, a ≠ r + 2 → a ≠ 35 → ¬ (37 ≤ a ∧ a ≤ 43) → h1 a = h a := by
    intro a a1 a2 a3
    rw [hh1]
    unfold hoH
    simp (disch := omega) only [rup_n]
  have e39 : h1 39 = onSu sem h n t np := by
    rw [hh1]
    unfold hoH onSu
    simp (disch := omega) only [rup_n, rup_s]
  have e40 : h1 40 = onAl sem h n t np := by
    rw [hh1]
    unfold hoH onAl
    simp (disch := omega) only [rup_n, rup_s]
  have e42 : h1 42 = h 42 := by
    rw [hh1]
    unfold hoH
    simp (disch := omega) only [rup_n, rup_s]
  have e35 : h1 35 = X := by
    rw [hh1]
    unfold hoH
    simp (disch := omega) only [rup_n, rup_s]
  try simp (disch := omega) only [rup_rup, rup_sort, rupS_def, rup_s, rup_n, fup_fup, fup_s, fup_n]
  exact K27 h1 hfr e39 e40 e42 e35
