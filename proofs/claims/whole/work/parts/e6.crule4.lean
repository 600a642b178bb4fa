section RU5
variable {h h1 h2 h3 h4 : Nat → Int → Int} {N d p b l m : Nat} {σ : Int → Int} {v : (Int → Int) → Int} {u : Bool}
theorem lvO_b {c : Int} : -1 ≤ lvO c ∧ lvO c ≤ 2 := by
  unfold lvO
  repeat' split
  all_goals omega
theorem C_loop (ih : ∀ N', N' < N → cLv σ b N') (hσn : ∀ p : Nat, b ≤ p → σ p = -1) (hσb : ∀ p : Int, -1 ≤ σ p ∧ σ p ≤ 255) (hb : b ≤ 40) (hm : m ≤ 2) (hd : d ≤ 4) (hl : l ≤ p) (hσ : ∀ p : Int, 0 ≤ p → signAt h p = σ p) : ∀ (N1 : Nat), N1 < N → ∀ (i q k0 : Nat) (v : (Int → Int) → Int) (u : Bool) (h1 : Nat → Int → Int) (w6 : PV), (m = 0 → i = 0) → i ≤ q → q ≤ b → crF h h1 l → crS h1 q (l + k0) u → k0 + p ≤ q → SgC (h1 33) l k0 v → gd v u → rpM (m + 4) q ≤ N1 → RR mX4_readLevel (3 * N + 8) 0 0 41 [pR 32, pR 1, pI m, pI d, pI (if m = 0 then 1 else 40), pI i, w6] [] (shp0, rf0, h1) (cLP (rp σ N1 (m + 4) d q v u) p l h) := by
  intro N1
  induction N1 with
  | zero => intro hN i q k0 v u h1 w6 _ _ hq _ _ _ _ _ hM; exfalso; unfold rpM at hM; rw [if_neg (by omega)] at hM; omega
  | succ N1 ihl =>
    intro hN i q k0 v u h1 w6 hi hiq hq f1 s1 k0b g1 hv hM
    have rr := isRule_32
    unfold rpM at hM
    rw [if_neg (by omega)] at hM
    obtain ⟨t1, t2, t3⟩ := id s1
    have A1 := T_X7_at (h := h1) (p := (q : Int))
    rw [sig_fr hσ f1 _ (by omega)] at A1
    have b1 := hσb q
    have hT := T_X4_levelOf (h := h1) (c := σ q) (by omega)
    have lb := lvO_b (c := σ q)
    obtain ⟨M, hMe⟩ : ∃ M : Int, M = (if m = 0 then 1 else 40) := ⟨_, rfl⟩
    have hMb : (m = 0 ∧ M = 1) ∨ (m ≠ 0 ∧ M = 40) := by
      rw [hMe]
      by_cases z : m = 0
      · left; exact ⟨z, if_pos z⟩
      · right; exact ⟨z, if_neg z⟩
    have e0 : rp σ (N1 + 1) (m + 4) d q v u = (if 0 ≤ amI (m + 1) (σ q) then (if (rp σ N1 (m + 1) d (q + 1) v u).2.1 ∧ m + 4 ≠ 4 then rp σ N1 (m + 4) d (rp σ N1 (m + 1) d (q + 1) v u).1 (rpo (σ q) v (rp σ N1 (m + 1) d (q + 1) v u)).2.2.1 (rp σ N1 (m + 1) d (q + 1) v u).2.2.2 else rpo (σ q) v (rp σ N1 (m + 1) d (q + 1) v u)) else (q, true, v, u)) := by
      show (if m + 4 = 3 then _ else if m + 4 < 3 then _ else _) = _
      rw [if_neg (by omega), if_neg (by omega)]
      rfl
    rw [e0, ← hMe]
    clear e0
    by_cases c1 : 0 ≤ amI (m + 1) (σ q)
    · rw [if_pos c1]
      have lv : lvO (σ q) = m := (lvO_e hm).mpr c1
      have hqb : q < b := by
        by_cases z : q < b
        · exact z
        · rw [hσn q (by omega), am_no (m + 1) (by omega)] at c1; omega
      have cb : 42 ≤ σ q ∧ σ q ≤ 62 := by
        unfold lvO at lv
        by_cases y1 : σ q = 60 ∨ σ q = 61 ∨ σ q = 62
        · omega
        · rw [if_neg y1] at lv
          by_cases y2 : σ q = 43 ∨ σ q = 45
          · omega
          · rw [if_neg y2] at lv
            by_cases y3 : σ q = 42 ∨ σ q = 47
            · omega
            · rw [if_neg y3] at lv; omega
      rw [lv] at hT
      obtain ⟨h5, h5e⟩ : ∃ h5, h5 = rup h1 32 (fup (h1 32) 3 ((q : Int) + 1)) := ⟨_, rfl⟩
      have f5 : crF h1 h5 (l + k0) := ⟨fun a a1 a2 => by rw [h5e, rup_n a1], fun j hj => by rw [h5e, rup_n (by omega)]⟩
      have s5 : crS h5 (q + 1) (l + k0) u := ⟨by rw [h5e, rup_s, fup_s]; omega, by rw [h5e, rup_s, fup_n (by omega)]; exact t2, by rw [h5e, rup_s, fup_n (by omega)]; exact t3⟩
      have hM2 : rpM (m + 1) (q + 1) ≤ N1 := by unfold rpM; rw [if_pos (by omega)]; omega
      have IH := ih N1 (by omega) (m + 1) d (q + 1) (l + k0) u v h5 (by omega) hd (by omega) (by omega) hM2 hv (sig_fr (sig_fr hσ f1) f5) s5
      have hbx := rp_b (σ := σ) hσn hb N1 (m + 1) d (q + 1) v u (by omega) (by omega) hM2
      have hgx := rp_v (σ := σ) N1 (m + 1) d (q + 1) v u (by omega) hv
      have IHL := ihl (by omega)
      generalize rp σ N1 (m + 1) d (q + 1) v u = x at *
      rw [show ((m + 1 : Nat) : Int) = (m : Int) + 1 by omega] at IH
      have ho : gd (rpo (σ q) v x).2.2.1 x.2.2.2 := ⟨fun th _ => w32_r _, fun z th th' w => by show w32 (rk (σ q) (v th) (x.2.2.1 th)) = w32 (rk (σ q) (v th') (x.2.2.1 th')); rw [hgx.1.2.1 z th th' w, hv.2.1 (hgx.2 z) th th' w], fun th th' w => by show w32 (rk (σ q) (v th) (x.2.2.1 th)) = w32 (rk (σ q) (v th') (x.2.2.1 th')); rw [hgx.1.2.2 th th' w, hv.2.2 th th' w]⟩
      have K88 : ∀ r' g', cLP x (q + 1) (l + k0) h5 r' g' → ∃ z : Int, r' = some (pI z) ∧ RR mX4_readLevel (3 * N + 8) 0 0 88 [pR 32, pR 1, pI m, pI d, pI M, pI i, pI (σ q)] [pI z] g' (cLP (if x.2.1 = true ∧ m + 4 ≠ 4 then rp σ N1 (m + 4) d x.1 (rpo (σ q) v x).2.2.1 x.2.2.2 else rpo (σ q) v x) p l h) := by
        intro r' g' hc
        obtain ⟨h6, rfl, f6, i6, ⟨o6, rfl, n6⟩ | ⟨o6, rfl, k, k1, s6, g6⟩⟩ := hc
        · refine ⟨0, rfl, ?_⟩
          rw [if_neg (fun w => by rw [o6] at w; cases w.1)]
          have hq2 : cLP (rpo (σ q) v x) p l h (some (pI 0)) (shp0, rf0, h6) := ⟨h6, rfl, crF_tr f1 (crF_tr f5 f6 (Nat.le_refl _)) (by omega), i6, Or.inl ⟨o6, rfl, n6⟩⟩
          generalize cLP (rpo (σ q) v x) p l h = QQ at *
          refine R_if_ne (t := 93) dX4_readLevel_88 rfl (fun c88 => ?_) (fun c88 => ?_)
          · exfalso; omega
          refine R_iconst dX4_readLevel_91 (?_ : RR _ _ _ _ 92 _ _ _ _)
          exact R_ireturn dX4_readLevel_92 (by first | exact Or.inl rfl | exact Or.inr rfl | exact ok_ite | omega | assumption) hq2
        · refine ⟨1, rfl, ?_⟩
          have hA := T_add32 (h := h6) (l := l + k0 + k) (c := -(σ q)) s6.2.1 (by omega) (by omega)
          obtain ⟨h7, h7e⟩ : ∃ h7, h7 = rup (rup h6 32 (fup (h6 32) 2 (((l + k0 + k : Nat) : Int) + 1))) 33 (fup (h6 33) ((l + k0 + k : Nat) : Int) (-(σ q))) := ⟨_, rfl⟩
          rw [← h7e] at hA
          have f7 : crF h h7 l := by
            have f0 := crF_tr f1 (crF_tr f5 f6 (Nat.le_refl _)) (show l ≤ l + k0 by omega)
            exact ⟨fun a a1 a2 => by rw [h7e, rup_n a2, rup_n a1]; exact f0.1 a a1 a2, fun j hj => by rw [h7e, rup_s, fup_n (by omega)]; exact f0.2 j hj⟩
          have s7 : crS h7 x.1 (l + (k0 + k + 1)) x.2.2.2 := ⟨by rw [h7e, rup_n (by omega), rup_s, fup_n (by omega)]; exact s6.1, by rw [h7e, rup_n (by omega), rup_s, fup_s]; omega, by rw [h7e, rup_n (by omega), rup_s, fup_n (by omega)]; exact s6.2.2⟩
          have g7 : SgC (h7 33) l (k0 + k + 1) (rpo (σ q) v x).2.2.1 := by
            have e33 : h7 33 = fup (h6 33) ((l + k0 + k : Nat) : Int) (-(σ q)) := by rw [h7e, rup_s]
            rw [e33]
            refine SgC_op (c := σ q) (SgC_cg g1 (fun j hj => ?_)) (SgC_cg g6 (fun j hj => fup_n (by omega))) (by rw [show l + (k0 + k) = l + k0 + k by omega]; exact fup_s) (by omega)
            rw [fup_n (by omega), f6.2 _ (by omega), f5.2 _ (by omega)]
          by_cases m0 : m = 0
          · rw [if_neg (fun w => w.2 (by omega))]
            have hq2 : cLP (rpo (σ q) v x) p l h (some (pI 1)) (shp0, rf0, h7) := ⟨h7, rfl, f7, s7.1, Or.inr ⟨o6, rfl, k0 + k + 1, by show k0 + k + 1 + p ≤ x.1; omega, s7, g7⟩⟩
            have hi0 := hi m0
            have hM1 : M = 1 := by omega
            subst hM1
            subst hi0
            clear IHL IH hgx ho g7 g6 g1 ihl
            generalize cLP (rpo (σ q) v x) p l h = QQ at *
            show RR mX4_readLevel (3 * N + 8) 0 0 88 [pR 32, pR 1, pI m, pI d, pI 1, pI 0, pI (σ q)] [pI 1] (shp0, rf0, h6) QQ
            refine R_if_ne (t := 93) dX4_readLevel_88 rfl (fun c88 => ?_) (fun c88 => ?_)
            rotate_left
            · exfalso; omega
            refine R_aload_n dX4_readLevel_93 rfl (?_ : RR _ _ _ _ 94 _ _ _ _)
            refine R_iload dX4_readLevel_94 rfl (?_ : RR _ _ _ _ 96 _ _ _ _)
            refine R_ineg dX4_readLevel_96 (?_ : RR _ _ _ _ 97 _ _ _ _)
            refine R_cVv1 dX4_readLevel_97 mvX4_add mlX4_55 (by decide) (by omega) (Nat.le_of_ble_eq_true rfl) (Nat.le_of_ble_eq_true rfl) (hA) (?_ : RR _ _ _ _ 100 _ _ _ _)
            refine R_iinc dX4_readLevel_100 rfl (Nat.le_of_ble_eq_true rfl) (?_ : RR _ _ _ _ 103 [_, _, _, _, _, _, _] _ _ _)
            refine R_goto (t := 41) dX4_readLevel_103 rfl (?_ : RR _ _ _ _ 41 _ _ _ _)
            refine R_iload dX4_readLevel_41 rfl (?_ : RR _ _ _ _ 43 _ _ _ _)
            refine R_iload dX4_readLevel_43 rfl (?_ : RR _ _ _ _ 45 _ _ _ _)
            refine R_icmp_ge (t := 106) dX4_readLevel_45 rfl (fun c45 => ?_) (fun c45 => ?_)
            rotate_left
            · exfalso; omega
            refine R_iconst dX4_readLevel_106 (?_ : RR _ _ _ _ 107 _ _ _ _)
            exact R_ireturn dX4_readLevel_107 (by first | exact Or.inl rfl | exact Or.inr rfl | exact ok_ite | omega | assumption) hq2
          · rw [if_pos ⟨o6, by omega⟩]
            have hM4 : M = 40 := by omega
            have K := IHL (i + 1) x.1 (k0 + k + 1) (rpo (σ q) v x).2.2.1 x.2.2.2 h7 (pI (σ q)) (fun w => absurd w m0) (by omega) hbx.2.1 f7 s7 (by omega) g7 ho (by unfold rpM; rw [if_neg (by omega)]; omega)
            rw [if_neg m0, show ((i + 1 : Nat) : Int) = (i : Int) + 1 by omega] at K
            subst hM4
            clear IHL IH hgx ho g7 g6 g1 ihl
            generalize cLP (rp σ N1 (m + 4) d x.1 (rpo (σ q) v x).2.2.1 x.2.2.2) p l h = QQ at *
            refine R_if_ne (t := 93) dX4_readLevel_88 rfl (fun c88 => ?_) (fun c88 => ?_)
            rotate_left
            · exfalso; omega
            refine R_aload_n dX4_readLevel_93 rfl (?_ : RR _ _ _ _ 94 _ _ _ _)
            refine R_iload dX4_readLevel_94 rfl (?_ : RR _ _ _ _ 96 _ _ _ _)
            refine R_ineg dX4_readLevel_96 (?_ : RR _ _ _ _ 97 _ _ _ _)
            refine R_cVv1 dX4_readLevel_97 mvX4_add mlX4_55 (by decide) (by omega) (Nat.le_of_ble_eq_true rfl) (Nat.le_of_ble_eq_true rfl) (hA) (?_ : RR _ _ _ _ 100 _ _ _ _)
            refine R_iinc dX4_readLevel_100 rfl (Nat.le_of_ble_eq_true rfl) (?_ : RR _ _ _ _ 103 [_, _, _, _, _, _, _] _ _ _)
            refine R_goto (t := 41) dX4_readLevel_103 rfl (?_ : RR _ _ _ _ 41 _ _ _ _)
            exact K
      rw [h5e] at IH K88
      clear IHL hgx ho g1 ihl
      generalize cLP (if x.2.1 = true ∧ m + 4 ≠ 4 then rp σ N1 (m + 4) d x.1 (rpo (σ q) v x).2.2.1 x.2.2.2 else rpo (σ q) v x) p l h = QQ at *
      refine R_iload dX4_readLevel_41 rfl (?_ : RR _ _ _ _ 43 _ _ _ _)
      refine R_iload dX4_readLevel_43 rfl (?_ : RR _ _ _ _ 45 _ _ _ _)
      refine R_icmp_ge (t := 106) dX4_readLevel_45 rfl (fun c45 => ?_) (fun c45 => ?_)
      · exfalso; omega
      refine R_aload_n dX4_readLevel_48 rfl (?_ : RR _ _ _ _ 49 _ _ _ _)
      refine R_aload_n dX4_readLevel_49 rfl (?_ : RR _ _ _ _ 50 _ _ _ _)
      refine R_geti (z := 3) dX4_readLevel_50 flX4_51 cok_4 rfl (by decide) rfl (fun q50 => (?_ : RR _ _ _ _ 53 _ _ _ _))
      rw [t1] at q50 ⊢
      refine R_cVi1 dX4_readLevel_53 mvX7_at mlX4_66 (by decide) (by omega) (Nat.le_of_ble_eq_true rfl) (Nat.le_of_ble_eq_true rfl) (A1) (?_ : RR _ _ _ _ 56 _ _ _ _)
      refine R_istore dX4_readLevel_56 (Nat.le_of_ble_eq_true rfl) (?_ : RR _ _ _ _ 58 [_, _, _, _, _, _, _] _ _ _)
      refine R_iload dX4_readLevel_58 rfl (?_ : RR _ _ _ _ 60 _ _ _ _)
      refine R_cSi1 dX4_readLevel_60 msX4_levelOf mlX4_70 (by omega) (Nat.le_of_ble_eq_true rfl) (Nat.le_of_ble_eq_true rfl) (hT) (?_ : RR _ _ _ _ 63 _ _ _ _)
      refine R_iload_n dX4_readLevel_63 rfl (?_ : RR _ _ _ _ 64 _ _ _ _)
      refine R_icmp_eq (t := 69) dX4_readLevel_64 rfl (fun c64 => ?_) (fun c64 => ?_)
      rotate_left
      · exfalso; omega
      refine R_aload_n dX4_readLevel_69 rfl (?_ : RR _ _ _ _ 70 _ _ _ _)
      refine R_dup dX4_readLevel_70 (fun _ => rfl) (?_ : RR _ _ _ _ 71 _ _ _ _)
      refine R_geti (z := 3) dX4_readLevel_71 flX4_51 cok_4 rfl (by decide) rfl (fun q71 => (?_ : RR _ _ _ _ 74 _ _ _ _))
      rw [t1] at q71 ⊢
      refine R_iconst dX4_readLevel_74 (?_ : RR _ _ _ _ 75 _ _ _ _)
      refine R_iadd dX4_readLevel_75 (?_ : RR _ _ _ _ 76 _ _ _ _)
      refine R_puti (zk := 3) dX4_readLevel_76 flX4_51 cok_4 (by decide) (fun q hq => by cases hq; rfl) rfl (?_ : RR _ _ _ _ 79 _ _ _ _)
      refine R_aload_n dX4_readLevel_79 rfl (?_ : RR _ _ _ _ 80 _ _ _ _)
      refine R_aload_n dX4_readLevel_80 rfl (?_ : RR _ _ _ _ 81 _ _ _ _)
      refine R_iload_n dX4_readLevel_81 rfl (?_ : RR _ _ _ _ 82 _ _ _ _)
      refine R_iconst dX4_readLevel_82 (?_ : RR _ _ _ _ 83 _ _ _ _)
      refine R_iadd dX4_readLevel_83 (?_ : RR _ _ _ _ 84 _ _ _ _)
      refine R_iload_n dX4_readLevel_84 rfl (?_ : RR _ _ _ _ 85 _ _ _ _)
      refine R_qV3 dX4_readLevel_85 mvX4_readLevel mlX4_58 (by decide) (by omega) (Nat.le_of_ble_eq_true rfl) (Nat.le_of_ble_eq_true rfl) (IH) (fun r9 g9 hq9 => (?_ : RR _ _ _ _ 88 _ _ _ _))
      obtain ⟨z, rfl, KK⟩ := K88 _ _ hq9
      show RR _ _ _ _ _ _ [pI z] _ _
      exact KK
    · rw [if_neg c1]
      have lv : lvO (σ q) ≠ m := fun w => c1 ((lvO_e hm).mp w)
      have hq2 : cLP (q, true, v, u) p l h (some (pI 1)) (shp0, rf0, h1) := ⟨h1, rfl, f1, t1, Or.inr ⟨rfl, rfl, k0, k0b, s1, g1⟩⟩
      clear ihl
      generalize cLP (q, true, v, u) p l h = QQ at *
      generalize lvO (σ q) = c at *
      by_cases i4 : (i : Int) < M
      · refine R_iload dX4_readLevel_41 rfl (?_ : RR _ _ _ _ 43 _ _ _ _)
        refine R_iload dX4_readLevel_43 rfl (?_ : RR _ _ _ _ 45 _ _ _ _)
        refine R_icmp_ge (t := 106) dX4_readLevel_45 rfl (fun c45 => ?_) (fun c45 => ?_)
        · exfalso; omega
        refine R_aload_n dX4_readLevel_48 rfl (?_ : RR _ _ _ _ 49 _ _ _ _)
        refine R_aload_n dX4_readLevel_49 rfl (?_ : RR _ _ _ _ 50 _ _ _ _)
        refine R_geti (z := 3) dX4_readLevel_50 flX4_51 cok_4 rfl (by decide) rfl (fun q50 => (?_ : RR _ _ _ _ 53 _ _ _ _))
        rw [t1] at q50 ⊢
        refine R_cVi1 dX4_readLevel_53 mvX7_at mlX4_66 (by decide) (by omega) (Nat.le_of_ble_eq_true rfl) (Nat.le_of_ble_eq_true rfl) (A1) (?_ : RR _ _ _ _ 56 _ _ _ _)
        refine R_istore dX4_readLevel_56 (Nat.le_of_ble_eq_true rfl) (?_ : RR _ _ _ _ 58 [_, _, _, _, _, _, _] _ _ _)
        refine R_iload dX4_readLevel_58 rfl (?_ : RR _ _ _ _ 60 _ _ _ _)
        refine R_cSi1 dX4_readLevel_60 msX4_levelOf mlX4_70 (by omega) (Nat.le_of_ble_eq_true rfl) (Nat.le_of_ble_eq_true rfl) (hT) (?_ : RR _ _ _ _ 63 _ _ _ _)
        refine R_iload_n dX4_readLevel_63 rfl (?_ : RR _ _ _ _ 64 _ _ _ _)
        refine R_icmp_eq (t := 69) dX4_readLevel_64 rfl (fun c64 => ?_) (fun c64 => ?_)
        · exfalso; omega
        refine R_iconst dX4_readLevel_67 (?_ : RR _ _ _ _ 68 _ _ _ _)
        exact R_ireturn dX4_readLevel_68 (by first | exact Or.inl rfl | exact Or.inr rfl | exact ok_ite | omega | assumption) hq2
      · refine R_iload dX4_readLevel_41 rfl (?_ : RR _ _ _ _ 43 _ _ _ _)
        refine R_iload dX4_readLevel_43 rfl (?_ : RR _ _ _ _ 45 _ _ _ _)
        refine R_icmp_ge (t := 106) dX4_readLevel_45 rfl (fun c45 => ?_) (fun c45 => ?_)
        rotate_left
        · exfalso; omega
        refine R_iconst dX4_readLevel_106 (?_ : RR _ _ _ _ 107 _ _ _ _)
        exact R_ireturn dX4_readLevel_107 (by first | exact Or.inl rfl | exact Or.inr rfl | exact ok_ite | omega | assumption) hq2
theorem C_level (hσn : ∀ p : Nat, b ≤ p → σ p = -1) (hσb : ∀ p : Int, -1 ≤ σ p ∧ σ p ≤ 255) (hb : b ≤ 40) : ∀ N, cLv σ b N := by
  intro N
  induction N using Nat.strongRecOn with
  | _ N ih =>
    intro m d p l u v h hm hd hp hl hN hv hσ hs
    show RR _ _ _ _ _ [pR 32, pR 1, pI m, pI d, pU, pU, pU] _ _ _
    have rr := isRule_32
    by_cases m3 : m = 3
    · subst m3
      have hT := C_signed (N := N) ih hσn hσb hb hd hp hl hN hv hσ hs
      show RR mX4_readLevel _ _ _ _ [pR 32, pR 1, pI 3, pI d, pU, pU, pU] _ _ _
      refine R_iload_n dX4_readLevel_0 rfl (?_ : RR _ _ _ _ 1 _ _ _ _)
      refine R_iconst dX4_readLevel_1 (?_ : RR _ _ _ _ 2 _ _ _ _)
      refine R_icmp_le (t := 12) dX4_readLevel_2 rfl (fun c2 => ?_) (fun c2 => ?_)
      · exfalso; omega
      refine R_aload_n dX4_readLevel_5 rfl (?_ : RR _ _ _ _ 6 _ _ _ _)
      refine R_aload_n dX4_readLevel_6 rfl (?_ : RR _ _ _ _ 7 _ _ _ _)
      refine R_iload_n dX4_readLevel_7 rfl (?_ : RR _ _ _ _ 8 _ _ _ _)
      refine R_qV2 dX4_readLevel_8 mvX4_readSigned mlX4_62 (by decide) (by omega) (Nat.le_of_ble_eq_true rfl) (Nat.le_of_ble_eq_true rfl) (hT) (fun r9 g9 hq9 => (?_ : RR _ _ _ _ 11 _ _ _ _))
      obtain ⟨z, hz, rfl⟩ := cLP_z hq9
      show RR _ _ _ _ _ _ [pI z] _ _
      exact R_ireturn dX4_readLevel_11 (by first | exact Or.inl rfl | exact Or.inr rfl | exact ok_ite | omega | assumption) hq9
    · obtain ⟨N', rfl⟩ : ∃ N', N = N' + 1 := ⟨N - 1, by unfold rpM at hN; rw [if_pos hm] at hN; omega⟩
      unfold rpM at hN
      rw [if_pos hm] at hN
      have hM2 : rpM (m + 1) p ≤ N' := by unfold rpM; rw [if_pos (by omega)]; omega
      have IH := ih N' (by omega) (m + 1) d p l u v h (by omega) hd hp hl hM2 hv hσ hs
      have hbx := rp_b (σ := σ) hσn hb N' (m + 1) d p v u (by omega) hp hM2
      have hgx := rp_v (σ := σ) N' (m + 1) d p v u (by omega) hv
      have e0 : rp σ (N' + 1) m d p v u = (if (rp σ N' (m + 1) d p v u).2.1 then rp σ N' (m + 4) d (rp σ N' (m + 1) d p v u).1 (rp σ N' (m + 1) d p v u).2.2.1 (rp σ N' (m + 1) d p v u).2.2.2 else rp σ N' (m + 1) d p v u) := by
        show (if m = 3 then _ else if m < 3 then _ else _) = _
        rw [if_neg m3, if_pos (by omega)]
      rw [e0]
      clear e0
      have LL := C_loop (N := N' + 1) (h := h) (p := p) (l := l) (d := d) (m := m) ih hσn hσb hb (by omega) hd hl hσ N' (by omega)
      generalize rp σ N' (m + 1) d p v u = x at *
      rw [show ((m + 1 : Nat) : Int) = (m : Int) + 1 by omega] at IH
      have K21 : ∀ r' g', cLP x p l h r' g' → ∃ z : Int, r' = some (pI z) ∧ RR mX4_readLevel (3 * (N' + 1) + 8) 0 0 21 [pR 32, pR 1, pI m, pI d, pU, pU, pU] [pI z] g' (cLP (if x.2.1 = true then rp σ N' (m + 4) d x.1 x.2.2.1 x.2.2.2 else x) p l h) := by
        intro r' g' hc
        obtain ⟨h6, rfl, f6, i6, ⟨o6, rfl, n6⟩ | ⟨o6, rfl, k, k1, s6, g6⟩⟩ := id hc
        · refine ⟨0, rfl, ?_⟩
          rw [if_neg (fun w => by rw [o6] at w; cases w)]
          generalize cLP x p l h = QQ at *
          clear LL IH
          refine R_if_ne (t := 26) dX4_readLevel_21 rfl (fun c21 => ?_) (fun c21 => ?_)
          · exfalso; omega
          refine R_iconst dX4_readLevel_24 (?_ : RR _ _ _ _ 25 _ _ _ _)
          exact R_ireturn dX4_readLevel_25 (by first | exact Or.inl rfl | exact Or.inr rfl | exact ok_ite | omega | assumption) hc
        · refine ⟨1, rfl, ?_⟩
          rw [if_pos o6]
          have hx := hbx.2.2 o6 (by omega)
          have K := LL 0 x.1 k x.2.2.1 x.2.2.2 h6 pU (fun _ => rfl) (by omega) hbx.2.1 f6 s6 k1 g6 hgx.1 (by unfold rpM; rw [if_neg (by omega)]; omega)
          generalize cLP (rp σ N' (m + 4) d x.1 x.2.2.1 x.2.2.2) p l h = QQ at *
          clear LL IH g6 hgx hc
          by_cases m0 : m = 0
          · subst m0
            have K : RR mX4_readLevel (3 * (N' + 1) + 8) 0 0 41 [pR 32, pR 1, pI 0, pI d, pI 1, pI 0, pU] [] (shp0, rf0, h6) QQ := K
            show RR mX4_readLevel (3 * (N' + 1) + 8) 0 0 21 [pR 32, pR 1, pI 0, pI d, pU, pU, pU] [pI 1] (shp0, rf0, h6) QQ
            refine R_if_ne (t := 26) dX4_readLevel_21 rfl (fun c21 => ?_) (fun c21 => ?_)
            rotate_left
            · exfalso; omega
            refine R_iload_n dX4_readLevel_26 rfl (?_ : RR _ _ _ _ 27 _ _ _ _)
            refine R_if_ne (t := 34) dX4_readLevel_27 rfl (fun c27 => ?_) (fun c27 => ?_)
            · exfalso; omega
            refine R_iconst dX4_readLevel_30 (?_ : RR _ _ _ _ 31 _ _ _ _)
            refine R_goto (t := 36) dX4_readLevel_31 rfl (?_ : RR _ _ _ _ 36 _ _ _ _)
            refine R_istore dX4_readLevel_36 (Nat.le_of_ble_eq_true rfl) (?_ : RR _ _ _ _ 38 [_, _, _, _, _, _, _] _ _ _)
            refine R_iconst dX4_readLevel_38 (?_ : RR _ _ _ _ 39 _ _ _ _)
            refine R_istore dX4_readLevel_39 (Nat.le_of_ble_eq_true rfl) (?_ : RR _ _ _ _ 41 [_, _, _, _, _, _, _] _ _ _)
            exact K
          · rw [if_neg m0] at K
            have K : RR mX4_readLevel (3 * (N' + 1) + 8) 0 0 41 [pR 32, pR 1, pI m, pI d, pI 40, pI 0, pU] [] (shp0, rf0, h6) QQ := K
            refine R_if_ne (t := 26) dX4_readLevel_21 rfl (fun c21 => ?_) (fun c21 => ?_)
            rotate_left
            · exfalso; omega
            refine R_iload_n dX4_readLevel_26 rfl (?_ : RR _ _ _ _ 27 _ _ _ _)
            refine R_if_ne (t := 34) dX4_readLevel_27 rfl (fun c27 => ?_) (fun c27 => ?_)
            rotate_left
            · exfalso; omega
            refine R_bipush dX4_readLevel_34 rfl (?_ : RR _ _ _ _ 36 _ _ _ _)
            refine R_istore dX4_readLevel_36 (Nat.le_of_ble_eq_true rfl) (?_ : RR _ _ _ _ 38 [_, _, _, _, _, _, _] _ _ _)
            refine R_iconst dX4_readLevel_38 (?_ : RR _ _ _ _ 39 _ _ _ _)
            refine R_istore dX4_readLevel_39 (Nat.le_of_ble_eq_true rfl) (?_ : RR _ _ _ _ 41 [_, _, _, _, _, _, _] _ _ _)
            exact K
      clear LL hgx
      generalize cLP (if x.2.1 = true then rp σ N' (m + 4) d x.1 x.2.2.1 x.2.2.2 else x) p l h = QQ at *
      refine R_iload_n dX4_readLevel_0 rfl (?_ : RR _ _ _ _ 1 _ _ _ _)
      refine R_iconst dX4_readLevel_1 (?_ : RR _ _ _ _ 2 _ _ _ _)
      refine R_icmp_le (t := 12) dX4_readLevel_2 rfl (fun c2 => ?_) (fun c2 => ?_)
      rotate_left
      · exfalso; omega
      refine R_aload_n dX4_readLevel_12 rfl (?_ : RR _ _ _ _ 13 _ _ _ _)
      refine R_aload_n dX4_readLevel_13 rfl (?_ : RR _ _ _ _ 14 _ _ _ _)
      refine R_iload_n dX4_readLevel_14 rfl (?_ : RR _ _ _ _ 15 _ _ _ _)
      refine R_iconst dX4_readLevel_15 (?_ : RR _ _ _ _ 16 _ _ _ _)
      refine R_iadd dX4_readLevel_16 (?_ : RR _ _ _ _ 17 _ _ _ _)
      refine R_iload_n dX4_readLevel_17 rfl (?_ : RR _ _ _ _ 18 _ _ _ _)
      refine R_qV3 dX4_readLevel_18 mvX4_readLevel mlX4_58 (by decide) (by omega) (Nat.le_of_ble_eq_true rfl) (Nat.le_of_ble_eq_true rfl) (IH) (fun r9 g9 hq9 => (?_ : RR _ _ _ _ 21 _ _ _ _))
      obtain ⟨z, rfl, KK⟩ := K21 _ _ hq9
      show RR _ _ _ _ _ _ [pI z] _ _
      exact KK
end RU5
