section RU8
variable {h h1 h2 h3 h4 : Nat → Int → Int} {N d p b l m n : Nat} {σ : Int → Int} {v : (Int → Int) → Int} {u : Bool}
theorem mqrT_fr (ht : mqrT σ b h) (f : mqrF h h1 l) : mqrT σ b h1 := fun p hp => by rw [f.1 156 (by omega) (by omega)]; exact ht p hp
/-- takes, over the text's signs -/
theorem T_tk {c : Int} (hi : h 147 16 = p) (hb : h 147 17 = b) (hp : p ≤ b) (hb40 : b ≤ 40) (ht : mqrT σ b h) (hσn : ∀ p : Nat, b ≤ p → σ p = -1) (hc : 0 ≤ c ∧ c ≤ 255) : MT mX12_takes 1 [pR 147, pI c] h (some (pI (if σ p = c then 1 else 0))) (if σ p = c then rup h 147 (fup (h 147) 16 ((p : Int) + 1)) else h) := by
  have hT := T_X12_takes (c := c) hi hb hp (by omega) (fun q hq => by rw [(ht q hq).1]; exact (ht q hq).2) hc
  by_cases y : σ p = c
  · have hpb : p < b := by
      by_cases z : p < b
      · exact z
      · have := hσn p (by omega); omega
    have hcc : p < b ∧ h 156 p = c := ⟨hpb, by rw [(ht p hpb).1]; exact y⟩
    rw [if_pos hcc, if_pos hcc] at hT
    rw [if_pos y, if_pos y]; exact hT
  · have hcc : ¬ (p < b ∧ h 156 p = c) := fun w => y (by rw [← (ht p w.1).1]; exact w.2)
    rw [if_neg hcc, if_neg hcc, ← hi, fup_self, rup_self] at hT
    rw [if_neg y, if_neg y]; exact hT
theorem M_thing (ihr : ∀ N', N' < N → mLv σ b N') (iht : ∀ N', N' < N → mTh σ b N') (hσn : ∀ p : Nat, b ≤ p → σ p = -1) (hb : b ≤ 40) : mTh σ b N := by
  intro d p l u v h hd hp hl hN ht hs
  show RR _ _ _ _ _ [pR 147, pU] _ _ _
  unfold rpM at hN
  rw [if_pos (by omega)] at hN
  obtain ⟨N', rfl⟩ : ∃ N', N = N' + 1 := ⟨N - 1, by omega⟩
  have lt : σ p ≠ -1 → p < b := fun q => by
    by_cases z : p < b
    · exact z
    · exact absurd (hσn p (by omega)) q
  obtain ⟨s1, s2, s3, s4⟩ := id hs
  have e0 : rp σ (N' + 1) 3 d p v u = (if σ p = 45 then rpn (rp σ N' 3 d (p + 1) v u) else if dgt (σ p) then (p + nuL σ p, true, fun _ => nuV σ p, u) else if 0 ≤ amI 0 (σ p) then (p + 1, true, fun th => th (amI 0 (σ p)), u || decide (σ p = 110)) else if σ p = 40 ∧ d < 4 then rpc σ (rp σ N' 0 (d + 1) (p + 1) v u) else (p, false, v, u)) := by
    show (if 3 = 3 then _ else _) = _
    rw [if_pos rfl]
  rw [e0]
  clear e0
  have hTk := T_tk (c := 45) s1 s4 hp hb ht hσn (by omega)
  by_cases c1 : σ p = 45
  · rw [if_pos c1]
    rw [if_pos c1, if_pos c1] at hTk
    have hpb := lt (by omega)
    obtain ⟨h5, h5e⟩ : ∃ h5, h5 = rup h 147 (fup (h 147) 16 ((p : Int) + 1)) := ⟨_, rfl⟩
    rw [← h5e] at hTk
    have f5 : mqrF h h5 l := ⟨fun a a1 a2 => by rw [h5e, rup_n a1], fun j j1 j2 j3 => by rw [h5e, rup_s, fup_n j1], fun j hj => by rw [h5e, rup_n (by omega)]⟩
    have q5 : mqrS h5 (p + 1) l d b := ⟨by rw [h5e, rup_s, fup_s]; rfl, by rw [h5e, rup_s, fup_n (by omega)]; exact s2, by rw [h5e, rup_s, fup_n (by omega)]; exact s3, by rw [h5e, rup_s, fup_n (by omega)]; exact s4⟩
    have hM : rpM 3 (p + 1) ≤ N' := by unfold rpM; rw [if_pos (by omega)]; omega
    have IH := iht N' (by omega) d (p + 1) l u v h5 hd (by omega) (by omega) hM (mqrT_fr ht f5) q5
    have hbx := rp_b (σ := σ) hσn hb N' 3 d (p + 1) v u (by omega) (by omega) hM
    generalize rp σ N' 3 d (p + 1) v u = x at *
    have K13 : ∀ r' g', mLP x (p + 1) l d b h5 r' g' → ∃ z : Int, r' = some (pI z) ∧ RR mX12_readsThing (2 * (N' + 1) + 7) 0 0 13 [pR 147, pU] [pI z] g' (mLP (rpn x) p l d b h) := by
      intro r' g' hc
      obtain ⟨h6, k, rfl, f6, i6, l6, b6, kb, hz⟩ := hc
      have hC := T_X12_codes (h := h6) (l := l + k) (c := 3000) l6 (by omega) (by omega)
      obtain ⟨h7, h7e⟩ : ∃ h7, h7 = rup (rup h6 147 (fup (h6 147) 24 (((l + k : Nat) : Int) + 1))) 159 (fup (h6 159) ((l + k : Nat) : Int) 3000) := ⟨_, rfl⟩
      rw [← h7e] at hC
      have f0 := mqrF_tr f5 f6 (Nat.le_refl l)
      have f7 : mqrF h h7 l := ⟨fun a a1 a2 => by rw [h7e, rup_n a2, rup_n a1]; exact f0.1 a a1 a2, fun j j1 j2 j3 => by rw [h7e, rup_n (by omega), rup_s, fup_n j3]; exact f0.2.1 j j1 j2 j3, fun j hj => by rw [h7e, rup_s, fup_n (by omega)]; exact f0.2.2 j hj⟩
      have base : ∀ z : Int, ((x.2.1 = false ∧ z = 0) ∨ (x.2.1 = true ∧ z = 1 ∧ h7 147 18 = d ∧ SgM (h7 159) l (k + 1) (rpn x).2.2.1)) → mLP (rpn x) p l d b h (some (pI z)) (shp0, rf0, h7) := fun z hz => by
        refine ⟨h7, k + 1, rfl, f7, by rw [h7e, rup_n (by omega), rup_s, fup_n (by omega)]; exact i6, by rw [h7e, rup_n (by omega), rup_s, fup_s]; omega, by rw [h7e, rup_n (by omega), rup_s, fup_n (by omega)]; exact b6, by show k + 1 + p ≤ x.1; omega, ?_⟩
        rcases hz with ⟨w1, rfl⟩ | ⟨w1, rfl, w2⟩
        · exact Or.inl ⟨w1, rfl⟩
        · exact Or.inr ⟨w1, rfl, w2⟩
      rcases hz with ⟨o6, rfl⟩ | ⟨o6, rfl, d6, g6⟩
      · refine ⟨0, rfl, ?_⟩
        have hq := base 0 (Or.inl ⟨o6, rfl⟩)
        clear base h7e IH
        generalize mLP (rpn x) p l d b h = QQ at *
        refine R_istore_n dX12_readsThing_13 (Nat.le_of_ble_eq_true rfl) (?_ : RR _ _ _ _ 14 [_, _] _ _ _)
        refine R_aload_n dX12_readsThing_14 rfl (?_ : RR _ _ _ _ 15 _ _ _ _)
        refine R_sipush dX12_readsThing_15 rfl (?_ : RR _ _ _ _ 18 _ _ _ _)
        refine R_cVv1 dX12_readsThing_18 mvX12_codes mlX12_236 (by decide) (by omega) (Nat.le_of_ble_eq_true rfl) (Nat.le_of_ble_eq_true rfl) (hC) (?_ : RR _ _ _ _ 21 _ _ _ _)
        refine R_iload_n dX12_readsThing_21 rfl (?_ : RR _ _ _ _ 22 _ _ _ _)
        exact R_ireturn dX12_readsThing_22 (by first | exact Or.inl rfl | exact Or.inr rfl | exact ok_ite | omega | assumption) hq
      · refine ⟨1, rfl, ?_⟩
        have hq := base 1 (Or.inr ⟨o6, rfl, by rw [h7e, rup_n (by omega), rup_s, fup_n (by omega)]; exact d6, by
          rw [h7e, rup_s]
          exact SgM_neg (SgM_cg g6 (fun j hj => fup_n (by omega))) fup_s⟩)
        clear base h7e IH g6
        generalize mLP (rpn x) p l d b h = QQ at *
        refine R_istore_n dX12_readsThing_13 (Nat.le_of_ble_eq_true rfl) (?_ : RR _ _ _ _ 14 [_, _] _ _ _)
        refine R_aload_n dX12_readsThing_14 rfl (?_ : RR _ _ _ _ 15 _ _ _ _)
        refine R_sipush dX12_readsThing_15 rfl (?_ : RR _ _ _ _ 18 _ _ _ _)
        refine R_cVv1 dX12_readsThing_18 mvX12_codes mlX12_236 (by decide) (by omega) (Nat.le_of_ble_eq_true rfl) (Nat.le_of_ble_eq_true rfl) (hC) (?_ : RR _ _ _ _ 21 _ _ _ _)
        refine R_iload_n dX12_readsThing_21 rfl (?_ : RR _ _ _ _ 22 _ _ _ _)
        exact R_ireturn dX12_readsThing_22 (by first | exact Or.inl rfl | exact Or.inr rfl | exact ok_ite | omega | assumption) hq
    clear h5e
    generalize mLP (rpn x) p l d b h = QQ at *
    refine R_aload_n dX12_readsThing_0 rfl (?_ : RR _ _ _ _ 1 _ _ _ _)
    refine R_bipush dX12_readsThing_1 rfl (?_ : RR _ _ _ _ 3 _ _ _ _)
    refine R_cVi1 dX12_readsThing_3 mvX12_takes mlX12_182 (by decide) (by omega) (Nat.le_of_ble_eq_true rfl) (Nat.le_of_ble_eq_true rfl) (hTk) (?_ : RR _ _ _ _ 6 _ _ _ _)
    refine R_if_eq (t := 23) dX12_readsThing_6 rfl (fun c6 => ?_) (fun c6 => ?_)
    · exfalso; omega
    refine R_aload_n dX12_readsThing_9 rfl (?_ : RR _ _ _ _ 10 _ _ _ _)
    refine R_qV0 dX12_readsThing_10 mvX12_readsThing mlX12_233 (by decide) (by omega) (Nat.le_of_ble_eq_true rfl) (Nat.le_of_ble_eq_true rfl) (IH) (fun r9 g9 hq9 => (?_ : RR _ _ _ _ 13 _ _ _ _))
    obtain ⟨z, rfl, KK⟩ := K13 _ _ hq9
    show RR _ _ _ _ _ _ [pI z] _ _
    exact KK
  · rw [if_neg c1]
    rw [if_neg c1, if_neg c1] at hTk
    have hD := T_X12_isDigit s1 s4 hp (by omega) ht hσn
    by_cases c2 : dgt (σ p)
    · rw [if_pos c2]
      rw [if_pos c2] at hD
      have hN3 := T_number3 s1 s4 hp hb ht hσn c2
      have nb := nuL_b hσn c2
      have nv := nuV_b c2
      obtain ⟨h5, h5e⟩ : ∃ h5, h5 = rup h 147 (fup (h 147) 16 ((p : Int) + nuL σ p)) := ⟨_, rfl⟩
      rw [← h5e] at hN3
      have hC := T_X12_codes (h := h5) (l := l) (c := nuV σ p) (by rw [h5e, rup_s, fup_n (by omega)]; exact s2) (by omega) (by omega)
      have hq : mLP (p + nuL σ p, true, fun _ => nuV σ p, u) p l d b h (some (pI 1)) (shp0, rf0, rup (rup h5 147 (fup (h5 147) 24 ((l : Int) + 1))) 159 (fup (h5 159) l (nuV σ p))) := by
        refine ⟨_, 1, rfl, ⟨fun a a1 a2 => by rw [rup_n a2, rup_n a1, h5e, rup_n a1], fun j j1 j2 j3 => by rw [rup_n (by omega), rup_s, fup_n j3, h5e, rup_s, fup_n j1], fun j hj => by rw [rup_s, fup_n (by omega), h5e, rup_n (by omega)]⟩, by rw [rup_n (by omega), rup_s, fup_n (by omega), h5e, rup_s, fup_s]; rfl, by rw [rup_n (by omega), rup_s, fup_s]; rfl, by rw [rup_n (by omega), rup_s, fup_n (by omega), h5e, rup_s, fup_n (by omega)]; exact s4, by show 1 + p ≤ p + nuL σ p; omega, Or.inr ⟨rfl, rfl, by rw [rup_n (by omega), rup_s, fup_n (by omega), h5e, rup_s, fup_n (by omega)]; exact s3, ?_⟩⟩
        rw [rup_s]
        exact SgM_v (SgM_push (C := fup (h5 159) l (nuV σ p)) (l := l) (c := nuV σ p) fup_s (by omega) (by omega)) (fun th _ => if_pos (by omega))
      generalize rup (rup h5 147 (fup (h5 147) 24 ((l : Int) + 1))) 159 (fup (h5 159) l (nuV σ p)) = h7 at *
      generalize mLP (p + nuL σ p, true, fun _ => nuV σ p, u) p l d b h = QQ at *
      generalize nuV σ p = z at *
      clear h5e ihr iht
      refine R_aload_n dX12_readsThing_0 rfl (?_ : RR _ _ _ _ 1 _ _ _ _)
      refine R_bipush dX12_readsThing_1 rfl (?_ : RR _ _ _ _ 3 _ _ _ _)
      refine R_cVi1 dX12_readsThing_3 mvX12_takes mlX12_182 (by decide) (by omega) (Nat.le_of_ble_eq_true rfl) (Nat.le_of_ble_eq_true rfl) (hTk) (?_ : RR _ _ _ _ 6 _ _ _ _)
      refine R_if_eq (t := 23) dX12_readsThing_6 rfl (fun c6 => ?_) (fun c6 => ?_)
      rotate_left
      · exfalso; omega
      refine R_aload_n dX12_readsThing_23 rfl (?_ : RR _ _ _ _ 24 _ _ _ _)
      refine R_cVi0 dX12_readsThing_24 mvX12_isDigit mlX12_178 (by decide) (by omega) (Nat.le_of_ble_eq_true rfl) (Nat.le_of_ble_eq_true rfl) (hD) (?_ : RR _ _ _ _ 27 _ _ _ _)
      refine R_if_eq (t := 41) dX12_readsThing_27 rfl (fun c27 => ?_) (fun c27 => ?_)
      · exfalso; omega
      refine R_aload_n dX12_readsThing_30 rfl (?_ : RR _ _ _ _ 31 _ _ _ _)
      refine R_aload_n dX12_readsThing_31 rfl (?_ : RR _ _ _ _ 32 _ _ _ _)
      refine R_iconst dX12_readsThing_32 (?_ : RR _ _ _ _ 33 _ _ _ _)
      refine R_cVi1 dX12_readsThing_33 mvX12_number mlX12_240 (by decide) (by omega) (Nat.le_of_ble_eq_true rfl) (Nat.le_of_ble_eq_true rfl) (hN3) (?_ : RR _ _ _ _ 36 _ _ _ _)
      refine R_cVv1 dX12_readsThing_36 mvX12_codes mlX12_236 (by decide) (by omega) (Nat.le_of_ble_eq_true rfl) (Nat.le_of_ble_eq_true rfl) (hC) (?_ : RR _ _ _ _ 39 _ _ _ _)
      refine R_iconst dX12_readsThing_39 (?_ : RR _ _ _ _ 40 _ _ _ _)
      exact R_ireturn dX12_readsThing_40 (by first | exact Or.inl rfl | exact Or.inr rfl | exact ok_ite | omega | assumption) hq
    · rw [if_neg c2]
      rw [if_neg c2] at hD
      have hTo := T_X12_takesOf (h := h) (i := 0) (by decide) s1 s4 hp (by omega) ht hσn
      by_cases c3 : 0 ≤ amI 0 (σ p)
      · rw [if_pos c3]
        rw [if_pos c3] at hTo
        have e5 : amI 0 (σ p) ≤ 5 ∧ σ p ≠ -1 := by
          rw [amI_0] at c3 ⊢
          repeat' split
          all_goals (refine ⟨by omega, by omega⟩)
        have hpb := lt e5.2
        obtain ⟨h5, h5e⟩ : ∃ h5, h5 = rup h 147 (fup (h 147) 16 ((p : Int) + 1)) := ⟨_, rfl⟩
        rw [← h5e] at hTo
        have hC := T_X12_codes (h := h5) (l := l) (c := 1000 + amI 0 (σ p)) (by rw [h5e, rup_s, fup_n (by omega)]; exact s2) (by omega) (by omega)
        have hq : mLP (p + 1, true, fun th => th (amI 0 (σ p)), u || decide (σ p = 110)) p l d b h (some (pI 1)) (shp0, rf0, rup (rup h5 147 (fup (h5 147) 24 ((l : Int) + 1))) 159 (fup (h5 159) l (1000 + amI 0 (σ p)))) := by
          refine ⟨_, 1, rfl, ⟨fun a a1 a2 => by rw [rup_n a2, rup_n a1, h5e, rup_n a1], fun j j1 j2 j3 => by rw [rup_n (by omega), rup_s, fup_n j3, h5e, rup_s, fup_n j1], fun j hj => by rw [rup_s, fup_n (by omega), h5e, rup_n (by omega)]⟩, by rw [rup_n (by omega), rup_s, fup_n (by omega), h5e, rup_s, fup_s]; rfl, by rw [rup_n (by omega), rup_s, fup_s]; rfl, by rw [rup_n (by omega), rup_s, fup_n (by omega), h5e, rup_s, fup_n (by omega)]; exact s4, by show 1 + p ≤ p + 1; omega, Or.inr ⟨rfl, rfl, by rw [rup_n (by omega), rup_s, fup_n (by omega), h5e, rup_s, fup_n (by omega)]; exact s3, ?_⟩⟩
          rw [rup_s]
          exact SgM_v (SgM_push (C := fup (h5 159) l (1000 + amI 0 (σ p))) (l := l) (c := 1000 + amI 0 (σ p)) fup_s (by omega) (by omega)) (fun th _ => by rw [if_neg (by omega), show 1000 + amI 0 (σ p) - 1000 = amI 0 (σ p) by omega])
        generalize mLP (p + 1, true, fun th => th (amI 0 (σ p)), u || decide (σ p = 110)) p l d b h = QQ at *
        generalize amI 0 (σ p) = t at *
        generalize rup (rup h5 147 (fup (h5 147) 24 ((l : Int) + 1))) 159 (fup (h5 159) l (1000 + t)) = h7 at *
        clear h5e ihr iht
        refine R_aload_n dX12_readsThing_0 rfl (?_ : RR _ _ _ _ 1 _ _ _ _)
        refine R_bipush dX12_readsThing_1 rfl (?_ : RR _ _ _ _ 3 _ _ _ _)
        refine R_cVi1 dX12_readsThing_3 mvX12_takes mlX12_182 (by decide) (by omega) (Nat.le_of_ble_eq_true rfl) (Nat.le_of_ble_eq_true rfl) (hTk) (?_ : RR _ _ _ _ 6 _ _ _ _)
        refine R_if_eq (t := 23) dX12_readsThing_6 rfl (fun c6 => ?_) (fun c6 => ?_)
        rotate_left
        · exfalso; omega
        refine R_aload_n dX12_readsThing_23 rfl (?_ : RR _ _ _ _ 24 _ _ _ _)
        refine R_cVi0 dX12_readsThing_24 mvX12_isDigit mlX12_178 (by decide) (by omega) (Nat.le_of_ble_eq_true rfl) (Nat.le_of_ble_eq_true rfl) (hD) (?_ : RR _ _ _ _ 27 _ _ _ _)
        refine R_if_eq (t := 41) dX12_readsThing_27 rfl (fun c27 => ?_) (fun c27 => ?_)
        rotate_left
        · exfalso; omega
        refine R_aload_n dX12_readsThing_41 rfl (?_ : RR _ _ _ _ 42 _ _ _ _)
        refine R_ldcS (i := 0) (by decide) rfl dX12_readsThing_42 (?_ : RR _ _ _ _ 44 _ _ _ _)
        refine R_cVi1 dX12_readsThing_44 mvX12_takesOf mlX12_245 (by decide) (by omega) (Nat.le_of_ble_eq_true rfl) (Nat.le_of_ble_eq_true rfl) (hTo) (?_ : RR _ _ _ _ 47 _ _ _ _)
        refine R_istore_n dX12_readsThing_47 (Nat.le_of_ble_eq_true rfl) (?_ : RR _ _ _ _ 48 [_, _] _ _ _)
        refine R_iload_n dX12_readsThing_48 rfl (?_ : RR _ _ _ _ 49 _ _ _ _)
        refine R_if_lt (t := 63) dX12_readsThing_49 rfl (fun c49 => ?_) (fun c49 => ?_)
        · exfalso; omega
        refine R_aload_n dX12_readsThing_52 rfl (?_ : RR _ _ _ _ 53 _ _ _ _)
        refine R_sipush dX12_readsThing_53 rfl (?_ : RR _ _ _ _ 56 _ _ _ _)
        refine R_iload_n dX12_readsThing_56 rfl (?_ : RR _ _ _ _ 57 _ _ _ _)
        refine R_iadd dX12_readsThing_57 (?_ : RR _ _ _ _ 58 _ _ _ _)
        refine R_cVv1 dX12_readsThing_58 mvX12_codes mlX12_236 (by decide) (by omega) (Nat.le_of_ble_eq_true rfl) (Nat.le_of_ble_eq_true rfl) (hC) (?_ : RR _ _ _ _ 61 _ _ _ _)
        refine R_iconst dX12_readsThing_61 (?_ : RR _ _ _ _ 62 _ _ _ _)
        exact R_ireturn dX12_readsThing_62 (by first | exact Or.inl rfl | exact Or.inr rfl | exact ok_ite | omega | assumption) hq
      · rw [if_neg c3]
        have e1 : amI 0 (σ p) = -1 := by
          have := amgG_b (i := 0) (c := σ p) (stN 0) 0
          unfold amI at c3 ⊢
          omega
        rw [if_neg c3, e1, ← s1, fup_self, rup_self] at hTo
        have hT4 := T_tk (c := 40) s1 s4 hp hb ht hσn (by omega)
        by_cases c4 : σ p = 40 ∧ d < 4
        · rw [if_pos c4]
          rw [if_pos c4.1, if_pos c4.1] at hT4
          have hpb := lt (by omega)
          obtain ⟨h5, h5e⟩ : ∃ h5, h5 = rup (rup h 147 (fup (h 147) 16 ((p : Int) + 1))) 147 (fup (rup h 147 (fup (h 147) 16 ((p : Int) + 1)) 147) 18 ((d : Int) + 1)) := ⟨_, rfl⟩
          have f5 : mqrF h h5 l := ⟨fun a a1 a2 => by rw [h5e, rup_n a1, rup_n a1], fun j j1 j2 j3 => by rw [h5e, rup_s, fup_n j2, rup_s, fup_n j1], fun j hj => by rw [h5e, rup_n (by omega), rup_n (by omega)]⟩
          have q5 : mqrS h5 (p + 1) l (d + 1) b := ⟨by rw [h5e, rup_s, fup_n (by omega), rup_s, fup_s]; rfl, by rw [h5e, rup_s, fup_n (by omega), rup_s, fup_n (by omega)]; exact s2, by rw [h5e, rup_s, fup_s]; rfl, by rw [h5e, rup_s, fup_n (by omega), rup_s, fup_n (by omega)]; exact s4⟩
          have hM : rpM 0 (p + 1) ≤ N' := by unfold rpM; rw [if_pos (by omega)]; omega
          have IH := ihr N' (by omega) 0 (d + 1) (p + 1) l u v h5 (by omega) (by omega) (by omega) (by omega) hM (mqrT_fr ht f5) q5
          have hbx := rp_b (σ := σ) hσn hb N' 0 (d + 1) (p + 1) v u (by omega) (by omega) hM
          generalize rp σ N' 0 (d + 1) (p + 1) v u = x at *
          rw [show ((0 : Nat) : Int) = 0 from rfl] at IH
          have K97 : ∀ r' g', mLP x (p + 1) l (d + 1) b h5 r' g' → ∃ z : Int, r' = some (pI z) ∧ RR mX12_readsThing (2 * (N' + 1) + 7) 0 0 97 [pR 147, pI (-1)] [pI z] g' (mLP (rpc σ x) p l d b h) := by
            intro r' g' hc
            obtain ⟨h6, k, rfl, f6, i6, l6, b6, kb, ⟨o6, rfl⟩ | ⟨o6, rfl, d6, g6⟩⟩ := hc
            · refine ⟨0, rfl, ?_⟩
              have e : rpc σ x = x := by unfold rpc; rw [o6]; rfl
              have hq : mLP (rpc σ x) p l d b h (some (pI 0)) (shp0, rf0, h6) := by rw [e]; exact ⟨h6, k, rfl, mqrF_tr f5 f6 (Nat.le_refl l), i6, l6, b6, by omega, Or.inl ⟨o6, rfl⟩⟩
              generalize mLP (rpc σ x) p l d b h = QQ at *
              clear IH h5e
              refine R_if_eq (t := 109) dX12_readsThing_97 rfl (fun c97 => ?_) (fun c97 => ?_)
              rotate_left
              · exfalso; omega
              refine R_iconst dX12_readsThing_109 (?_ : RR _ _ _ _ 110 _ _ _ _)
              exact R_ireturn dX12_readsThing_110 (by first | exact Or.inl rfl | exact Or.inr rfl | exact ok_ite | omega | assumption) hq
            · refine ⟨1, rfl, ?_⟩
              have hT6 := T_tk (h := h6) (c := 41) i6 b6 hbx.2.1 hb (mqrT_fr (mqrT_fr ht f5) f6) hσn (by omega)
              have f0 := mqrF_tr f5 f6 (Nat.le_refl l)
              by_cases w : σ x.1 = 41
              · rw [if_pos w, if_pos w] at hT6
                have e : rpc σ x = (x.1 + 1, true, x.2.2) := by unfold rpc; rw [o6, if_pos rfl, if_pos w]
                obtain ⟨h7, h7e⟩ : ∃ h7, h7 = rup h6 147 (fup (h6 147) 16 ((x.1 : Int) + 1)) := ⟨_, rfl⟩
                rw [← h7e] at hT6
                have d7 : h7 147 18 = (d : Int) + 1 := by rw [h7e, rup_s, fup_n (by omega)]; exact d6
                have hq : mLP (rpc σ x) p l d b h (some (pI 1)) (shp0, rf0, rup h7 147 (fup (h7 147) 18 ((d : Int) + 1 - 1))) := by
                  rw [e]
                  refine ⟨_, k, rfl, ⟨fun a a1 a2 => by rw [rup_n a1, h7e, rup_n a1]; exact f0.1 a a1 a2, fun j j1 j2 j3 => by rw [rup_s, fup_n j2, h7e, rup_s, fup_n j1]; exact f0.2.1 j j1 j2 j3, fun j hj => by rw [rup_n (by omega), h7e, rup_n (by omega)]; exact f0.2.2 j hj⟩, by rw [rup_s, fup_n (by omega), h7e, rup_s, fup_s]; rfl, by rw [rup_s, fup_n (by omega), h7e, rup_s, fup_n (by omega)]; exact l6, by rw [rup_s, fup_n (by omega), h7e, rup_s, fup_n (by omega)]; exact b6, by show k + p ≤ x.1 + 1; omega, Or.inr ⟨rfl, rfl, by rw [rup_s, fup_s]; omega, by rw [rup_n (by omega), h7e, rup_n (by omega)]; exact g6⟩⟩
                generalize mLP (rpc σ x) p l d b h = QQ at *
                clear IH h5e h7e g6
                refine R_if_eq (t := 109) dX12_readsThing_97 rfl (fun c97 => ?_) (fun c97 => ?_)
                · exfalso; omega
                refine R_aload_n dX12_readsThing_100 rfl (?_ : RR _ _ _ _ 101 _ _ _ _)
                refine R_bipush dX12_readsThing_101 rfl (?_ : RR _ _ _ _ 103 _ _ _ _)
                refine R_cVi1 dX12_readsThing_103 mvX12_takes mlX12_182 (by decide) (by omega) (Nat.le_of_ble_eq_true rfl) (Nat.le_of_ble_eq_true rfl) (hT6) (?_ : RR _ _ _ _ 106 _ _ _ _)
                refine R_if_ne (t := 111) dX12_readsThing_106 rfl (fun c106 => ?_) (fun c106 => ?_)
                rotate_left
                · exfalso; omega
                refine R_aload_n dX12_readsThing_111 rfl (?_ : RR _ _ _ _ 112 _ _ _ _)
                refine R_dup dX12_readsThing_112 (fun _ => rfl) (?_ : RR _ _ _ _ 113 _ _ _ _)
                refine R_geti (z := 18) dX12_readsThing_113 flX12_154 cok_12 rfl (by decide) rfl (fun q113 => (?_ : RR _ _ _ _ 116 _ _ _ _))
                rw [d7] at q113 ⊢
                refine R_iconst dX12_readsThing_116 (?_ : RR _ _ _ _ 117 _ _ _ _)
                refine R_isub dX12_readsThing_117 (?_ : RR _ _ _ _ 118 _ _ _ _)
                refine R_puti (zk := 18) dX12_readsThing_118 flX12_154 cok_12 (by decide) (fun q hq => by cases hq; rfl) rfl (?_ : RR _ _ _ _ 121 _ _ _ _)
                refine R_iconst dX12_readsThing_121 (?_ : RR _ _ _ _ 122 _ _ _ _)
                exact R_ireturn dX12_readsThing_122 (by first | exact Or.inl rfl | exact Or.inr rfl | exact ok_ite | omega | assumption) hq
              · rw [if_neg w, if_neg w] at hT6
                have e : rpc σ x = (x.1, false, x.2.2) := by unfold rpc; rw [o6, if_pos rfl, if_neg w]
                have hq : mLP (rpc σ x) p l d b h (some (pI 0)) (shp0, rf0, h6) := by rw [e]; exact ⟨h6, k, rfl, f0, i6, l6, b6, by show k + p ≤ x.1; omega, Or.inl ⟨rfl, rfl⟩⟩
                generalize mLP (rpc σ x) p l d b h = QQ at *
                clear IH h5e g6
                refine R_if_eq (t := 109) dX12_readsThing_97 rfl (fun c97 => ?_) (fun c97 => ?_)
                · exfalso; omega
                refine R_aload_n dX12_readsThing_100 rfl (?_ : RR _ _ _ _ 101 _ _ _ _)
                refine R_bipush dX12_readsThing_101 rfl (?_ : RR _ _ _ _ 103 _ _ _ _)
                refine R_cVi1 dX12_readsThing_103 mvX12_takes mlX12_182 (by decide) (by omega) (Nat.le_of_ble_eq_true rfl) (Nat.le_of_ble_eq_true rfl) (hT6) (?_ : RR _ _ _ _ 106 _ _ _ _)
                refine R_if_ne (t := 111) dX12_readsThing_106 rfl (fun c106 => ?_) (fun c106 => ?_)
                · exfalso; omega
                refine R_iconst dX12_readsThing_109 (?_ : RR _ _ _ _ 110 _ _ _ _)
                exact R_ireturn dX12_readsThing_110 (by first | exact Or.inl rfl | exact Or.inr rfl | exact ok_ite | omega | assumption) hq
          have z18 : rup h 147 (fup (h 147) 16 ((p : Int) + 1)) 147 18 = d := by rw [rup_s, fup_n (by omega)]; exact s3
          generalize mLP (rpc σ x) p l d b h = QQ at *
          generalize rup h 147 (fup (h 147) 16 ((p : Int) + 1)) = h9 at *
          rw [h5e] at IH K97
          clear h5e q5 f5
          refine R_aload_n dX12_readsThing_0 rfl (?_ : RR _ _ _ _ 1 _ _ _ _)
          refine R_bipush dX12_readsThing_1 rfl (?_ : RR _ _ _ _ 3 _ _ _ _)
          refine R_cVi1 dX12_readsThing_3 mvX12_takes mlX12_182 (by decide) (by omega) (Nat.le_of_ble_eq_true rfl) (Nat.le_of_ble_eq_true rfl) (hTk) (?_ : RR _ _ _ _ 6 _ _ _ _)
          refine R_if_eq (t := 23) dX12_readsThing_6 rfl (fun c6 => ?_) (fun c6 => ?_)
          rotate_left
          · exfalso; omega
          refine R_aload_n dX12_readsThing_23 rfl (?_ : RR _ _ _ _ 24 _ _ _ _)
          refine R_cVi0 dX12_readsThing_24 mvX12_isDigit mlX12_178 (by decide) (by omega) (Nat.le_of_ble_eq_true rfl) (Nat.le_of_ble_eq_true rfl) (hD) (?_ : RR _ _ _ _ 27 _ _ _ _)
          refine R_if_eq (t := 41) dX12_readsThing_27 rfl (fun c27 => ?_) (fun c27 => ?_)
          rotate_left
          · exfalso; omega
          refine R_aload_n dX12_readsThing_41 rfl (?_ : RR _ _ _ _ 42 _ _ _ _)
          refine R_ldcS (i := 0) (by decide) rfl dX12_readsThing_42 (?_ : RR _ _ _ _ 44 _ _ _ _)
          refine R_cVi1 dX12_readsThing_44 mvX12_takesOf mlX12_245 (by decide) (by omega) (Nat.le_of_ble_eq_true rfl) (Nat.le_of_ble_eq_true rfl) (hTo) (?_ : RR _ _ _ _ 47 _ _ _ _)
          refine R_istore_n dX12_readsThing_47 (Nat.le_of_ble_eq_true rfl) (?_ : RR _ _ _ _ 48 [_, _] _ _ _)
          refine R_iload_n dX12_readsThing_48 rfl (?_ : RR _ _ _ _ 49 _ _ _ _)
          refine R_if_lt (t := 63) dX12_readsThing_49 rfl (fun c49 => ?_) (fun c49 => ?_)
          rotate_left
          · exfalso; omega
          refine R_aload_n dX12_readsThing_63 rfl (?_ : RR _ _ _ _ 64 _ _ _ _)
          refine R_geti (z := 18) dX12_readsThing_64 flX12_154 cok_12 rfl (by decide) rfl (fun q64 => (?_ : RR _ _ _ _ 67 _ _ _ _))
          rw [s3] at q64 ⊢
          refine R_iconst dX12_readsThing_67 (?_ : RR _ _ _ _ 68 _ _ _ _)
          refine R_icmp_eq (t := 80) dX12_readsThing_68 rfl (fun c68 => ?_) (fun c68 => ?_)
          · exfalso; omega
          refine R_aload_n dX12_readsThing_71 rfl (?_ : RR _ _ _ _ 72 _ _ _ _)
          refine R_bipush dX12_readsThing_72 rfl (?_ : RR _ _ _ _ 74 _ _ _ _)
          refine R_cVi1 dX12_readsThing_74 mvX12_takes mlX12_182 (by decide) (by omega) (Nat.le_of_ble_eq_true rfl) (Nat.le_of_ble_eq_true rfl) (hT4) (?_ : RR _ _ _ _ 77 _ _ _ _)
          refine R_if_ne (t := 82) dX12_readsThing_77 rfl (fun c77 => ?_) (fun c77 => ?_)
          rotate_left
          · exfalso; omega
          refine R_aload_n dX12_readsThing_82 rfl (?_ : RR _ _ _ _ 83 _ _ _ _)
          refine R_dup dX12_readsThing_83 (fun _ => rfl) (?_ : RR _ _ _ _ 84 _ _ _ _)
          refine R_geti (z := 18) dX12_readsThing_84 flX12_154 cok_12 rfl (by decide) rfl (fun q84 => (?_ : RR _ _ _ _ 87 _ _ _ _))
          rw [z18] at q84 ⊢
          refine R_iconst dX12_readsThing_87 (?_ : RR _ _ _ _ 88 _ _ _ _)
          refine R_iadd dX12_readsThing_88 (?_ : RR _ _ _ _ 89 _ _ _ _)
          refine R_puti (zk := 18) dX12_readsThing_89 flX12_154 cok_12 (by decide) (fun q hq => by cases hq; rfl) rfl (?_ : RR _ _ _ _ 92 _ _ _ _)
          refine R_aload_n dX12_readsThing_92 rfl (?_ : RR _ _ _ _ 93 _ _ _ _)
          refine R_iconst dX12_readsThing_93 (?_ : RR _ _ _ _ 94 _ _ _ _)
          refine R_qV1 dX12_readsThing_94 mvX12_readsRank mlX12_248 (by decide) (by omega) (Nat.le_of_ble_eq_true rfl) (Nat.le_of_ble_eq_true rfl) (IH) (fun r9 g9 hq9 => (?_ : RR _ _ _ _ 97 _ _ _ _))
          obtain ⟨z, rfl, KK⟩ := K97 _ _ hq9
          show RR _ _ _ _ _ _ [pI z] _ _
          exact KK
        · rw [if_neg c4]
          have hq : mLP (p, false, v, u) p l d b h (some (pI 0)) (shp0, rf0, h) := ⟨h, 0, rfl, mqrF_rf, s1, s2, s4, by show 0 + p ≤ p; omega, Or.inl ⟨rfl, rfl⟩⟩
          generalize mLP (p, false, v, u) p l d b h = QQ at *
          clear ihr iht
          by_cases d4 : d < 4
          · rw [if_neg (fun w => c4 ⟨w, d4⟩), if_neg (fun w => c4 ⟨w, d4⟩)] at hT4
            refine R_aload_n dX12_readsThing_0 rfl (?_ : RR _ _ _ _ 1 _ _ _ _)
            refine R_bipush dX12_readsThing_1 rfl (?_ : RR _ _ _ _ 3 _ _ _ _)
            refine R_cVi1 dX12_readsThing_3 mvX12_takes mlX12_182 (by decide) (by omega) (Nat.le_of_ble_eq_true rfl) (Nat.le_of_ble_eq_true rfl) (hTk) (?_ : RR _ _ _ _ 6 _ _ _ _)
            refine R_if_eq (t := 23) dX12_readsThing_6 rfl (fun c6 => ?_) (fun c6 => ?_)
            rotate_left
            · exfalso; omega
            refine R_aload_n dX12_readsThing_23 rfl (?_ : RR _ _ _ _ 24 _ _ _ _)
            refine R_cVi0 dX12_readsThing_24 mvX12_isDigit mlX12_178 (by decide) (by omega) (Nat.le_of_ble_eq_true rfl) (Nat.le_of_ble_eq_true rfl) (hD) (?_ : RR _ _ _ _ 27 _ _ _ _)
            refine R_if_eq (t := 41) dX12_readsThing_27 rfl (fun c27 => ?_) (fun c27 => ?_)
            rotate_left
            · exfalso; omega
            refine R_aload_n dX12_readsThing_41 rfl (?_ : RR _ _ _ _ 42 _ _ _ _)
            refine R_ldcS (i := 0) (by decide) rfl dX12_readsThing_42 (?_ : RR _ _ _ _ 44 _ _ _ _)
            refine R_cVi1 dX12_readsThing_44 mvX12_takesOf mlX12_245 (by decide) (by omega) (Nat.le_of_ble_eq_true rfl) (Nat.le_of_ble_eq_true rfl) (hTo) (?_ : RR _ _ _ _ 47 _ _ _ _)
            refine R_istore_n dX12_readsThing_47 (Nat.le_of_ble_eq_true rfl) (?_ : RR _ _ _ _ 48 [_, _] _ _ _)
            refine R_iload_n dX12_readsThing_48 rfl (?_ : RR _ _ _ _ 49 _ _ _ _)
            refine R_if_lt (t := 63) dX12_readsThing_49 rfl (fun c49 => ?_) (fun c49 => ?_)
            rotate_left
            · exfalso; omega
            refine R_aload_n dX12_readsThing_63 rfl (?_ : RR _ _ _ _ 64 _ _ _ _)
            refine R_geti (z := 18) dX12_readsThing_64 flX12_154 cok_12 rfl (by decide) rfl (fun q64 => (?_ : RR _ _ _ _ 67 _ _ _ _))
            rw [s3] at q64 ⊢
            refine R_iconst dX12_readsThing_67 (?_ : RR _ _ _ _ 68 _ _ _ _)
            refine R_icmp_eq (t := 80) dX12_readsThing_68 rfl (fun c68 => ?_) (fun c68 => ?_)
            · exfalso; omega
            refine R_aload_n dX12_readsThing_71 rfl (?_ : RR _ _ _ _ 72 _ _ _ _)
            refine R_bipush dX12_readsThing_72 rfl (?_ : RR _ _ _ _ 74 _ _ _ _)
            refine R_cVi1 dX12_readsThing_74 mvX12_takes mlX12_182 (by decide) (by omega) (Nat.le_of_ble_eq_true rfl) (Nat.le_of_ble_eq_true rfl) (hT4) (?_ : RR _ _ _ _ 77 _ _ _ _)
            refine R_if_ne (t := 82) dX12_readsThing_77 rfl (fun c77 => ?_) (fun c77 => ?_)
            · exfalso; omega
            refine R_iconst dX12_readsThing_80 (?_ : RR _ _ _ _ 81 _ _ _ _)
            exact R_ireturn dX12_readsThing_81 (by first | exact Or.inl rfl | exact Or.inr rfl | exact ok_ite | omega | assumption) hq
          · refine R_aload_n dX12_readsThing_0 rfl (?_ : RR _ _ _ _ 1 _ _ _ _)
            refine R_bipush dX12_readsThing_1 rfl (?_ : RR _ _ _ _ 3 _ _ _ _)
            refine R_cVi1 dX12_readsThing_3 mvX12_takes mlX12_182 (by decide) (by omega) (Nat.le_of_ble_eq_true rfl) (Nat.le_of_ble_eq_true rfl) (hTk) (?_ : RR _ _ _ _ 6 _ _ _ _)
            refine R_if_eq (t := 23) dX12_readsThing_6 rfl (fun c6 => ?_) (fun c6 => ?_)
            rotate_left
            · exfalso; omega
            refine R_aload_n dX12_readsThing_23 rfl (?_ : RR _ _ _ _ 24 _ _ _ _)
            refine R_cVi0 dX12_readsThing_24 mvX12_isDigit mlX12_178 (by decide) (by omega) (Nat.le_of_ble_eq_true rfl) (Nat.le_of_ble_eq_true rfl) (hD) (?_ : RR _ _ _ _ 27 _ _ _ _)
            refine R_if_eq (t := 41) dX12_readsThing_27 rfl (fun c27 => ?_) (fun c27 => ?_)
            rotate_left
            · exfalso; omega
            refine R_aload_n dX12_readsThing_41 rfl (?_ : RR _ _ _ _ 42 _ _ _ _)
            refine R_ldcS (i := 0) (by decide) rfl dX12_readsThing_42 (?_ : RR _ _ _ _ 44 _ _ _ _)
            refine R_cVi1 dX12_readsThing_44 mvX12_takesOf mlX12_245 (by decide) (by omega) (Nat.le_of_ble_eq_true rfl) (Nat.le_of_ble_eq_true rfl) (hTo) (?_ : RR _ _ _ _ 47 _ _ _ _)
            refine R_istore_n dX12_readsThing_47 (Nat.le_of_ble_eq_true rfl) (?_ : RR _ _ _ _ 48 [_, _] _ _ _)
            refine R_iload_n dX12_readsThing_48 rfl (?_ : RR _ _ _ _ 49 _ _ _ _)
            refine R_if_lt (t := 63) dX12_readsThing_49 rfl (fun c49 => ?_) (fun c49 => ?_)
            rotate_left
            · exfalso; omega
            refine R_aload_n dX12_readsThing_63 rfl (?_ : RR _ _ _ _ 64 _ _ _ _)
            refine R_geti (z := 18) dX12_readsThing_64 flX12_154 cok_12 rfl (by decide) rfl (fun q64 => (?_ : RR _ _ _ _ 67 _ _ _ _))
            rw [s3] at q64 ⊢
            refine R_iconst dX12_readsThing_67 (?_ : RR _ _ _ _ 68 _ _ _ _)
            refine R_icmp_eq (t := 80) dX12_readsThing_68 rfl (fun c68 => ?_) (fun c68 => ?_)
            rotate_left
            · exfalso; omega
            refine R_iconst dX12_readsThing_80 (?_ : RR _ _ _ _ 81 _ _ _ _)
            exact R_ireturn dX12_readsThing_81 (by first | exact Or.inl rfl | exact Or.inr rfl | exact ok_ite | omega | assumption) hq
end RU8
