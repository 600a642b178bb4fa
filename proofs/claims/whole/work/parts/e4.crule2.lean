section RU3
variable {k : Nat} {h h1 h2 h3 h4 : Nat → Int → Int} {N d p b l : Nat} {σ : Int → Int} {v : (Int → Int) → Int} {u : Bool}
def cLP (x : RV) (p l : Nat) (h : Nat → Int → Int) (r' : Option PV) (g' : PH) : Prop := ∃ h2, g' = (shp0, rf0, h2) ∧ crF h h2 l ∧ h2 32 3 = (x.1 : Int) ∧ ((x.2.1 = false ∧ r' = some (pI 0) ∧ (h2 32 4 = 0 ∨ h2 32 4 = 1)) ∨ (x.2.1 = true ∧ r' = some (pI 1) ∧ ∃ k : Nat, k + p ≤ x.1 ∧ crS h2 x.1 (l + k) x.2.2.2 ∧ SgC (h2 33) l k x.2.2.1))
def cLv (σ : Int → Int) (b N : Nat) : Prop := ∀ (m d p l : Nat) (u : Bool) (v : (Int → Int) → Int) (h : Nat → Int → Int), m ≤ 3 → d ≤ 4 → p ≤ b → l ≤ p → rpM m p ≤ N → gd v u → (∀ p : Int, 0 ≤ p → signAt h p = σ p) → crS h p l u → RR mX4_readLevel (3 * N + 8) 0 0 0 (pm_ent [pR 32, pR 1, pI m, pI d] 7) [] (shp0, rf0, h) (cLP (rp σ N m d p v u) p l h)
theorem crS_b (hs : crS h p l u) : h 32 4 = 0 ∨ h 32 4 = 1 := by rw [hs.2.2]; cases u; (· exact Or.inl rfl); (· exact Or.inr rfl)
theorem sig_fr (hσ : ∀ p : Int, 0 ≤ p → signAt h p = σ p) (f : crF h h1 l) : ∀ p : Int, 0 ≤ p → signAt h1 p = σ p := fun p p0 => by
  rw [← hσ p p0]
  unfold signAt
  rw [f.1 1 (by omega) (by omega), f.1 2 (by omega) (by omega)]
theorem cLP_z {x : RV} {r' : Option PV} {g' : PH} (hc : cLP x p l h r' g') : ∃ z : Int, (z = 0 ∨ z = 1) ∧ r' = some (pI z) := by
  obtain ⟨h6, rfl, f6, i6, ⟨o6, rfl, n6⟩ | ⟨o6, rfl, kk⟩⟩ := hc
  · exact ⟨0, Or.inl rfl, rfl⟩
  · exact ⟨1, Or.inr rfl, rfl⟩
theorem C_thing (ih : cLv σ b N) (hσn : ∀ p : Nat, b ≤ p → σ p = -1) (hσb : ∀ p : Int, -1 ≤ σ p ∧ σ p ≤ 255) (hb : b ≤ 40) (hd : d ≤ 4) (hp : p ≤ b) (hl : l ≤ p) (hN : rpM 3 p ≤ N + 1) (hv : gd v u) (hσ : ∀ p : Int, 0 ≤ p → signAt h p = σ p) (hs : crS h p l u) (h45 : σ p ≠ 45) : RR mX4_readThing (3 * (N + 1) + 6) 0 0 0 (pm_ent [pR 32, pR 1, pI d] 5) [] (shp0, rf0, h) (cLP (rp σ (N + 1) 3 d p v u) p l h) := by
  show RR _ _ _ _ _ [pR 32, pR 1, pI d, pU, pU] _ _ _
  have rr := isRule_32
  have lt : σ p ≠ -1 → p < b := fun q => by
    by_cases z : p < b
    · exact z
    · exact absurd (hσn p (by omega)) q
  unfold rpM at hN
  rw [if_pos (by omega)] at hN
  have e0 : rp σ (N + 1) 3 d p v u = (if dgt (σ p) then (p + nuL σ p, true, fun _ => nuV σ p, u) else if 0 ≤ amI 0 (σ p) then (p + 1, true, fun th => th (amI 0 (σ p)), u || decide (σ p = 110)) else if σ p = 40 ∧ d < 4 then rpc σ (rp σ N 0 (d + 1) (p + 1) v u) else (p, false, v, u)) := by
    show (if 3 = 3 then _ else _) = _
    rw [if_pos rfl, if_neg h45]
  rw [e0]
  clear e0
  have sp := hσb p
  obtain ⟨s1, s2, s3⟩ := id hs
  have A1 := T_X7_at (h := h) (p := (p : Int))
  rw [hσ _ (by omega)] at A1
  have hT := T_X4_thingOf (h := h) (c := σ p) (by omega)
  have ht : tgO (σ p) = amI 0 (σ p) := tgO_e.symm
  by_cases c4 : σ p = 40 ∧ d < 4
  · have hnd : ¬ dgt (σ p) := by unfold dgt; omega
    have hnt : ¬ 0 ≤ amI 0 (σ p) := by rw [c4.1, amI_0]; decide
    rw [if_neg hnd, if_neg hnt, if_pos c4]
    have hpb := lt (by omega)
    obtain ⟨h5, h5e⟩ : ∃ h5, h5 = rup h 32 (fup (h 32) 3 ((p : Int) + 1)) := ⟨_, rfl⟩
    have f5 : crF h h5 l := ⟨fun a a1 a2 => by rw [h5e, rup_n a1], fun j hj => by rw [h5e, rup_n (by omega)]⟩
    have s5 : crS h5 (p + 1) l u := ⟨by rw [h5e, rup_s, fup_s]; omega, by rw [h5e, rup_s, fup_n (by omega)]; exact s2, by rw [h5e, rup_s, fup_n (by omega)]; exact s3⟩
    have IH := ih 0 (d + 1) (p + 1) l u v h5 (by omega) (by omega) (by omega) (by omega) (by unfold rpM; rw [if_pos (by omega)]; omega) hv (sig_fr hσ f5) s5
    have hbx := rp_b (σ := σ) hσn hb N 0 (d + 1) (p + 1) v u (by omega) (by omega) (by unfold rpM; rw [if_pos (by omega)]; omega)
    generalize rp σ N 0 (d + 1) (p + 1) v u = x at *
    rw [show ((0 : Nat) : Int) = 0 from rfl, show ((d + 1 : Nat) : Int) = (d : Int) + 1 by omega] at IH
    have K39 : ∀ r' g', cLP x (p + 1) l h5 r' g' → ∃ z : Int, r' = some (pI z) ∧ RR mX4_readThing (3 * (N + 1) + 6) 0 0 39 [pR 32, pR 1, pI d, pI (σ p), pU] [pI z] g' (cLP (rpc σ x) p l h) := by
      intro r' g' hc
      obtain ⟨h6, rfl, f6, i6, ⟨o6, rfl, n6⟩ | ⟨o6, rfl, k, k1, s6, g6⟩⟩ := hc
      · refine ⟨0, rfl, ?_⟩
        have e : rpc σ x = x := by unfold rpc; rw [o6]; rfl
        have hq : cLP (rpc σ x) p l h (some (pI 0)) (shp0, rf0, h6) := by rw [e]; exact ⟨h6, rfl, crF_tr f5 f6 (Nat.le_refl l), i6, Or.inl ⟨o6, rfl, n6⟩⟩
        refine R_if_eq (t := 55) dX4_readThing_39 rfl (fun c39 => ?_) (fun c39 => ?_)
        rotate_left
        · exfalso; omega
        refine R_iconst dX4_readThing_55 (?_ : RR _ _ _ _ 56 _ _ _ _)
        exact R_ireturn dX4_readThing_56 (by first | exact Or.inl rfl | exact Or.inr rfl | exact ok_ite | omega | assumption) hq
      · refine ⟨1, rfl, ?_⟩
        have A6 := T_X7_at (h := h6) (p := (x.1 : Int))
        rw [sig_fr (sig_fr hσ f5) f6 _ (by omega)] at A6
        have b6 := hσb x.1
        by_cases w : σ x.1 = 41
        · have e : rpc σ x = (x.1 + 1, true, x.2.2) := by unfold rpc; rw [o6, if_pos rfl, if_pos w]
          have hq : cLP (rpc σ x) p l h (some (pI 1)) (shp0, rf0, rup h6 32 (fup (h6 32) 3 ((x.1 : Int) + 1))) := by
            rw [e]
            refine ⟨_, rfl, ⟨fun a a1 a2 => by rw [rup_n a1, f6.1 a a1 a2]; exact f5.1 a a1 a2, fun j hj => by rw [rup_n (by omega), f6.2 j hj]; exact f5.2 j hj⟩, by rw [rup_s, fup_s]; rfl, Or.inr ⟨rfl, rfl, k, by show k + p ≤ x.1 + 1; omega, ⟨by rw [rup_s, fup_s]; rfl, by rw [rup_s, fup_n (by omega)]; exact s6.2.1, by rw [rup_s, fup_n (by omega)]; exact s6.2.2⟩, by rw [rup_n (by omega)]; exact g6⟩⟩
          rw [w] at A6
          clear IH g6
          refine R_if_eq (t := 55) dX4_readThing_39 rfl (fun c39 => ?_) (fun c39 => ?_)
          · exfalso; omega
          refine R_aload_n dX4_readThing_42 rfl (?_ : RR _ _ _ _ 43 _ _ _ _)
          refine R_aload_n dX4_readThing_43 rfl (?_ : RR _ _ _ _ 44 _ _ _ _)
          refine R_geti (z := 3) dX4_readThing_44 flX4_51 cok_4 rfl (by decide) rfl (fun q44 => (?_ : RR _ _ _ _ 47 _ _ _ _))
          rw [i6] at q44 ⊢
          refine R_cVi1 dX4_readThing_47 mvX7_at mlX4_66 (by decide) (by omega) (Nat.le_of_ble_eq_true rfl) (Nat.le_of_ble_eq_true rfl) (A6) (?_ : RR _ _ _ _ 50 _ _ _ _)
          refine R_bipush dX4_readThing_50 rfl (?_ : RR _ _ _ _ 52 _ _ _ _)
          refine R_icmp_eq (t := 57) dX4_readThing_52 rfl (fun c52 => ?_) (fun c52 => ?_)
          rotate_left
          · exfalso; omega
          refine R_aload_n dX4_readThing_57 rfl (?_ : RR _ _ _ _ 58 _ _ _ _)
          refine R_dup dX4_readThing_58 (fun _ => rfl) (?_ : RR _ _ _ _ 59 _ _ _ _)
          refine R_geti (z := 3) dX4_readThing_59 flX4_51 cok_4 rfl (by decide) rfl (fun q59 => (?_ : RR _ _ _ _ 62 _ _ _ _))
          rw [i6] at q59 ⊢
          refine R_iconst dX4_readThing_62 (?_ : RR _ _ _ _ 63 _ _ _ _)
          refine R_iadd dX4_readThing_63 (?_ : RR _ _ _ _ 64 _ _ _ _)
          refine R_puti (zk := 3) dX4_readThing_64 flX4_51 cok_4 (by decide) (fun q hq => by cases hq; rfl) rfl (?_ : RR _ _ _ _ 67 _ _ _ _)
          refine R_iconst dX4_readThing_67 (?_ : RR _ _ _ _ 68 _ _ _ _)
          exact R_ireturn dX4_readThing_68 (by first | exact Or.inl rfl | exact Or.inr rfl | exact ok_ite | omega | assumption) hq
        · have e : rpc σ x = (x.1, false, x.2.2) := by unfold rpc; rw [o6, if_pos rfl, if_neg w]
          have hq : cLP (rpc σ x) p l h (some (pI 0)) (shp0, rf0, h6) := by rw [e]; exact ⟨h6, rfl, crF_tr f5 f6 (Nat.le_refl l), i6, Or.inl ⟨rfl, rfl, crS_b s6⟩⟩
          clear IH g6
          refine R_if_eq (t := 55) dX4_readThing_39 rfl (fun c39 => ?_) (fun c39 => ?_)
          · exfalso; omega
          refine R_aload_n dX4_readThing_42 rfl (?_ : RR _ _ _ _ 43 _ _ _ _)
          refine R_aload_n dX4_readThing_43 rfl (?_ : RR _ _ _ _ 44 _ _ _ _)
          refine R_geti (z := 3) dX4_readThing_44 flX4_51 cok_4 rfl (by decide) rfl (fun q44 => (?_ : RR _ _ _ _ 47 _ _ _ _))
          rw [i6] at q44 ⊢
          refine R_cVi1 dX4_readThing_47 mvX7_at mlX4_66 (by decide) (by omega) (Nat.le_of_ble_eq_true rfl) (Nat.le_of_ble_eq_true rfl) (A6) (?_ : RR _ _ _ _ 50 _ _ _ _)
          refine R_bipush dX4_readThing_50 rfl (?_ : RR _ _ _ _ 52 _ _ _ _)
          refine R_icmp_eq (t := 57) dX4_readThing_52 rfl (fun c52 => ?_) (fun c52 => ?_)
          · exfalso; omega
          refine R_iconst dX4_readThing_55 (?_ : RR _ _ _ _ 56 _ _ _ _)
          exact R_ireturn dX4_readThing_56 (by first | exact Or.inl rfl | exact Or.inr rfl | exact ok_ite | omega | assumption) hq
    rw [c4.1] at A1 K39
    rw [h5e] at IH K39
    clear hT
    refine R_aload_n dX4_readThing_0 rfl (?_ : RR _ _ _ _ 1 _ _ _ _)
    refine R_aload_n dX4_readThing_1 rfl (?_ : RR _ _ _ _ 2 _ _ _ _)
    refine R_geti (z := 3) dX4_readThing_2 flX4_51 cok_4 rfl (by decide) rfl (fun q2 => (?_ : RR _ _ _ _ 5 _ _ _ _))
    rw [s1] at q2 ⊢
    refine R_cVi1 dX4_readThing_5 mvX7_at mlX4_66 (by decide) (by omega) (Nat.le_of_ble_eq_true rfl) (Nat.le_of_ble_eq_true rfl) (A1) (?_ : RR _ _ _ _ 8 _ _ _ _)
    refine R_istore_n dX4_readThing_8 (Nat.le_of_ble_eq_true rfl) (?_ : RR _ _ _ _ 9 [_, _, _, _, _] _ _ _)
    refine R_iload_n dX4_readThing_9 rfl (?_ : RR _ _ _ _ 10 _ _ _ _)
    refine R_bipush dX4_readThing_10 rfl (?_ : RR _ _ _ _ 12 _ _ _ _)
    refine R_icmp_ne (t := 69) dX4_readThing_12 rfl (fun c12 => ?_) (fun c12 => ?_)
    · exfalso; omega
    refine R_iload_n dX4_readThing_15 rfl (?_ : RR _ _ _ _ 16 _ _ _ _)
    refine R_iconst dX4_readThing_16 (?_ : RR _ _ _ _ 17 _ _ _ _)
    refine R_icmp_ge (t := 69) dX4_readThing_17 rfl (fun c17 => ?_) (fun c17 => ?_)
    · exfalso; omega
    refine R_aload_n dX4_readThing_20 rfl (?_ : RR _ _ _ _ 21 _ _ _ _)
    refine R_dup dX4_readThing_21 (fun _ => rfl) (?_ : RR _ _ _ _ 22 _ _ _ _)
    refine R_geti (z := 3) dX4_readThing_22 flX4_51 cok_4 rfl (by decide) rfl (fun q22 => (?_ : RR _ _ _ _ 25 _ _ _ _))
    rw [s1] at q22 ⊢
    refine R_iconst dX4_readThing_25 (?_ : RR _ _ _ _ 26 _ _ _ _)
    refine R_iadd dX4_readThing_26 (?_ : RR _ _ _ _ 27 _ _ _ _)
    refine R_puti (zk := 3) dX4_readThing_27 flX4_51 cok_4 (by decide) (fun q hq => by cases hq; rfl) rfl (?_ : RR _ _ _ _ 30 _ _ _ _)
    refine R_aload_n dX4_readThing_30 rfl (?_ : RR _ _ _ _ 31 _ _ _ _)
    refine R_aload_n dX4_readThing_31 rfl (?_ : RR _ _ _ _ 32 _ _ _ _)
    refine R_iconst dX4_readThing_32 (?_ : RR _ _ _ _ 33 _ _ _ _)
    refine R_iload_n dX4_readThing_33 rfl (?_ : RR _ _ _ _ 34 _ _ _ _)
    refine R_iconst dX4_readThing_34 (?_ : RR _ _ _ _ 35 _ _ _ _)
    refine R_iadd dX4_readThing_35 (?_ : RR _ _ _ _ 36 _ _ _ _)
    refine R_qV3 dX4_readThing_36 mvX4_readLevel mlX4_58 (by decide) (by omega) (Nat.le_of_ble_eq_true rfl) (Nat.le_of_ble_eq_true rfl) (IH) (fun r9 g9 hq9 => (?_ : RR _ _ _ _ 39 _ _ _ _))
    obtain ⟨z, rfl, KK⟩ := K39 _ _ hq9
    show RR _ _ _ _ _ _ [pI z] _ _
    exact KK
  · by_cases c2 : dgt (σ p)
    · have ht1 : tgO (σ p) = -1 := by unfold tgO; unfold dgt at c2; rw [if_neg (by omega), if_neg (by omega), if_neg (by omega), if_neg (by omega), if_neg (by omega), if_neg (by omega)]
      rw [ht1] at hT
      rw [if_pos c2]
      have nb := nuL_b hσn c2
      have nv := nuV_b c2
      have hR := C_readNumber (Q := cLP (p + nuL σ p, true, fun _ => nuV σ p, u) p l h) hσ hσb (by omega) hs (fun w => by have := lt (by unfold dgt at w; omega); omega) (fun w => absurd c2 w) (fun _ h6 f6 s6 v6 => by
        have g := SgC_push (C := h6 33) (l := l) (c := nuV σ p) v6 (by omega) (by omega)
        refine ⟨h6, rfl, f6, s6.1, Or.inr ⟨rfl, rfl, 1, by show 1 + p ≤ p + nuL σ p; omega, s6, SgC_v g (fun th _ => if_pos (by omega))⟩⟩)
      unfold dgt at c2
      have h40 : σ p ≠ 40 := by omega
      generalize σ p = c at *
      refine R_aload_n dX4_readThing_0 rfl (?_ : RR _ _ _ _ 1 _ _ _ _)
      refine R_aload_n dX4_readThing_1 rfl (?_ : RR _ _ _ _ 2 _ _ _ _)
      refine R_geti (z := 3) dX4_readThing_2 flX4_51 cok_4 rfl (by decide) rfl (fun q2 => (?_ : RR _ _ _ _ 5 _ _ _ _))
      rw [s1] at q2 ⊢
      refine R_cVi1 dX4_readThing_5 mvX7_at mlX4_66 (by decide) (by omega) (Nat.le_of_ble_eq_true rfl) (Nat.le_of_ble_eq_true rfl) (A1) (?_ : RR _ _ _ _ 8 _ _ _ _)
      refine R_istore_n dX4_readThing_8 (Nat.le_of_ble_eq_true rfl) (?_ : RR _ _ _ _ 9 [_, _, _, _, _] _ _ _)
      refine R_iload_n dX4_readThing_9 rfl (?_ : RR _ _ _ _ 10 _ _ _ _)
      refine R_bipush dX4_readThing_10 rfl (?_ : RR _ _ _ _ 12 _ _ _ _)
      refine R_icmp_ne (t := 69) dX4_readThing_12 rfl (fun c12 => ?_) (fun c12 => ?_)
      rotate_left
      · exfalso; omega
      refine R_iload_n dX4_readThing_69 rfl (?_ : RR _ _ _ _ 70 _ _ _ _)
      refine R_cSi1 dX4_readThing_70 msX4_thingOf mlX4_76 (by omega) (Nat.le_of_ble_eq_true rfl) (Nat.le_of_ble_eq_true rfl) (hT) (?_ : RR _ _ _ _ 73 _ _ _ _)
      refine R_istore dX4_readThing_73 (Nat.le_of_ble_eq_true rfl) (?_ : RR _ _ _ _ 75 [_, _, _, _, _] _ _ _)
      refine R_iload dX4_readThing_75 rfl (?_ : RR _ _ _ _ 77 _ _ _ _)
      refine R_iconst dX4_readThing_77 (?_ : RR _ _ _ _ 78 _ _ _ _)
      refine R_icmp_ne (t := 87) dX4_readThing_78 rfl (fun c78 => ?_) (fun c78 => ?_)
      · exfalso; omega
      refine R_aload_n dX4_readThing_81 rfl (?_ : RR _ _ _ _ 82 _ _ _ _)
      refine R_aload_n dX4_readThing_82 rfl (?_ : RR _ _ _ _ 83 _ _ _ _)
      refine R_qV1 dX4_readThing_83 mvX4_readNumber mlX4_79 (by decide) (by omega) (Nat.le_of_ble_eq_true rfl) (Nat.le_of_ble_eq_true rfl) (hR) (fun r9 g9 hq9 => (?_ : RR _ _ _ _ 86 _ _ _ _))
      obtain ⟨z, hz, rfl⟩ := cLP_z hq9
      show RR _ _ _ _ _ _ [pI z] _ _
      exact R_ireturn dX4_readThing_86 (by first | exact Or.inl rfl | exact Or.inr rfl | exact ok_ite | omega | assumption) hq9
    · rw [if_neg c2]
      by_cases c3 : 0 ≤ amI 0 (σ p)
      · rw [if_pos c3]
        have e5 : amI 0 (σ p) ≤ 5 ∧ (amI 0 (σ p) = 5 ↔ σ p = 110) ∧ σ p ≠ 40 ∧ σ p ≠ -1 := by
          rw [amI_0] at c3 ⊢
          repeat' split
          all_goals (refine ⟨by omega, ⟨by omega, by omega⟩, by omega, by omega⟩)
        have hpb := lt e5.2.2.2
        rw [ht] at hT
        have hA := T_add32 (h := h) (l := l) (c := 1000 + amI 0 (σ p)) s2 (by omega) (by omega)
        obtain ⟨h6, h6e⟩ : ∃ h6, h6 = rup (rup h 32 (fup (h 32) 2 ((l : Int) + 1))) 33 (fup (h 33) l (1000 + amI 0 (σ p))) := ⟨_, rfl⟩
        rw [← h6e] at hA
        have u6 : h6 32 4 = (if u then 1 else 0) := by rw [h6e, rup_n (by omega), rup_s, fup_n (by omega)]; exact s3
        have p6 : h6 32 3 = p := by rw [h6e, rup_n (by omega), rup_s, fup_n (by omega)]; exact s1
        have l6 : h6 32 2 = (l : Int) + 1 := by rw [h6e, rup_n (by omega), rup_s, fup_s]
        have c6 : h6 33 l = 1000 + amI 0 (σ p) := by rw [h6e, rup_s, fup_s]
        have f6 : crF h h6 l := ⟨fun a a1 a2 => by rw [h6e, rup_n a2, rup_n a1], fun j hj => by rw [h6e, rup_s, fup_n (by omega)]⟩
        clear h6e
        have fin : ∀ U : Bool, U = (u || decide (σ p = 110)) → cLP (p + 1, true, fun th => th (amI 0 (σ p)), u || decide (σ p = 110)) p l h (some (pI 1)) (shp0, rf0, rup h6 32 (fup (fup (h6 32) 4 (if U then 1 else 0)) 3 ((p : Int) + 1))) := fun U hU => by
          have g := SgC_push (C := h6 33) (l := l) (c := 1000 + amI 0 (σ p)) c6 (by omega) (by omega)
          refine ⟨_, rfl, ⟨fun a a1 a2 => by rw [rup_n a1]; exact f6.1 a a1 a2, fun j hj => by rw [rup_n (by omega)]; exact f6.2 j hj⟩, by rw [rup_s, fup_s]; rfl, Or.inr ⟨rfl, rfl, 1, by show 1 + p ≤ p + 1; omega, ⟨by rw [rup_s, fup_s]; rfl, by rw [rup_s, fup_n (by omega), fup_n (by omega)]; exact l6, by rw [rup_s, fup_n (by omega), fup_s, hU]⟩, by rw [rup_n (by omega)]; exact SgC_v g (fun th _ => by rw [if_neg (by omega), show 1000 + amI 0 (σ p) - 1000 = amI 0 (σ p) by omega])⟩⟩
        have h40 : ¬ (σ p = 40) := e5.2.2.1
        cases u with
        | true =>
          have hq := fin true rfl
          have hq : cLP (p + 1, true, fun th => th (amI 0 (σ p)), true || decide (σ p = 110)) p l h (some (pI 1)) (shp0, rf0, rup h6 32 (fup (fup (h6 32) 4 1) 3 ((p : Int) + 1))) := hq
          have u6 : h6 32 4 = 1 := u6
          clear fin
          generalize amI 0 (σ p) = t at *
          refine R_aload_n dX4_readThing_0 rfl (?_ : RR _ _ _ _ 1 _ _ _ _)
          refine R_aload_n dX4_readThing_1 rfl (?_ : RR _ _ _ _ 2 _ _ _ _)
          refine R_geti (z := 3) dX4_readThing_2 flX4_51 cok_4 rfl (by decide) rfl (fun q2 => (?_ : RR _ _ _ _ 5 _ _ _ _))
          try simp (disch := omega) only [rup_rup, rup_sort, rupS_def, rup_s, rup_n, fup_fup, fup_s, fup_n, p6] at q2 ⊢
          rw [s1] at q2 ⊢
          refine R_cVi1 dX4_readThing_5 mvX7_at mlX4_66 (by decide) (by omega) (Nat.le_of_ble_eq_true rfl) (Nat.le_of_ble_eq_true rfl) (A1) (?_ : RR _ _ _ _ 8 _ _ _ _)
          try simp (disch := omega) only [rup_rup, rup_sort, rupS_def, rup_s, rup_n, fup_fup, fup_s, fup_n, p6]
          refine R_istore_n dX4_readThing_8 (Nat.le_of_ble_eq_true rfl) (?_ : RR _ _ _ _ 9 [_, _, _, _, _] _ _ _)
          refine R_iload_n dX4_readThing_9 rfl (?_ : RR _ _ _ _ 10 _ _ _ _)
          refine R_bipush dX4_readThing_10 rfl (?_ : RR _ _ _ _ 12 _ _ _ _)
          refine R_icmp_ne (t := 69) dX4_readThing_12 rfl (fun c12 => ?_) (fun c12 => ?_)
          rotate_left
          · exfalso; omega
          refine R_iload_n dX4_readThing_69 rfl (?_ : RR _ _ _ _ 70 _ _ _ _)
          refine R_cSi1 dX4_readThing_70 msX4_thingOf mlX4_76 (by omega) (Nat.le_of_ble_eq_true rfl) (Nat.le_of_ble_eq_true rfl) (hT) (?_ : RR _ _ _ _ 73 _ _ _ _)
          try simp (disch := omega) only [rup_rup, rup_sort, rupS_def, rup_s, rup_n, fup_fup, fup_s, fup_n, p6]
          refine R_istore dX4_readThing_73 (Nat.le_of_ble_eq_true rfl) (?_ : RR _ _ _ _ 75 [_, _, _, _, _] _ _ _)
          refine R_iload dX4_readThing_75 rfl (?_ : RR _ _ _ _ 77 _ _ _ _)
          refine R_iconst dX4_readThing_77 (?_ : RR _ _ _ _ 78 _ _ _ _)
          refine R_icmp_ne (t := 87) dX4_readThing_78 rfl (fun c78 => ?_) (fun c78 => ?_)
          rotate_left
          · exfalso; omega
          refine R_aload_n dX4_readThing_87 rfl (?_ : RR _ _ _ _ 88 _ _ _ _)
          refine R_sipush dX4_readThing_88 rfl (?_ : RR _ _ _ _ 91 _ _ _ _)
          refine R_iload dX4_readThing_91 rfl (?_ : RR _ _ _ _ 93 _ _ _ _)
          refine R_iadd dX4_readThing_93 (?_ : RR _ _ _ _ 94 _ _ _ _)
          refine R_cVv1 dX4_readThing_94 mvX4_add mlX4_55 (by decide) (by omega) (Nat.le_of_ble_eq_true rfl) (Nat.le_of_ble_eq_true rfl) (hA) (?_ : RR _ _ _ _ 97 _ _ _ _)
          try simp (disch := omega) only [rup_rup, rup_sort, rupS_def, rup_s, rup_n, fup_fup, fup_s, fup_n, p6]
          refine R_aload_n dX4_readThing_97 rfl (?_ : RR _ _ _ _ 98 _ _ _ _)
          refine R_aload_n dX4_readThing_98 rfl (?_ : RR _ _ _ _ 99 _ _ _ _)
          refine R_geti (z := 4) dX4_readThing_99 flX4_22 cok_4 rfl (by decide) rfl (fun q99 => (?_ : RR _ _ _ _ 102 _ _ _ _))
          try simp (disch := omega) only [rup_rup, rup_sort, rupS_def, rup_s, rup_n, fup_fup, fup_s, fup_n, p6] at q99 ⊢
          rw [u6] at q99 ⊢
          refine R_if_ne (t := 111) dX4_readThing_102 rfl (fun c102 => ?_) (fun c102 => ?_)
          rotate_left
          · exfalso; omega
          refine R_iconst dX4_readThing_111 (?_ : RR _ _ _ _ 112 _ _ _ _)
          refine R_goto (t := 116) dX4_readThing_112 rfl (?_ : RR _ _ _ _ 116 _ _ _ _)
          refine R_puti (zk := 4) dX4_readThing_116 flX4_22 cok_4 (by decide) (fun q hq => by cases hq; rfl) rfl (?_ : RR _ _ _ _ 119 _ _ _ _)
          try simp (disch := omega) only [rup_rup, rup_sort, rupS_def, rup_s, rup_n, fup_fup, fup_s, fup_n, p6]
          refine R_aload_n dX4_readThing_119 rfl (?_ : RR _ _ _ _ 120 _ _ _ _)
          refine R_dup dX4_readThing_120 (fun _ => rfl) (?_ : RR _ _ _ _ 121 _ _ _ _)
          refine R_geti (z := 3) dX4_readThing_121 flX4_51 cok_4 rfl (by decide) rfl (fun q121 => (?_ : RR _ _ _ _ 124 _ _ _ _))
          try simp (disch := omega) only [rup_rup, rup_sort, rupS_def, rup_s, rup_n, fup_fup, fup_s, fup_n, p6] at q121 ⊢
          refine R_iconst dX4_readThing_124 (?_ : RR _ _ _ _ 125 _ _ _ _)
          refine R_iadd dX4_readThing_125 (?_ : RR _ _ _ _ 126 _ _ _ _)
          refine R_puti (zk := 3) dX4_readThing_126 flX4_51 cok_4 (by decide) (fun q hq => by cases hq; rfl) rfl (?_ : RR _ _ _ _ 129 _ _ _ _)
          try simp (disch := omega) only [rup_rup, rup_sort, rupS_def, rup_s, rup_n, fup_fup, fup_s, fup_n, p6]
          refine R_iconst dX4_readThing_129 (?_ : RR _ _ _ _ 130 _ _ _ _)
          exact R_ireturn dX4_readThing_130 (by first | exact Or.inl rfl | exact Or.inr rfl | exact ok_ite | omega | assumption) hq
        | false =>
          have u6 : h6 32 4 = 0 := u6
          by_cases y : σ p = 110
          · have hq := fin true (by rw [decide_eq_true y]; rfl)
            have hq : cLP (p + 1, true, fun th => th (amI 0 (σ p)), false || decide (σ p = 110)) p l h (some (pI 1)) (shp0, rf0, rup h6 32 (fup (fup (h6 32) 4 1) 3 ((p : Int) + 1))) := hq
            have t5 := e5.2.1.mpr y
            clear fin
            generalize amI 0 (σ p) = t at *
            refine R_aload_n dX4_readThing_0 rfl (?_ : RR _ _ _ _ 1 _ _ _ _)
            refine R_aload_n dX4_readThing_1 rfl (?_ : RR _ _ _ _ 2 _ _ _ _)
            refine R_geti (z := 3) dX4_readThing_2 flX4_51 cok_4 rfl (by decide) rfl (fun q2 => (?_ : RR _ _ _ _ 5 _ _ _ _))
            try simp (disch := omega) only [rup_rup, rup_sort, rupS_def, rup_s, rup_n, fup_fup, fup_s, fup_n, p6] at q2 ⊢
            rw [s1] at q2 ⊢
            refine R_cVi1 dX4_readThing_5 mvX7_at mlX4_66 (by decide) (by omega) (Nat.le_of_ble_eq_true rfl) (Nat.le_of_ble_eq_true rfl) (A1) (?_ : RR _ _ _ _ 8 _ _ _ _)
            try simp (disch := omega) only [rup_rup, rup_sort, rupS_def, rup_s, rup_n, fup_fup, fup_s, fup_n, p6]
            refine R_istore_n dX4_readThing_8 (Nat.le_of_ble_eq_true rfl) (?_ : RR _ _ _ _ 9 [_, _, _, _, _] _ _ _)
            refine R_iload_n dX4_readThing_9 rfl (?_ : RR _ _ _ _ 10 _ _ _ _)
            refine R_bipush dX4_readThing_10 rfl (?_ : RR _ _ _ _ 12 _ _ _ _)
            refine R_icmp_ne (t := 69) dX4_readThing_12 rfl (fun c12 => ?_) (fun c12 => ?_)
            rotate_left
            · exfalso; omega
            refine R_iload_n dX4_readThing_69 rfl (?_ : RR _ _ _ _ 70 _ _ _ _)
            refine R_cSi1 dX4_readThing_70 msX4_thingOf mlX4_76 (by omega) (Nat.le_of_ble_eq_true rfl) (Nat.le_of_ble_eq_true rfl) (hT) (?_ : RR _ _ _ _ 73 _ _ _ _)
            try simp (disch := omega) only [rup_rup, rup_sort, rupS_def, rup_s, rup_n, fup_fup, fup_s, fup_n, p6]
            refine R_istore dX4_readThing_73 (Nat.le_of_ble_eq_true rfl) (?_ : RR _ _ _ _ 75 [_, _, _, _, _] _ _ _)
            refine R_iload dX4_readThing_75 rfl (?_ : RR _ _ _ _ 77 _ _ _ _)
            refine R_iconst dX4_readThing_77 (?_ : RR _ _ _ _ 78 _ _ _ _)
            refine R_icmp_ne (t := 87) dX4_readThing_78 rfl (fun c78 => ?_) (fun c78 => ?_)
            rotate_left
            · exfalso; omega
            refine R_aload_n dX4_readThing_87 rfl (?_ : RR _ _ _ _ 88 _ _ _ _)
            refine R_sipush dX4_readThing_88 rfl (?_ : RR _ _ _ _ 91 _ _ _ _)
            refine R_iload dX4_readThing_91 rfl (?_ : RR _ _ _ _ 93 _ _ _ _)
            refine R_iadd dX4_readThing_93 (?_ : RR _ _ _ _ 94 _ _ _ _)
            refine R_cVv1 dX4_readThing_94 mvX4_add mlX4_55 (by decide) (by omega) (Nat.le_of_ble_eq_true rfl) (Nat.le_of_ble_eq_true rfl) (hA) (?_ : RR _ _ _ _ 97 _ _ _ _)
            try simp (disch := omega) only [rup_rup, rup_sort, rupS_def, rup_s, rup_n, fup_fup, fup_s, fup_n, p6]
            refine R_aload_n dX4_readThing_97 rfl (?_ : RR _ _ _ _ 98 _ _ _ _)
            refine R_aload_n dX4_readThing_98 rfl (?_ : RR _ _ _ _ 99 _ _ _ _)
            refine R_geti (z := 4) dX4_readThing_99 flX4_22 cok_4 rfl (by decide) rfl (fun q99 => (?_ : RR _ _ _ _ 102 _ _ _ _))
            try simp (disch := omega) only [rup_rup, rup_sort, rupS_def, rup_s, rup_n, fup_fup, fup_s, fup_n, p6] at q99 ⊢
            rw [u6] at q99 ⊢
            refine R_if_ne (t := 111) dX4_readThing_102 rfl (fun c102 => ?_) (fun c102 => ?_)
            · exfalso; omega
            refine R_iload dX4_readThing_105 rfl (?_ : RR _ _ _ _ 107 _ _ _ _)
            refine R_iconst dX4_readThing_107 (?_ : RR _ _ _ _ 108 _ _ _ _)
            refine R_icmp_ne (t := 115) dX4_readThing_108 rfl (fun c108 => ?_) (fun c108 => ?_)
            · exfalso; omega
            refine R_iconst dX4_readThing_111 (?_ : RR _ _ _ _ 112 _ _ _ _)
            refine R_goto (t := 116) dX4_readThing_112 rfl (?_ : RR _ _ _ _ 116 _ _ _ _)
            refine R_puti (zk := 4) dX4_readThing_116 flX4_22 cok_4 (by decide) (fun q hq => by cases hq; rfl) rfl (?_ : RR _ _ _ _ 119 _ _ _ _)
            try simp (disch := omega) only [rup_rup, rup_sort, rupS_def, rup_s, rup_n, fup_fup, fup_s, fup_n, p6]
            refine R_aload_n dX4_readThing_119 rfl (?_ : RR _ _ _ _ 120 _ _ _ _)
            refine R_dup dX4_readThing_120 (fun _ => rfl) (?_ : RR _ _ _ _ 121 _ _ _ _)
            refine R_geti (z := 3) dX4_readThing_121 flX4_51 cok_4 rfl (by decide) rfl (fun q121 => (?_ : RR _ _ _ _ 124 _ _ _ _))
            try simp (disch := omega) only [rup_rup, rup_sort, rupS_def, rup_s, rup_n, fup_fup, fup_s, fup_n, p6] at q121 ⊢
            refine R_iconst dX4_readThing_124 (?_ : RR _ _ _ _ 125 _ _ _ _)
            refine R_iadd dX4_readThing_125 (?_ : RR _ _ _ _ 126 _ _ _ _)
            refine R_puti (zk := 3) dX4_readThing_126 flX4_51 cok_4 (by decide) (fun q hq => by cases hq; rfl) rfl (?_ : RR _ _ _ _ 129 _ _ _ _)
            try simp (disch := omega) only [rup_rup, rup_sort, rupS_def, rup_s, rup_n, fup_fup, fup_s, fup_n, p6]
            refine R_iconst dX4_readThing_129 (?_ : RR _ _ _ _ 130 _ _ _ _)
            exact R_ireturn dX4_readThing_130 (by first | exact Or.inl rfl | exact Or.inr rfl | exact ok_ite | omega | assumption) hq
          · have hq := fin false (by rw [decide_eq_false y]; rfl)
            have hq : cLP (p + 1, true, fun th => th (amI 0 (σ p)), false || decide (σ p = 110)) p l h (some (pI 1)) (shp0, rf0, rup h6 32 (fup (fup (h6 32) 4 0) 3 ((p : Int) + 1))) := hq
            have t5 : ¬ amI 0 (σ p) = 5 := fun w => y (e5.2.1.mp w)
            clear fin
            generalize amI 0 (σ p) = t at *
            refine R_aload_n dX4_readThing_0 rfl (?_ : RR _ _ _ _ 1 _ _ _ _)
            refine R_aload_n dX4_readThing_1 rfl (?_ : RR _ _ _ _ 2 _ _ _ _)
            refine R_geti (z := 3) dX4_readThing_2 flX4_51 cok_4 rfl (by decide) rfl (fun q2 => (?_ : RR _ _ _ _ 5 _ _ _ _))
            try simp (disch := omega) only [rup_rup, rup_sort, rupS_def, rup_s, rup_n, fup_fup, fup_s, fup_n, p6] at q2 ⊢
            rw [s1] at q2 ⊢
            refine R_cVi1 dX4_readThing_5 mvX7_at mlX4_66 (by decide) (by omega) (Nat.le_of_ble_eq_true rfl) (Nat.le_of_ble_eq_true rfl) (A1) (?_ : RR _ _ _ _ 8 _ _ _ _)
            try simp (disch := omega) only [rup_rup, rup_sort, rupS_def, rup_s, rup_n, fup_fup, fup_s, fup_n, p6]
            refine R_istore_n dX4_readThing_8 (Nat.le_of_ble_eq_true rfl) (?_ : RR _ _ _ _ 9 [_, _, _, _, _] _ _ _)
            refine R_iload_n dX4_readThing_9 rfl (?_ : RR _ _ _ _ 10 _ _ _ _)
            refine R_bipush dX4_readThing_10 rfl (?_ : RR _ _ _ _ 12 _ _ _ _)
            refine R_icmp_ne (t := 69) dX4_readThing_12 rfl (fun c12 => ?_) (fun c12 => ?_)
            rotate_left
            · exfalso; omega
            refine R_iload_n dX4_readThing_69 rfl (?_ : RR _ _ _ _ 70 _ _ _ _)
            refine R_cSi1 dX4_readThing_70 msX4_thingOf mlX4_76 (by omega) (Nat.le_of_ble_eq_true rfl) (Nat.le_of_ble_eq_true rfl) (hT) (?_ : RR _ _ _ _ 73 _ _ _ _)
            try simp (disch := omega) only [rup_rup, rup_sort, rupS_def, rup_s, rup_n, fup_fup, fup_s, fup_n, p6]
            refine R_istore dX4_readThing_73 (Nat.le_of_ble_eq_true rfl) (?_ : RR _ _ _ _ 75 [_, _, _, _, _] _ _ _)
            refine R_iload dX4_readThing_75 rfl (?_ : RR _ _ _ _ 77 _ _ _ _)
            refine R_iconst dX4_readThing_77 (?_ : RR _ _ _ _ 78 _ _ _ _)
            refine R_icmp_ne (t := 87) dX4_readThing_78 rfl (fun c78 => ?_) (fun c78 => ?_)
            rotate_left
            · exfalso; omega
            refine R_aload_n dX4_readThing_87 rfl (?_ : RR _ _ _ _ 88 _ _ _ _)
            refine R_sipush dX4_readThing_88 rfl (?_ : RR _ _ _ _ 91 _ _ _ _)
            refine R_iload dX4_readThing_91 rfl (?_ : RR _ _ _ _ 93 _ _ _ _)
            refine R_iadd dX4_readThing_93 (?_ : RR _ _ _ _ 94 _ _ _ _)
            refine R_cVv1 dX4_readThing_94 mvX4_add mlX4_55 (by decide) (by omega) (Nat.le_of_ble_eq_true rfl) (Nat.le_of_ble_eq_true rfl) (hA) (?_ : RR _ _ _ _ 97 _ _ _ _)
            try simp (disch := omega) only [rup_rup, rup_sort, rupS_def, rup_s, rup_n, fup_fup, fup_s, fup_n, p6]
            refine R_aload_n dX4_readThing_97 rfl (?_ : RR _ _ _ _ 98 _ _ _ _)
            refine R_aload_n dX4_readThing_98 rfl (?_ : RR _ _ _ _ 99 _ _ _ _)
            refine R_geti (z := 4) dX4_readThing_99 flX4_22 cok_4 rfl (by decide) rfl (fun q99 => (?_ : RR _ _ _ _ 102 _ _ _ _))
            try simp (disch := omega) only [rup_rup, rup_sort, rupS_def, rup_s, rup_n, fup_fup, fup_s, fup_n, p6] at q99 ⊢
            rw [u6] at q99 ⊢
            refine R_if_ne (t := 111) dX4_readThing_102 rfl (fun c102 => ?_) (fun c102 => ?_)
            · exfalso; omega
            refine R_iload dX4_readThing_105 rfl (?_ : RR _ _ _ _ 107 _ _ _ _)
            refine R_iconst dX4_readThing_107 (?_ : RR _ _ _ _ 108 _ _ _ _)
            refine R_icmp_ne (t := 115) dX4_readThing_108 rfl (fun c108 => ?_) (fun c108 => ?_)
            rotate_left
            · exfalso; omega
            refine R_iconst dX4_readThing_115 (?_ : RR _ _ _ _ 116 _ _ _ _)
            refine R_puti (zk := 4) dX4_readThing_116 flX4_22 cok_4 (by decide) (fun q hq => by cases hq; rfl) rfl (?_ : RR _ _ _ _ 119 _ _ _ _)
            try simp (disch := omega) only [rup_rup, rup_sort, rupS_def, rup_s, rup_n, fup_fup, fup_s, fup_n, p6]
            refine R_aload_n dX4_readThing_119 rfl (?_ : RR _ _ _ _ 120 _ _ _ _)
            refine R_dup dX4_readThing_120 (fun _ => rfl) (?_ : RR _ _ _ _ 121 _ _ _ _)
            refine R_geti (z := 3) dX4_readThing_121 flX4_51 cok_4 rfl (by decide) rfl (fun q121 => (?_ : RR _ _ _ _ 124 _ _ _ _))
            try simp (disch := omega) only [rup_rup, rup_sort, rupS_def, rup_s, rup_n, fup_fup, fup_s, fup_n, p6] at q121 ⊢
            refine R_iconst dX4_readThing_124 (?_ : RR _ _ _ _ 125 _ _ _ _)
            refine R_iadd dX4_readThing_125 (?_ : RR _ _ _ _ 126 _ _ _ _)
            refine R_puti (zk := 3) dX4_readThing_126 flX4_51 cok_4 (by decide) (fun q hq => by cases hq; rfl) rfl (?_ : RR _ _ _ _ 129 _ _ _ _)
            try simp (disch := omega) only [rup_rup, rup_sort, rupS_def, rup_s, rup_n, fup_fup, fup_s, fup_n, p6]
            refine R_iconst dX4_readThing_129 (?_ : RR _ _ _ _ 130 _ _ _ _)
            exact R_ireturn dX4_readThing_130 (by first | exact Or.inl rfl | exact Or.inr rfl | exact ok_ite | omega | assumption) hq
      · rw [if_neg c3, if_neg c4]
        have e1 : amI 0 (σ p) = -1 := by
          have := amgG_b (i := 0) (c := σ p) (stN 0) 0
          unfold amI at c3 ⊢
          omega
        rw [ht, e1] at hT
        have hR := C_readNumber (Q := cLP (p, false, v, u) p l h) hσ hσb (by omega) hs (fun w => absurd w c2) (fun _ => ⟨h, rfl, crF_rf, s1, Or.inl ⟨rfl, rfl, crS_b hs⟩⟩) (fun w => absurd w c2)
        by_cases y : σ p = 40
        · have hd4 : ¬ d < 4 := fun w => c4 ⟨y, w⟩
          rw [y] at A1 hT
          refine R_aload_n dX4_readThing_0 rfl (?_ : RR _ _ _ _ 1 _ _ _ _)
          refine R_aload_n dX4_readThing_1 rfl (?_ : RR _ _ _ _ 2 _ _ _ _)
          refine R_geti (z := 3) dX4_readThing_2 flX4_51 cok_4 rfl (by decide) rfl (fun q2 => (?_ : RR _ _ _ _ 5 _ _ _ _))
          rw [s1] at q2 ⊢
          refine R_cVi1 dX4_readThing_5 mvX7_at mlX4_66 (by decide) (by omega) (Nat.le_of_ble_eq_true rfl) (Nat.le_of_ble_eq_true rfl) (A1) (?_ : RR _ _ _ _ 8 _ _ _ _)
          refine R_istore_n dX4_readThing_8 (Nat.le_of_ble_eq_true rfl) (?_ : RR _ _ _ _ 9 [_, _, _, _, _] _ _ _)
          refine R_iload_n dX4_readThing_9 rfl (?_ : RR _ _ _ _ 10 _ _ _ _)
          refine R_bipush dX4_readThing_10 rfl (?_ : RR _ _ _ _ 12 _ _ _ _)
          refine R_icmp_ne (t := 69) dX4_readThing_12 rfl (fun c12 => ?_) (fun c12 => ?_)
          · exfalso; omega
          refine R_iload_n dX4_readThing_15 rfl (?_ : RR _ _ _ _ 16 _ _ _ _)
          refine R_iconst dX4_readThing_16 (?_ : RR _ _ _ _ 17 _ _ _ _)
          refine R_icmp_ge (t := 69) dX4_readThing_17 rfl (fun c17 => ?_) (fun c17 => ?_)
          rotate_left
          · exfalso; omega
          refine R_iload_n dX4_readThing_69 rfl (?_ : RR _ _ _ _ 70 _ _ _ _)
          refine R_cSi1 dX4_readThing_70 msX4_thingOf mlX4_76 (by omega) (Nat.le_of_ble_eq_true rfl) (Nat.le_of_ble_eq_true rfl) (hT) (?_ : RR _ _ _ _ 73 _ _ _ _)
          refine R_istore dX4_readThing_73 (Nat.le_of_ble_eq_true rfl) (?_ : RR _ _ _ _ 75 [_, _, _, _, _] _ _ _)
          refine R_iload dX4_readThing_75 rfl (?_ : RR _ _ _ _ 77 _ _ _ _)
          refine R_iconst dX4_readThing_77 (?_ : RR _ _ _ _ 78 _ _ _ _)
          refine R_icmp_ne (t := 87) dX4_readThing_78 rfl (fun c78 => ?_) (fun c78 => ?_)
          · exfalso; omega
          refine R_aload_n dX4_readThing_81 rfl (?_ : RR _ _ _ _ 82 _ _ _ _)
          refine R_aload_n dX4_readThing_82 rfl (?_ : RR _ _ _ _ 83 _ _ _ _)
          refine R_qV1 dX4_readThing_83 mvX4_readNumber mlX4_79 (by decide) (by omega) (Nat.le_of_ble_eq_true rfl) (Nat.le_of_ble_eq_true rfl) (hR) (fun r9 g9 hq9 => (?_ : RR _ _ _ _ 86 _ _ _ _))
          obtain ⟨z, hz, rfl⟩ := cLP_z hq9
          show RR _ _ _ _ _ _ [pI z] _ _
          exact R_ireturn dX4_readThing_86 (by first | exact Or.inl rfl | exact Or.inr rfl | exact ok_ite | omega | assumption) hq9
        · generalize σ p = c at *
          refine R_aload_n dX4_readThing_0 rfl (?_ : RR _ _ _ _ 1 _ _ _ _)
          refine R_aload_n dX4_readThing_1 rfl (?_ : RR _ _ _ _ 2 _ _ _ _)
          refine R_geti (z := 3) dX4_readThing_2 flX4_51 cok_4 rfl (by decide) rfl (fun q2 => (?_ : RR _ _ _ _ 5 _ _ _ _))
          rw [s1] at q2 ⊢
          refine R_cVi1 dX4_readThing_5 mvX7_at mlX4_66 (by decide) (by omega) (Nat.le_of_ble_eq_true rfl) (Nat.le_of_ble_eq_true rfl) (A1) (?_ : RR _ _ _ _ 8 _ _ _ _)
          refine R_istore_n dX4_readThing_8 (Nat.le_of_ble_eq_true rfl) (?_ : RR _ _ _ _ 9 [_, _, _, _, _] _ _ _)
          refine R_iload_n dX4_readThing_9 rfl (?_ : RR _ _ _ _ 10 _ _ _ _)
          refine R_bipush dX4_readThing_10 rfl (?_ : RR _ _ _ _ 12 _ _ _ _)
          refine R_icmp_ne (t := 69) dX4_readThing_12 rfl (fun c12 => ?_) (fun c12 => ?_)
          rotate_left
          · exfalso; omega
          refine R_iload_n dX4_readThing_69 rfl (?_ : RR _ _ _ _ 70 _ _ _ _)
          refine R_cSi1 dX4_readThing_70 msX4_thingOf mlX4_76 (by omega) (Nat.le_of_ble_eq_true rfl) (Nat.le_of_ble_eq_true rfl) (hT) (?_ : RR _ _ _ _ 73 _ _ _ _)
          refine R_istore dX4_readThing_73 (Nat.le_of_ble_eq_true rfl) (?_ : RR _ _ _ _ 75 [_, _, _, _, _] _ _ _)
          refine R_iload dX4_readThing_75 rfl (?_ : RR _ _ _ _ 77 _ _ _ _)
          refine R_iconst dX4_readThing_77 (?_ : RR _ _ _ _ 78 _ _ _ _)
          refine R_icmp_ne (t := 87) dX4_readThing_78 rfl (fun c78 => ?_) (fun c78 => ?_)
          · exfalso; omega
          refine R_aload_n dX4_readThing_81 rfl (?_ : RR _ _ _ _ 82 _ _ _ _)
          refine R_aload_n dX4_readThing_82 rfl (?_ : RR _ _ _ _ 83 _ _ _ _)
          refine R_qV1 dX4_readThing_83 mvX4_readNumber mlX4_79 (by decide) (by omega) (Nat.le_of_ble_eq_true rfl) (Nat.le_of_ble_eq_true rfl) (hR) (fun r9 g9 hq9 => (?_ : RR _ _ _ _ 86 _ _ _ _))
          obtain ⟨z, hz, rfl⟩ := cLP_z hq9
          show RR _ _ _ _ _ _ [pI z] _ _
          exact R_ireturn dX4_readThing_86 (by first | exact Or.inl rfl | exact Or.inr rfl | exact ok_ite | omega | assumption) hq9
end RU3
