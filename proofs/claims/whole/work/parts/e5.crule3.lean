section RU4
variable {k : Nat} {h h1 h2 h3 h4 : Nat → Int → Int} {N d p b l : Nat} {σ : Int → Int} {v : (Int → Int) → Int} {u : Bool}
def ngk : Nat → RV → RV
  | 0, x => x
  | i + 1, x => ngk i (rpn x)
theorem ngk_1 : ∀ (i : Nat) (x : RV), (ngk i x).1 = x.1 ∧ (ngk i x).2.1 = x.2.1 ∧ (ngk i x).2.2.2 = x.2.2.2
  | 0, x => ⟨rfl, rfl, rfl⟩
  | i + 1, x => ngk_1 i (rpn x)
theorem w32_nn {z : Int} (hz : r32 z) : w32 (-(w32 (-z))) = z := by
  unfold w32
  rw [Int32.ofInt_neg, Int32.ofInt_neg, Int32.ofInt_toInt, Int32.neg_neg]
  exact r32_i hz
theorem ngk_v : ∀ (i : Nat) (x : RV) (th : Int → Int), r32 (x.2.2.1 th) → (ngk i x).2.2.1 th = if i % 2 = 1 then w32 (-(x.2.2.1 th)) else x.2.2.1 th
  | 0, x, th, _ => rfl
  | i + 1, x, th, hx => by
    have := ngk_v i (rpn x) th (w32_r _)
    show (ngk i (rpn x)).2.2.1 th = _
    rw [this]
    show (if i % 2 = 1 then w32 (-(w32 (-(x.2.2.1 th)))) else w32 (-(x.2.2.1 th))) = _
    by_cases q : i % 2 = 1
    · rw [if_pos q, if_neg (by omega), w32_nn hx]
    · rw [if_neg q, if_pos (by omega)]
theorem C_signed (ih : ∀ N', N' < N → cLv σ b N') (hσn : ∀ p : Nat, b ≤ p → σ p = -1) (hσb : ∀ p : Int, -1 ≤ σ p ∧ σ p ≤ 255) (hb : b ≤ 40) (hd : d ≤ 4) (hp : p ≤ b) (hl : l ≤ p) (hN : rpM 3 p ≤ N) (hv : gd v u) (hσ : ∀ p : Int, 0 ≤ p → signAt h p = σ p) (hs : crS h p l u) : RR mX4_readSigned (3 * N + 7) 0 0 0 (pm_ent [pR 32, pR 1, pI d] 5) [] (shp0, rf0, h) (cLP (rp σ N 3 d p v u) p l h) := by
  show RR _ _ _ _ _ [pR 32, pR 1, pI d, pU, pU] _ _ _
  have rr := isRule_32
  unfold rpM at hN
  rw [if_pos (by omega)] at hN
  obtain ⟨s1, s2, s3⟩ := id hs
  have L : ∀ (m i : Nat), i + m = b - p + 1 → p + i ≤ b → (rp σ N 3 d p v u = ngk i (rp σ (N - i) 3 d (p + i) v u)) → RR mX4_readSigned (3 * N + 7) 0 0 5 [pR 32, pR 1, pI d, pI i, pI i] [] (shp0, rf0, rup h 32 (fup (h 32) 3 ((p : Int) + i))) (cLP (rp σ N 3 d p v u) p l h) := by
    intro m
    induction m with
    | zero => intro i hi hpi; omega
    | succ m ihm =>
      intro i hi hpi e
      obtain ⟨h1, h1e⟩ : ∃ h1, h1 = rup h 32 (fup (h 32) 3 ((p : Int) + i)) := ⟨_, rfl⟩
      have f1 : crF h h1 l := ⟨fun a a1 a2 => by rw [h1e, rup_n a1], fun j hj => by rw [h1e, rup_n (by omega)]⟩
      have i1 : h1 32 3 = (p : Int) + i := by rw [h1e, rup_s, fup_s]
      have c1 : ((p + i : Nat) : Int) = (p : Int) + i := by omega
      have A1 := T_X7_at (h := h1) (p := (p : Int) + i)
      rw [sig_fr hσ f1 _ (by omega)] at A1
      have b1 := hσb ((p : Int) + i)
      by_cases q : σ ((p : Int) + i) = 45
      · have hpb : p + i < b := by
          by_cases z : p + i < b
          · exact z
          · have := hσn (p + i) (by omega); rw [c1] at this; omega
        have e2 : rp σ (N - i) 3 d (p + i) v u = rpn (rp σ (N - (i + 1)) 3 d (p + (i + 1)) v u) := by
          rw [show N - i = (N - (i + 1)) + 1 by omega]
          show (if 3 = 3 then (if σ ((p + i : Nat) : Int) = 45 then _ else _) else _) = _
          rw [if_pos rfl, c1, if_pos q]
          rfl
        have K := ihm (i + 1) (by omega) (by omega) (by rw [e, e2]; rfl)
        rw [← h1e]
        rw [show rup h 32 (fup (h 32) 3 ((p : Int) + ((i + 1 : Nat) : Int))) = rup h1 32 (fup (h1 32) 3 ((p : Int) + i + 1)) by rw [h1e, rup_s, rup_rup, fup_fup, show (p : Int) + ((i + 1 : Nat) : Int) = (p : Int) + i + 1 by omega], show ((i + 1 : Nat) : Int) = (i : Int) + 1 by omega] at K
        rw [q] at A1
        clear ihm ih h1e
        generalize cLP (rp σ N 3 d p v u) p l h = QQ at *
        refine R_iload dX4_readSigned_5 rfl (?_ : RR _ _ _ _ 7 _ _ _ _)
        refine R_bipush dX4_readSigned_7 rfl (?_ : RR _ _ _ _ 9 _ _ _ _)
        refine R_icmp_ge (t := 44) dX4_readSigned_9 rfl (fun c9 => ?_) (fun c9 => ?_)
        · exfalso; omega
        refine R_aload_n dX4_readSigned_12 rfl (?_ : RR _ _ _ _ 13 _ _ _ _)
        refine R_aload_n dX4_readSigned_13 rfl (?_ : RR _ _ _ _ 14 _ _ _ _)
        refine R_geti (z := 3) dX4_readSigned_14 flX4_51 cok_4 rfl (by decide) rfl (fun q14 => (?_ : RR _ _ _ _ 17 _ _ _ _))
        rw [i1] at q14 ⊢
        refine R_cVi1 dX4_readSigned_17 mvX7_at mlX4_66 (by decide) (by omega) (Nat.le_of_ble_eq_true rfl) (Nat.le_of_ble_eq_true rfl) (A1) (?_ : RR _ _ _ _ 20 _ _ _ _)
        refine R_bipush dX4_readSigned_20 rfl (?_ : RR _ _ _ _ 22 _ _ _ _)
        refine R_icmp_ne (t := 44) dX4_readSigned_22 rfl (fun c22 => ?_) (fun c22 => ?_)
        · exfalso; omega
        refine R_iinc dX4_readSigned_25 rfl (Nat.le_of_ble_eq_true rfl) (?_ : RR _ _ _ _ 28 [_, _, _, _, _] _ _ _)
        refine R_aload_n dX4_readSigned_28 rfl (?_ : RR _ _ _ _ 29 _ _ _ _)
        refine R_dup dX4_readSigned_29 (fun _ => rfl) (?_ : RR _ _ _ _ 30 _ _ _ _)
        refine R_geti (z := 3) dX4_readSigned_30 flX4_51 cok_4 rfl (by decide) rfl (fun q30 => (?_ : RR _ _ _ _ 33 _ _ _ _))
        rw [i1] at q30 ⊢
        refine R_iconst dX4_readSigned_33 (?_ : RR _ _ _ _ 34 _ _ _ _)
        refine R_iadd dX4_readSigned_34 (?_ : RR _ _ _ _ 35 _ _ _ _)
        refine R_puti (zk := 3) dX4_readSigned_35 flX4_51 cok_4 (by decide) (fun q hq => by cases hq; rfl) rfl (?_ : RR _ _ _ _ 38 _ _ _ _)
        refine R_iinc dX4_readSigned_38 rfl (Nat.le_of_ble_eq_true rfl) (?_ : RR _ _ _ _ 41 [_, _, _, _, _] _ _ _)
        refine R_goto (t := 5) dX4_readSigned_41 rfl (?_ : RR _ _ _ _ 5 _ _ _ _)
        exact K
      · have s4 : crS h1 (p + i) l u := ⟨by rw [i1]; omega, by rw [h1e, rup_s, fup_n (by omega)]; exact s2, by rw [h1e, rup_s, fup_n (by omega)]; exact s3⟩
        have hM : rpM 3 (p + i) ≤ N - i := by unfold rpM; rw [if_pos (by omega)]; omega
        obtain ⟨N', hN'⟩ : ∃ N', N - i = N' + 1 := ⟨N - i - 1, by unfold rpM at hM; rw [if_pos (by omega)] at hM; omega⟩
        rw [hN'] at e hM
        have hT := C_thing (h := h1) (N := N') (d := d) (p := p + i) (l := l) (v := v) (u := u) (ih N' (by omega)) hσn hσb hb hd hpi (by omega) hM hv (sig_fr hσ f1) s4 (by rw [c1]; exact q)
        have hg := (rp_v (σ := σ) (N' + 1) 3 d (p + i) v u (by omega) hv).1
        have hbx := rp_b (σ := σ) hσn hb (N' + 1) 3 d (p + i) v u (by omega) hpi hM
        rw [e]
        generalize rp σ (N' + 1) 3 d (p + i) v u = x at *
        obtain ⟨n1, n2, n3⟩ := ngk_1 i x
        have K50 : ∀ r' g', cLP x (p + i) l h1 r' g' → ∃ z : Int, r' = some (pI z) ∧ RR mX4_readSigned (3 * N + 7) 0 0 50 [pR 32, pR 1, pI d, pI i, pI i] [pI z] g' (cLP (ngk i x) p l h) := by
          intro r' g' hc
          obtain ⟨h6, rfl, f6, i6, ⟨o6, rfl, n6⟩ | ⟨o6, rfl, k, k1, s6, g6⟩⟩ := hc
          · refine ⟨0, rfl, ?_⟩
            have hq : cLP (ngk i x) p l h (some (pI 0)) (shp0, rf0, h6) := ⟨h6, rfl, crF_tr f1 f6 (Nat.le_refl l), by rw [n1]; exact i6, Or.inl ⟨by rw [n2]; exact o6, rfl, n6⟩⟩
            generalize cLP (ngk i x) p l h = QQ at *
            refine R_if_ne (t := 55) dX4_readSigned_50 rfl (fun c50 => ?_) (fun c50 => ?_)
            · exfalso; omega
            refine R_iconst dX4_readSigned_53 (?_ : RR _ _ _ _ 54 _ _ _ _)
            exact R_ireturn dX4_readSigned_54 (by first | exact Or.inl rfl | exact Or.inr rfl | exact ok_ite | omega | assumption) hq
          · refine ⟨1, rfl, ?_⟩
            by_cases w : i % 2 = 1
            · have hA := T_add32 (h := h6) (l := l + k) (c := -1) s6.2.1 (by omega) (by omega)
              have hq : cLP (ngk i x) p l h (some (pI 1)) (shp0, rf0, rup (rup h6 32 (fup (h6 32) 2 (((l + k : Nat) : Int) + 1))) 33 (fup (h6 33) ((l + k : Nat) : Int) (-1))) := by
                refine ⟨_, rfl, ⟨fun a a1 a2 => by rw [rup_n a2, rup_n a1, f6.1 a a1 a2]; exact f1.1 a a1 a2, fun j hj => by rw [rup_s, fup_n (by omega), f6.2 j hj]; exact f1.2 j hj⟩, by rw [rup_n (by omega), rup_s, fup_n (by omega), n1]; exact i6, Or.inr ⟨by rw [n2]; exact o6, rfl, k + 1, by rw [n1]; omega, ⟨by rw [rup_n (by omega), rup_s, fup_n (by omega), n1]; exact i6, by rw [rup_n (by omega), rup_s, fup_s]; omega, by rw [rup_n (by omega), rup_s, fup_n (by omega), n3]; exact s6.2.2⟩, ?_⟩⟩
                rw [rup_s]
                have g7 : SgC (fup (h6 33) ((l + k : Nat) : Int) (-1)) l k x.2.2.1 := SgC_cg g6 (fun j hj => fup_n (by omega))
                refine SgC_v (SgC_neg g7 fup_s) (fun th ht => ?_)
                rw [ngk_v i x th (hg.1 th ht), if_pos w]
              have w2 : (i : Int) % 2 = 1 := by omega
              generalize cLP (ngk i x) p l h = QQ at *
              generalize rup (rup h6 32 (fup (h6 32) 2 (((l + k : Nat) : Int) + 1))) 33 (fup (h6 33) ((l + k : Nat) : Int) (-1)) = h9 at *
              clear g6 hT
              refine R_if_ne (t := 55) dX4_readSigned_50 rfl (fun c50 => ?_) (fun c50 => ?_)
              rotate_left
              · exfalso; omega
              refine R_iload_n dX4_readSigned_55 rfl (?_ : RR _ _ _ _ 56 _ _ _ _)
              refine R_iconst dX4_readSigned_56 (?_ : RR _ _ _ _ 57 _ _ _ _)
              refine R_irem dX4_readSigned_57 (by omega) (by omega) (?_ : RR _ _ _ _ 58 _ _ _ _)
              rw [iRem_pos (by omega) (by omega) (by omega) (by omega), w2]
              refine R_iconst dX4_readSigned_58 (?_ : RR _ _ _ _ 59 _ _ _ _)
              refine R_icmp_ne (t := 67) dX4_readSigned_59 rfl (fun c59 => ?_) (fun c59 => ?_)
              · exfalso; omega
              refine R_aload_n dX4_readSigned_62 rfl (?_ : RR _ _ _ _ 63 _ _ _ _)
              refine R_iconst dX4_readSigned_63 (?_ : RR _ _ _ _ 64 _ _ _ _)
              refine R_cVv1 dX4_readSigned_64 mvX4_add mlX4_55 (by decide) (by omega) (Nat.le_of_ble_eq_true rfl) (Nat.le_of_ble_eq_true rfl) (hA) (?_ : RR _ _ _ _ 67 _ _ _ _)
              refine R_iconst dX4_readSigned_67 (?_ : RR _ _ _ _ 68 _ _ _ _)
              exact R_ireturn dX4_readSigned_68 (by first | exact Or.inl rfl | exact Or.inr rfl | exact ok_ite | omega | assumption) hq
            · have hq : cLP (ngk i x) p l h (some (pI 1)) (shp0, rf0, h6) := ⟨h6, rfl, crF_tr f1 f6 (Nat.le_refl l), by rw [n1]; exact i6, Or.inr ⟨by rw [n2]; exact o6, rfl, k, by rw [n1]; omega, ⟨by rw [n1]; exact s6.1, s6.2.1, by rw [n3]; exact s6.2.2⟩, SgC_v g6 (fun th ht => by rw [ngk_v i x th (hg.1 th ht), if_neg w])⟩⟩
              have w2 : (i : Int) % 2 = 0 := by omega
              generalize cLP (ngk i x) p l h = QQ at *
              clear g6 hT
              refine R_if_ne (t := 55) dX4_readSigned_50 rfl (fun c50 => ?_) (fun c50 => ?_)
              rotate_left
              · exfalso; omega
              refine R_iload_n dX4_readSigned_55 rfl (?_ : RR _ _ _ _ 56 _ _ _ _)
              refine R_iconst dX4_readSigned_56 (?_ : RR _ _ _ _ 57 _ _ _ _)
              refine R_irem dX4_readSigned_57 (by omega) (by omega) (?_ : RR _ _ _ _ 58 _ _ _ _)
              rw [iRem_pos (by omega) (by omega) (by omega) (by omega), w2]
              refine R_iconst dX4_readSigned_58 (?_ : RR _ _ _ _ 59 _ _ _ _)
              refine R_icmp_ne (t := 67) dX4_readSigned_59 rfl (fun c59 => ?_) (fun c59 => ?_)
              rotate_left
              · exfalso; omega
              refine R_iconst dX4_readSigned_67 (?_ : RR _ _ _ _ 68 _ _ _ _)
              exact R_ireturn dX4_readSigned_68 (by first | exact Or.inl rfl | exact Or.inr rfl | exact ok_ite | omega | assumption) hq
        rw [← h1e]
        clear ihm ih hg
        generalize cLP (ngk i x) p l h = QQ at *
        by_cases i40 : i < 40
        · refine R_iload dX4_readSigned_5 rfl (?_ : RR _ _ _ _ 7 _ _ _ _)
          refine R_bipush dX4_readSigned_7 rfl (?_ : RR _ _ _ _ 9 _ _ _ _)
          refine R_icmp_ge (t := 44) dX4_readSigned_9 rfl (fun c9 => ?_) (fun c9 => ?_)
          · exfalso; omega
          refine R_aload_n dX4_readSigned_12 rfl (?_ : RR _ _ _ _ 13 _ _ _ _)
          refine R_aload_n dX4_readSigned_13 rfl (?_ : RR _ _ _ _ 14 _ _ _ _)
          refine R_geti (z := 3) dX4_readSigned_14 flX4_51 cok_4 rfl (by decide) rfl (fun q14 => (?_ : RR _ _ _ _ 17 _ _ _ _))
          rw [i1] at q14 ⊢
          refine R_cVi1 dX4_readSigned_17 mvX7_at mlX4_66 (by decide) (by omega) (Nat.le_of_ble_eq_true rfl) (Nat.le_of_ble_eq_true rfl) (A1) (?_ : RR _ _ _ _ 20 _ _ _ _)
          refine R_bipush dX4_readSigned_20 rfl (?_ : RR _ _ _ _ 22 _ _ _ _)
          refine R_icmp_ne (t := 44) dX4_readSigned_22 rfl (fun c22 => ?_) (fun c22 => ?_)
          rotate_left
          · exfalso; omega
          refine R_aload_n dX4_readSigned_44 rfl (?_ : RR _ _ _ _ 45 _ _ _ _)
          refine R_aload_n dX4_readSigned_45 rfl (?_ : RR _ _ _ _ 46 _ _ _ _)
          refine R_iload_n dX4_readSigned_46 rfl (?_ : RR _ _ _ _ 47 _ _ _ _)
          refine R_qV2 dX4_readSigned_47 mvX4_readThing mlX4_73 (by decide) (by omega) (Nat.le_of_ble_eq_true rfl) (Nat.le_of_ble_eq_true rfl) (hT) (fun r9 g9 hq9 => (?_ : RR _ _ _ _ 50 _ _ _ _))
          obtain ⟨z, rfl, KK⟩ := K50 _ _ hq9
          show RR _ _ _ _ _ _ [pI z] _ _
          exact KK
        · refine R_iload dX4_readSigned_5 rfl (?_ : RR _ _ _ _ 7 _ _ _ _)
          refine R_bipush dX4_readSigned_7 rfl (?_ : RR _ _ _ _ 9 _ _ _ _)
          refine R_icmp_ge (t := 44) dX4_readSigned_9 rfl (fun c9 => ?_) (fun c9 => ?_)
          rotate_left
          · exfalso; omega
          refine R_aload_n dX4_readSigned_44 rfl (?_ : RR _ _ _ _ 45 _ _ _ _)
          refine R_aload_n dX4_readSigned_45 rfl (?_ : RR _ _ _ _ 46 _ _ _ _)
          refine R_iload_n dX4_readSigned_46 rfl (?_ : RR _ _ _ _ 47 _ _ _ _)
          refine R_qV2 dX4_readSigned_47 mvX4_readThing mlX4_73 (by decide) (by omega) (Nat.le_of_ble_eq_true rfl) (Nat.le_of_ble_eq_true rfl) (hT) (fun r9 g9 hq9 => (?_ : RR _ _ _ _ 50 _ _ _ _))
          obtain ⟨z, rfl, KK⟩ := K50 _ _ hq9
          show RR _ _ _ _ _ _ [pI z] _ _
          exact KK
  have K := L (b - p + 1) 0 (by omega) (by omega) rfl
  rw [show rup h 32 (fup (h 32) 3 ((p : Int) + ((0 : Nat) : Int))) = h by rw [show (p : Int) + ((0 : Nat) : Int) = h 32 3 by rw [s1]; omega, fup_self, rup_self]] at K
  have K : RR mX4_readSigned (3 * N + 7) 0 0 5 [pR 32, pR 1, pI d, pI 0, pI 0] [] (shp0, rf0, h) (cLP (rp σ N 3 d p v u) p l h) := K
  clear L ih
  generalize cLP (rp σ N 3 d p v u) p l h = QQ at *
  refine R_iconst dX4_readSigned_0 (?_ : RR _ _ _ _ 1 _ _ _ _)
  refine R_istore_n dX4_readSigned_1 (Nat.le_of_ble_eq_true rfl) (?_ : RR _ _ _ _ 2 [_, _, _, _, _] _ _ _)
  refine R_iconst dX4_readSigned_2 (?_ : RR _ _ _ _ 3 _ _ _ _)
  refine R_istore dX4_readSigned_3 (Nat.le_of_ble_eq_true rfl) (?_ : RR _ _ _ _ 5 [_, _, _, _, _] _ _ _)
  exact K
end RU4
