section AS
variable {k : Nat} {h h3 h4 : Nat → Int → Int} {sem : Sem} {H np nc len : Nat} {v : Int}
/-- the other's word for it: 31 for never -/
def fstM (X : Cx) (f : Int → Int) (p : Int) (c : Int) (f' : Int → Int) : Prop := (∃ j : Nat, c = j ∧ j ≤ 30 ∧ outK X f p j ∧ (∀ i, i < j → ¬ outK X f p i) ∧ f' = xIt X 0 j f) ∨ (c = 31 ∧ ∀ i, i ≤ 30 → ¬ outK X f p i)
theorem M_outAfter {p : Nat} (hB : MBk sem h 155 H np nc) (hp : p < np) (hn : h 155 1 ≤ 1000000000) : RR mX12_outAfter 9 0 0 0 (pm_ent [pR 147, pI p] 3) [] (shp0, rf0, h) (fun r' g' => ∃ c h', r' = some (pI c) ∧ g' = (shp0, rf0, h') ∧ tnF h h' ∧ oor (h' 155) (h 155) ∧ fstM (cxM sem h np nc) (h 155) p c (h' 155)) := by
  obtain ⟨hX, hok, -, hnp, hnc, -, h64, -⟩ := id hB
  have x12 : np ≤ 12 := hX.2.2.1
  have x6 : nc ≤ 6 := hX.2.2.2.1
  have r155 := isRw_155
  obtain ⟨X, hXe⟩ : ∃ X, X = cxM sem h np nc := ⟨_, rfl⟩
  rw [← hXe] at hX hok ⊢
  have hXP : xP X = np := by rw [hXe]; rfl
  suffices hS : ∀ Q : Option PV → PH → Prop, (∀ c h', tnF h h' → oor (h' 155) (h 155) → fstM X (h 155) p c (h' 155) → Q (some (pI c)) (shp0, rf0, h')) → RR mX12_outAfter 9 0 0 0 [pR 147, pI p, pU] [] (shp0, rf0, h) Q from hS _ (fun c h' q1 q2 q3 => ⟨c, h', rfl, rfl, q1, q2, q3⟩)
  intro Q hQ
  have L : ∀ (j i : Nat) (h1 : Nat → Int → Int), i + j = 31 → tnF h h1 → h1 155 = xIt X 0 i (h 155) → (∀ a, a < i → ¬ outK X (h 155) p a) → RR mX12_outAfter 9 0 0 2 [pR 147, pI p, pI i] [] (shp0, rf0, h1) Q := by
    intro j
    induction j with
    | zero =>
      intro i h1 hi hf he hno
      obtain rfl : i = 31 := by omega
      have hq := hQ 31 h1 hf (by rw [he]; exact xIt_oor (by rw [hXe]; exact x6) (by rw [hXP]; exact x12) _ _) (Or.inr ⟨rfl, fun a ha => hno a (by omega)⟩)
      refine R_iload_n dX12_outAfter_2 rfl (?_ : RR _ _ _ _ 3 _ _ _ _)
      refine R_bipush dX12_outAfter_3 rfl (?_ : RR _ _ _ _ 5 _ _ _ _)
      refine R_icmp_gt (t := 37) dX12_outAfter_5 rfl (fun c5 => ?_) (fun c5 => ?_)
      rotate_left
      · exfalso; omega
      refine R_bipush dX12_outAfter_37 rfl (?_ : RR _ _ _ _ 39 _ _ _ _)
      exact R_ireturn dX12_outAfter_39 trivial hq
    | succ j ih =>
      intro i h1 hi hf he hno
      have ho1 := ok_it (bh := 0) hX i (h 155) hok
      have hn1 := xIt_1 (bh := 0) hX i (h 155) hok
      obtain ⟨hB1, eX⟩ := MBk_tn (f := xIt X 0 i (h 155)) hB hf he (by rw [← hXe]; exact ho1) (by omega)
      have hT := M_runs hB1
      rw [eX, ← hXe, he] at hT
      obtain ⟨ord, ln, fo⟩ := id ho1
      have hs1 := fo.2.2.2.2.2 p (by rw [hXP]; exact hp)
      have hsr : xIt X 0 i (h 155) (14 + (p : Int)) = mS (xIt X 0 i (h 155)) p := rfl
      by_cases q : mS (xIt X 0 i (h 155)) p = -1
      · have hq := hQ i h1 hf (by rw [he]; exact xIt_oor (by rw [hXe]; exact x6) (by rw [hXP]; exact x12) _ _) (Or.inl ⟨i, rfl, by omega, q, hno, he⟩)
        refine R_iload_n dX12_outAfter_2 rfl (?_ : RR _ _ _ _ 3 _ _ _ _)
        refine R_bipush dX12_outAfter_3 rfl (?_ : RR _ _ _ _ 5 _ _ _ _)
        refine R_icmp_gt (t := 37) dX12_outAfter_5 rfl (fun c5 => ?_) (fun c5 => ?_)
        · exfalso; omega
        refine R_aload_n dX12_outAfter_8 rfl (?_ : RR _ _ _ _ 9 _ _ _ _)
        refine R_getr dX12_outAfter_9 flX12_36 cok_12 rfl (by decide) (?_ : RR _ _ _ _ 12 _ _ _ _)
        refine R_bipush dX12_outAfter_12 rfl (?_ : RR _ _ _ _ 14 _ _ _ _)
        refine R_iload_n dX12_outAfter_14 rfl (?_ : RR _ _ _ _ 15 _ _ _ _)
        refine R_iadd dX12_outAfter_15 (?_ : RR _ _ _ _ 16 _ _ _ _)
        refine R_iald dX12_outAfter_16 (fun q16 => (?_ : RR _ _ _ _ 17 _ _ _ _))
        rw [he, hsr] at q16 ⊢
        refine R_if_ge (t := 22) dX12_outAfter_17 rfl (fun c17 => ?_) (fun c17 => ?_)
        · exfalso; omega
        refine R_iload_n dX12_outAfter_20 rfl (?_ : RR _ _ _ _ 21 _ _ _ _)
        exact R_ireturn dX12_outAfter_21 trivial hq
      · have hno2 : ∀ a, a < i + 1 → ¬ outK X (h 155) p a := fun a ha => by
          by_cases y : a = i
          · rw [y]; exact q
          · exact hno a (by omega)
        refine R_iload_n dX12_outAfter_2 rfl (?_ : RR _ _ _ _ 3 _ _ _ _)
        refine R_bipush dX12_outAfter_3 rfl (?_ : RR _ _ _ _ 5 _ _ _ _)
        refine R_icmp_gt (t := 37) dX12_outAfter_5 rfl (fun c5 => ?_) (fun c5 => ?_)
        · exfalso; omega
        refine R_aload_n dX12_outAfter_8 rfl (?_ : RR _ _ _ _ 9 _ _ _ _)
        refine R_getr dX12_outAfter_9 flX12_36 cok_12 rfl (by decide) (?_ : RR _ _ _ _ 12 _ _ _ _)
        refine R_bipush dX12_outAfter_12 rfl (?_ : RR _ _ _ _ 14 _ _ _ _)
        refine R_iload_n dX12_outAfter_14 rfl (?_ : RR _ _ _ _ 15 _ _ _ _)
        refine R_iadd dX12_outAfter_15 (?_ : RR _ _ _ _ 16 _ _ _ _)
        refine R_iald dX12_outAfter_16 (fun q16 => (?_ : RR _ _ _ _ 17 _ _ _ _))
        rw [he, hsr] at q16 ⊢
        refine R_if_ge (t := 22) dX12_outAfter_17 rfl (fun c17 => ?_) (fun c17 => ?_)
        rotate_left
        · exfalso; omega
        refine R_aload_n dX12_outAfter_22 rfl (?_ : RR _ _ _ _ 23 _ _ _ _)
        refine R_aload_n dX12_outAfter_23 rfl (?_ : RR _ _ _ _ 24 _ _ _ _)
        refine R_getr dX12_outAfter_24 flX12_36 cok_12 rfl (by decide) (?_ : RR _ _ _ _ 27 _ _ _ _)
        refine R_qV1 dX12_outAfter_27 mvX12_runs mlX12_373 (by decide) (by decide) (Nat.le_of_ble_eq_true rfl) (Nat.le_of_ble_eq_true rfl) (hT) (fun r9 g9 hq9 => (?_ : RR _ _ _ _ 30 _ _ _ _))
        obtain ⟨⟨h2, rfl, m1, m2, rfl, m3, m4⟩, -⟩ := hq9
        show RR _ _ _ _ _ _ [pI _] _ _
        refine R_pop dX12_outAfter_30 (fun _ => rfl) (?_ : RR _ _ _ _ 31 _ _ _ _)
        refine R_iinc dX12_outAfter_31 rfl (Nat.le_of_ble_eq_true rfl) (?_ : RR _ _ _ _ 34 [_, _, _] _ _ _)
        refine R_goto (t := 2) dX12_outAfter_34 rfl (?_ : RR _ _ _ _ 2 _ _ _ _)
        exact ih (i + 1) h2 (by omega) (tnF_tr hf ⟨m1, m3, m4⟩) (by rw [m2, xIt_s]; rfl) hno2
  refine R_iconst dX12_outAfter_0 (?_ : RR _ _ _ _ 1 _ _ _ _)
  refine R_istore_n dX12_outAfter_1 (Nat.le_of_ble_eq_true rfl) (?_ : RR _ _ _ _ 2 [_, _, _] _ _ _)
  exact L 31 0 h (by omega) ⟨fun _ _ _ _ _ _ => rfl, fun _ _ => rfl, h64⟩ rfl (fun a ha => by omega)
/-- both words say the same -/
theorem fst_same {X : Cx} {f : Int → Int} {p c c' : Int} {f' g' : Int → Int} (a : fstO X f p 30 c f') (b : fstM X f p c' g') : (c = -1 ∧ c' = 31) ∨ (c = c' ∧ f' = g' ∧ 0 ≤ c ∧ c ≤ 30 ∧ f' = xIt X 0 c.toNat f) := by
  rcases a with ⟨j, a1, a2, a3, a4, a5⟩ | ⟨a1, a2⟩
  · rcases b with ⟨i, b1, b2, b3, b4, b5⟩ | ⟨b1, b2⟩
    · have : i = j := by
        by_cases q : i < j
        · exact absurd b3 (a4 i q)
        · by_cases q2 : j < i
          · exact absurd a3 (b4 j q2)
          · omega
      subst this
      subst a1
      exact Or.inr ⟨b1.symm, a5.trans b5.symm, by omega, by omega, by rw [Int.toNat_natCast]; exact a5⟩
    · exact absurd a3 (b2 j a2)
  · rcases b with ⟨i, b1, b2, b3, b4, b5⟩ | ⟨b1, b2⟩
    · exact absurd b3 (a2 i b2)
    · exact Or.inl ⟨a1, b1⟩
theorem fstO_ex {X : Cx} {f : Int → Int} {p : Int} {m : Nat} : ∃ c f', fstO X f p m c f' := by
  by_cases q : ∃ j, j ≤ m ∧ outK X f p j
  · have key : ∀ n : Nat, (∃ j, j ≤ n ∧ outK X f p j) → ∃ j, j ≤ n ∧ outK X f p j ∧ ∀ i, i < j → ¬ outK X f p i := by
      intro n
      induction n with
      | zero =>
        intro ⟨j, hj, ho⟩
        exact ⟨j, hj, ho, fun i hi => by omega⟩
      | succ n ih =>
        intro ⟨j, hj, ho⟩
        by_cases z : ∃ j, j ≤ n ∧ outK X f p j
        · obtain ⟨a, a1, a2, a3⟩ := ih z
          exact ⟨a, by omega, a2, a3⟩
        · exact ⟨j, hj, ho, fun i hi hq => z ⟨i, by omega, hq⟩⟩
    obtain ⟨j, j1, j2, j3⟩ := key m q
    exact ⟨j, _, Or.inl ⟨j, rfl, j1, j2, j3, rfl⟩⟩
  · exact ⟨-1, f, Or.inr ⟨rfl, fun i hi hq => q ⟨i, hi, hq⟩⟩⟩
theorem fstO_u {X : Cx} {f : Int → Int} {p : Int} {m : Nat} {c c' : Int} {f' g' : Int → Int} (a : fstO X f p m c f') (b : fstO X f p m c' g') : c = c' ∧ (0 ≤ c → f' = g') := by
  rcases a with ⟨j, a1, a2, a3, a4, a5⟩ | ⟨a1, a2⟩
  · rcases b with ⟨i, b1, b2, b3, b4, b5⟩ | ⟨b1, b2⟩
    · have : i = j := by
        by_cases q : i < j
        · exact absurd b3 (a4 i q)
        · by_cases q2 : j < i
          · exact absurd a3 (b4 j q2)
          · omega
      subst this
      exact ⟨a1.trans b1.symm, fun _ => a5.trans b5.symm⟩
    · exact absurd a3 (b2 j a2)
  · rcases b with ⟨i, b1, b2, b3, b4, b5⟩ | ⟨b1, b2⟩
    · exact absurd b3 (a2 i b2)
    · exact ⟨a1.trans b1.symm, fun z => by omega⟩
theorem A_arrives (hs : SRx k h sem H np nc len) (hk : k ≤ 1000) (hv : r32 v) : AG mX11_arrives mX12_arrives 6 10 [pI v] k h := by
  have x6 := sR6 hs
  have x12 := sR12 hs
  have hX := hs.1.2.2.2.2.1
  have hn := hs.2.2.2.1.2.1
  have hc := hs.2.2.2.1.1
  have h11 : h 11 0 = np := hs.1.2.2.2.2.2.2.1.2.1.1
  have h5 : h 147 5 = np := hs.1.2.2.1
  have h0 := hc.1.2.1
  by_cases q : 0 ≤ v ∧ v < np
  · obtain ⟨p, rfl⟩ := Int.eq_ofNat_of_zero_le q.1
    have hp : p < np := by omega
    obtain ⟨X, hXe⟩ : ∃ X, X = cxM sem h np nc := ⟨_, rfl⟩
    obtain ⟨c, f', hF⟩ := fstO_ex (X := X) (f := h 154) (p := p) (m := 30)
    have hcb : c = -1 ∨ (0 ≤ c ∧ c ≤ 30) := by
      rcases hF with ⟨j, a1, a2, -⟩ | ⟨a1, -⟩ <;> omega
    have hfb : 0 ≤ c → r32 (f' 1) := fun z => by
      rcases hF with ⟨j, a1, a2, a3, a4, a5⟩ | ⟨a1, -⟩
      · have hok : okF (cxM sem h np nc) H (h 154) := okF_c hc
        have h1 := xIt_1 (bh := 0) hX j (h 154) hok
        obtain ⟨o, l, fo⟩ := ok_it (bh := 0) hX j (h 154) hok
        have h2 := fo.2.1
        rw [a5, hXe]
        omega
      · omega
    refine A_q hs (z := if c = -1 then -2 else c) (o := if c = -1 then none else some [f' 1]) ?_ (fun h3 e => ?_) (fun L e => by
      split at e
      · cases e
      · injection e with e; subst e; exact (by omega : 1 ≤ 12))
    · show RR _ _ _ _ _ [pR 0, pI p, pU] _ _ _
      have t14 := isTr_14
      have t24 := isTr_24
      obtain ⟨k1, k2, k3, k4⟩ := tri hs
      have hpo := C_runsTillOut (m := 30) (p := p) hX k3 k1 (by omega) (by omega) hp (by rw [trC_n (by omega)]; exact hs.1.2.2.2.2.2.2.2.2.1) k4
      rw [← hXe] at hpo
      have K : ∀ (h2 : Nat → Int → Int) (len2 : Nat), onF 24 29 (trC h 24 14) h2 → (0 ≤ c → Cpl X H h2 24 f' len2) → RR mX11_arrives 6 0 0 31 [pR 0, pI p, pU] [pI c] (shp0, rf0, h2) (cQ h (if c = -1 then -2 else c) (if c = -1 then none else some [f' 1])) := by
        intro h2 len2 hf2 hc2
        by_cases z : c = -1
        · rw [if_pos z, if_pos z]
          have hq : cQ h (-2) none (some (pI (-2))) (shp0, rf0, h2) := ⟨h2, rfl, rfl, cq_on hf2 (fun _ _ _ => rfl), by rw [hf2 145 (by omega) (by omega) (by omega) (by omega) (by omega) (by omega) (by omega), trC_n (by omega)], by rw [hf2 146 (by omega) (by omega) (by omega) (by omega) (by omega) (by omega) (by omega), trC_n (by omega)]⟩
          refine R_istore_n dX11_arrives_31 (Nat.le_of_ble_eq_true rfl) (?_ : RR _ _ _ _ 32 [_, _, _] _ _ _)
          refine R_iload_n dX11_arrives_32 rfl (?_ : RR _ _ _ _ 33 _ _ _ _)
          refine R_iconst dX11_arrives_33 (?_ : RR _ _ _ _ 34 _ _ _ _)
          refine R_icmp_ne (t := 40) dX11_arrives_34 rfl (fun c34 => ?_) (fun c34 => ?_)
          · exfalso; omega
          refine R_bipush dX11_arrives_37 rfl (?_ : RR _ _ _ _ 39 _ _ _ _)
          exact R_ireturn dX11_arrives_39 trivial hq
        · rw [if_neg z, if_neg z]
          have g2 := (hc2 (by omega)).2.2.1
          have hr := hfb (by omega)
          have hq : cQ h c (some [f' 1]) (some (pI c)) (shp0, rf0, rup (rup h2 145 (fup (fup (h2 145) 1 0) 1 ((0 : Nat) + 1))) 146 (fup (h2 146) (0 : Nat) (f' 1))) := ⟨_, rfl, rfl, cq_on hf2 (fun a a1 a2 => by rw [rup_n a2, rup_n a1]), tC_1 (by rw [rup_n (by omega), rup_s, fup_s]; rfl) (by rw [rup_s]; exact fup_s)⟩
          refine R_istore_n dX11_arrives_31 (Nat.le_of_ble_eq_true rfl) (?_ : RR _ _ _ _ 32 [_, _, _] _ _ _)
          refine R_iload_n dX11_arrives_32 rfl (?_ : RR _ _ _ _ 33 _ _ _ _)
          refine R_iconst dX11_arrives_33 (?_ : RR _ _ _ _ 34 _ _ _ _)
          refine R_icmp_ne (t := 40) dX11_arrives_34 rfl (fun c34 => ?_) (fun c34 => ?_)
          rotate_left
          · exfalso; omega
          refine R_aload_n dX11_arrives_40 rfl (?_ : RR _ _ _ _ 41 _ _ _ _)
          refine R_getr dX11_arrives_41 flX11_87 cok_11 rfl (by decide) (?_ : RR _ _ _ _ 44 _ _ _ _)
          refine R_cVv0 dX11_arrives_44 mvX3_clear mlX11_239 (by decide) (by decide) (Nat.le_of_ble_eq_true rfl) (Nat.le_of_ble_eq_true rfl) (T_X3_clear) (?_ : RR _ _ _ _ 47 _ _ _ _)
          refine R_aload_n dX11_arrives_47 rfl (?_ : RR _ _ _ _ 48 _ _ _ _)
          refine R_getr dX11_arrives_48 flX11_87 cok_11 rfl (by decide) (?_ : RR _ _ _ _ 51 _ _ _ _)
          refine R_aload_n dX11_arrives_51 rfl (?_ : RR _ _ _ _ 52 _ _ _ _)
          refine R_getr dX11_arrives_52 flX11_43 cok_11 rfl (by decide) (?_ : RR _ _ _ _ 55 _ _ _ _)
          refine R_geti (z := 1) dX11_arrives_55 flX11_312 cok_9 rfl (by decide) rfl (fun q55 => (?_ : RR _ _ _ _ 58 _ _ _ _))
          simp (disch := omega) only [rup_n, g2] at q55 ⊢
          refine R_i2l dX11_arrives_58 (by first | assumption | omega) (?_ : RR _ _ _ _ 59 _ _ _ _)
          refine R_cVv1 dX11_arrives_59 mvX3_add mlX11_243 (by decide) (by decide) (Nat.le_of_ble_eq_true rfl) (Nat.le_of_ble_eq_true rfl) (T_X3_add (n := 0) (by rw [rup_s, fup_s]; rfl) (by omega)) (?_ : RR _ _ _ _ 62 _ _ _ _)
          simp (disch := omega) only [rup_rup, rup_s, rup_n]
          refine R_iload_n dX11_arrives_62 rfl (?_ : RR _ _ _ _ 63 _ _ _ _)
          exact R_ireturn dX11_arrives_63 trivial hq
      refine R_aload_n dX11_arrives_0 rfl (?_ : RR _ _ _ _ 1 _ _ _ _)
      refine R_getr dX11_arrives_1 flX11_29 cok_11 rfl (by decide) (?_ : RR _ _ _ _ 4 _ _ _ _)
      refine R_iload_n dX11_arrives_4 rfl (?_ : RR _ _ _ _ 5 _ _ _ _)
      refine R_cVi1 dX11_arrives_5 mvX2_has mlX11_202 (by decide) (by decide) (Nat.le_of_ble_eq_true rfl) (Nat.le_of_ble_eq_true rfl) (T_X2_has) (?_ : RR _ _ _ _ 8 _ _ _ _)
      rw [h11, if_pos q]
      refine R_if_ne (t := 13) dX11_arrives_8 rfl (fun c8 => ?_) (fun c8 => ?_)
      rotate_left
      · exfalso; omega
      refine R_aload_n dX11_arrives_13 rfl (?_ : RR _ _ _ _ 14 _ _ _ _)
      refine R_getr dX11_arrives_14 flX11_43 cok_11 rfl (by decide) (?_ : RR _ _ _ _ 17 _ _ _ _)
      refine R_aload_n dX11_arrives_17 rfl (?_ : RR _ _ _ _ 18 _ _ _ _)
      refine R_getr dX11_arrives_18 flX11_36 cok_11 rfl (by decide) (?_ : RR _ _ _ _ 21 _ _ _ _)
      refine R_cVv1 dX11_arrives_21 mvX9_copyFrom mlX11_231 (by decide) (by decide) (Nat.le_of_ble_eq_true rfl) (Nat.le_of_ble_eq_true rfl) (T_X9_copyFrom) (?_ : RR _ _ _ _ 24 _ _ _ _)
      refine R_aload_n dX11_arrives_24 rfl (?_ : RR _ _ _ _ 25 _ _ _ _)
      refine R_iload_n dX11_arrives_25 rfl (?_ : RR _ _ _ _ 26 _ _ _ _)
      refine R_bipush dX11_arrives_26 rfl (?_ : RR _ _ _ _ 28 _ _ _ _)
      refine R_qV2 dX11_arrives_28 mvX11_runsTillOut mlX11_318 (by decide) (by decide) (Nat.le_of_ble_eq_true rfl) (Nat.le_of_ble_eq_true rfl) (hpo) (fun r9 g9 hq9 => (?_ : RR _ _ _ _ 31 _ _ _ _))
      obtain ⟨c2, h2, f2, len2, rfl, rfl, hf2, hc2, hF2⟩ := hq9
      obtain ⟨rfl, u2⟩ := fstO_u hF hF2
      show RR _ _ _ _ _ _ [pI c] _ _
      exact K h2 len2 hf2 (fun z => by rw [u2 z]; exact hc2)
    · show RR _ _ _ _ _ [pR 147, pI p, pU] _ _ _
      obtain ⟨h4, h4e⟩ : ∃ h4, h4 = rup (rup h3 147 (fup (h3 147) 0 0)) 155 (h3 154) := ⟨_, rfl⟩
      obtain ⟨hB, eX, e155, e154⟩ := mtri hs hk e h4e
      have hpo := M_outAfter (p := p) hB hp (by rw [e155]; omega)
      rw [eX, e155, ← hXe] at hpo
      have g5 : h3 147 5 = np := by rw [e 147 (by omega)]; exact h5
      have K : ∀ (c' : Int) (h5 : Nat → Int → Int), tnF h4 h5 → oor (h5 155) (h 154) → fstM X (h 154) p c' (h5 155) → RR mX12_arrives 10 0 0 24 [pR 147, pI p, pU] [pI c'] (shp0, rf0, h5) (mQ h3 (if c = -1 then -2 else c) (if c = -1 then none else some [f' 1])) := by
        intro c' h5 hf5 ho5 hM
        have hmq := mq_tn hs e h4e hf5 ho5
        rcases fst_same hF hM with ⟨y1, y2⟩ | ⟨y1, y2, y3, y4, y5⟩
        · rw [if_pos y1, if_pos y1]
          have hq : mQ h3 (-2) none (some (pI (-2))) (shp0, rf0, h5) := ⟨h5, rfl, rfl, hmq, by rw [hf5.2.1 1 (by omega), h4e, rup_n (by omega), rup_s, fup_n (by omega)], by rw [hf5.1 148 (by omega) (by omega) (by omega) (by omega) (by omega), h4e, rup_n (by omega), rup_n (by omega)]⟩
          refine R_istore_n dX12_arrives_24 (Nat.le_of_ble_eq_true rfl) (?_ : RR _ _ _ _ 25 [_, _, _] _ _ _)
          refine R_iload_n dX12_arrives_25 rfl (?_ : RR _ _ _ _ 26 _ _ _ _)
          refine R_bipush dX12_arrives_26 rfl (?_ : RR _ _ _ _ 28 _ _ _ _)
          refine R_icmp_le (t := 34) dX12_arrives_28 rfl (fun c28 => ?_) (fun c28 => ?_)
          · exfalso; omega
          refine R_bipush dX12_arrives_31 rfl (?_ : RR _ _ _ _ 33 _ _ _ _)
          exact R_ireturn dX12_arrives_33 trivial hq
        · rw [if_neg (by omega), if_neg (by omega)]
          subst y1
          have hr := hfb y3
          have hq : mQ h3 c (some [f' 1]) (some (pI c)) (shp0, rf0, rup (rup h5 147 (fup (fup (h5 147) 1 0) 1 ((0 : Nat) + 1))) 148 (fup (h5 148) (0 : Nat) (f' 1))) := ⟨_, rfl, rfl, mq_told hmq (fun a a1 a2 => by rw [rup_n a2, rup_n a1]) (fun j hj => by rw [rup_n (by omega), rup_s, fup_n hj, fup_n hj]), tM_1 (by rw [rup_n (by omega), rup_s, fup_s]; rfl) (by rw [rup_s]; exact fup_s)⟩
          refine R_istore_n dX12_arrives_24 (Nat.le_of_ble_eq_true rfl) (?_ : RR _ _ _ _ 25 [_, _, _] _ _ _)
          refine R_iload_n dX12_arrives_25 rfl (?_ : RR _ _ _ _ 26 _ _ _ _)
          refine R_bipush dX12_arrives_26 rfl (?_ : RR _ _ _ _ 28 _ _ _ _)
          refine R_icmp_le (t := 34) dX12_arrives_28 rfl (fun c28 => ?_) (fun c28 => ?_)
          rotate_left
          · exfalso; omega
          refine R_aload_n dX12_arrives_34 rfl (?_ : RR _ _ _ _ 35 _ _ _ _)
          refine R_iconst dX12_arrives_35 (?_ : RR _ _ _ _ 36 _ _ _ _)
          refine R_puti (zk := 1) dX12_arrives_36 flX12_113 cok_12 (by decide) (fun q hq => by cases hq; rfl) rfl (?_ : RR _ _ _ _ 39 _ _ _ _)
          refine R_aload_n dX12_arrives_39 rfl (?_ : RR _ _ _ _ 40 _ _ _ _)
          refine R_aload_n dX12_arrives_40 rfl (?_ : RR _ _ _ _ 41 _ _ _ _)
          refine R_getr dX12_arrives_41 flX12_36 cok_12 rfl (by decide) (?_ : RR _ _ _ _ 44 _ _ _ _)
          refine R_iconst dX12_arrives_44 (?_ : RR _ _ _ _ 45 _ _ _ _)
          refine R_iald dX12_arrives_45 (fun q45 => (?_ : RR _ _ _ _ 46 _ _ _ _))
          simp (disch := omega) only [rup_n] at q45 ⊢
          rw [← y2] at q45 ⊢
          refine R_i2l dX12_arrives_46 (by first | assumption | omega) (?_ : RR _ _ _ _ 47 _ _ _ _)
          refine R_cVv1 dX12_arrives_47 mvX12_enters mlX12_116 (by decide) (by decide) (Nat.le_of_ble_eq_true rfl) (Nat.le_of_ble_eq_true rfl) (T_X12_enters (n := 0) (by rw [rup_s, fup_s]; rfl) (by omega) (by omega)) (?_ : RR _ _ _ _ 50 _ _ _ _)
          simp (disch := omega) only [rup_rup, rup_s, rup_n]
          refine R_iload_n dX12_arrives_50 rfl (?_ : RR _ _ _ _ 51 _ _ _ _)
          exact R_ireturn dX12_arrives_51 trivial hq
      refine R_aload_n dX12_arrives_0 rfl (?_ : RR _ _ _ _ 1 _ _ _ _)
      refine R_iconst dX12_arrives_1 (?_ : RR _ _ _ _ 2 _ _ _ _)
      refine R_puti (zk := 0) dX12_arrives_2 flX12_106 cok_12 (by decide) (fun q hq => by cases hq; rfl) rfl (?_ : RR _ _ _ _ 5 _ _ _ _)
      refine R_aload_n dX12_arrives_5 rfl (?_ : RR _ _ _ _ 6 _ _ _ _)
      refine R_iload_n dX12_arrives_6 rfl (?_ : RR _ _ _ _ 7 _ _ _ _)
      refine R_cVi1 dX12_arrives_7 mvX12_isPassenger mlX12_325 (by decide) (by decide) (Nat.le_of_ble_eq_true rfl) (Nat.le_of_ble_eq_true rfl) (T_X12_isPassenger (by simp (disch := omega) only [rup_s, fup_n]; rw [g5]; omega)) (?_ : RR _ _ _ _ 10 _ _ _ _)
      simp (disch := omega) only [rup_s, fup_n]
      rw [g5, if_pos (by omega)]
      refine R_if_ne (t := 15) dX12_arrives_10 rfl (fun c10 => ?_) (fun c10 => ?_)
      rotate_left
      · exfalso; omega
      refine R_aload_n dX12_arrives_15 rfl (?_ : RR _ _ _ _ 16 _ _ _ _)
      refine R_cVv0 dX12_arrives_16 mvX12_puts mlX12_407 (by decide) (by decide) (Nat.le_of_ble_eq_true rfl) (Nat.le_of_ble_eq_true rfl) (T_X12_puts (puts_oor hs e)) (?_ : RR _ _ _ _ 19 _ _ _ _)
      simp (disch := omega) only [rup_n]
      rw [← h4e]
      refine R_aload_n dX12_arrives_19 rfl (?_ : RR _ _ _ _ 20 _ _ _ _)
      refine R_iload_n dX12_arrives_20 rfl (?_ : RR _ _ _ _ 21 _ _ _ _)
      refine R_qV1 dX12_arrives_21 mvX12_outAfter mlX12_421 (by decide) (by decide) (Nat.le_of_ble_eq_true rfl) (Nat.le_of_ble_eq_true rfl) (hpo) (fun r9 g9 hq9 => (?_ : RR _ _ _ _ 24 _ _ _ _))
      obtain ⟨c2, h5, rfl, rfl, hf5, ho5, hM5⟩ := hq9
      show RR _ _ _ _ _ _ [pI c2] _ _
      exact K c2 h5 hf5 ho5 hM5
  · refine A_q hs (z := -1) (o := none) (cQ_no (M := mX11_arrives) (d := 6) (As := [pR 0, pI v]) (MT.of (fun Q hQ => (?_ : RR mX11_arrives _ _ _ _ [pR 0, pI v, pU] _ _ _)))) (fun h3 e => mQ_thr (M := mX12_arrives) (d := 10) (As := [pR 147, pI v]) (MT.of (fun Q hQ => (?_ : RR mX12_arrives _ _ _ _ [pR 147, pI v, pU] _ _ _)))) (fun L e => by cases e)
    · refine R_aload_n dX11_arrives_0 rfl (?_ : RR _ _ _ _ 1 _ _ _ _)
      refine R_getr dX11_arrives_1 flX11_29 cok_11 rfl (by decide) (?_ : RR _ _ _ _ 4 _ _ _ _)
      refine R_iload_n dX11_arrives_4 rfl (?_ : RR _ _ _ _ 5 _ _ _ _)
      refine R_cVi1 dX11_arrives_5 mvX2_has mlX11_202 (by decide) (by decide) (Nat.le_of_ble_eq_true rfl) (Nat.le_of_ble_eq_true rfl) (T_X2_has) (?_ : RR _ _ _ _ 8 _ _ _ _)
      rw [h11, if_neg q]
      refine R_if_ne (t := 13) dX11_arrives_8 rfl (fun c8 => ?_) (fun c8 => ?_)
      · exfalso; omega
      refine R_iconst dX11_arrives_11 (?_ : RR _ _ _ _ 12 _ _ _ _)
      exact R_ireturn dX11_arrives_12 trivial hQ
    · have g5 : h3 147 5 = np := by rw [e 147 (by omega)]; exact h5
      refine R_aload_n dX12_arrives_0 rfl (?_ : RR _ _ _ _ 1 _ _ _ _)
      refine R_iconst dX12_arrives_1 (?_ : RR _ _ _ _ 2 _ _ _ _)
      refine R_puti (zk := 0) dX12_arrives_2 flX12_106 cok_12 (by decide) (fun q hq => by cases hq; rfl) rfl (?_ : RR _ _ _ _ 5 _ _ _ _)
      refine R_aload_n dX12_arrives_5 rfl (?_ : RR _ _ _ _ 6 _ _ _ _)
      refine R_iload_n dX12_arrives_6 rfl (?_ : RR _ _ _ _ 7 _ _ _ _)
      refine R_cVi1 dX12_arrives_7 mvX12_isPassenger mlX12_325 (by decide) (by decide) (Nat.le_of_ble_eq_true rfl) (Nat.le_of_ble_eq_true rfl) (T_X12_isPassenger (by simp (disch := omega) only [rup_s, fup_n]; rw [g5]; omega)) (?_ : RR _ _ _ _ 10 _ _ _ _)
      simp (disch := omega) only [rup_s, fup_n]
      rw [g5, if_neg (fun z => q ⟨z.1, by omega⟩)]
      refine R_if_ne (t := 15) dX12_arrives_10 rfl (fun c10 => ?_) (fun c10 => ?_)
      · exfalso; omega
      refine R_iconst dX12_arrives_13 (?_ : RR _ _ _ _ 14 _ _ _ _)
      exact R_ireturn dX12_arrives_14 trivial hQ
end AS
