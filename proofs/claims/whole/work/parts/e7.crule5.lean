section RU6
variable {h h1 h2 h3 h4 : Nat → Int → Int} {N d p b l m n : Nat} {σ : Int → Int} {v : (Int → Int) → Int} {u : Bool}
/-- the whole text: 250 steps are enough -/
def rqX (σ : Int → Int) : RV := rp σ 250 0 0 0 (fun _ => 0) false
def rqG (σ : Int → Int) (n : Nat) : Prop := n = 0 ∨ ((rqX σ).2.1 = true ∧ (rqX σ).1 = n)
def rqV (σ : Int → Int) (n : Nat) : (Int → Int) → Int := if n = 0 then fun th => th 0 else (rqX σ).2.2.1
def rqU (σ : Int → Int) (n : Nat) : Bool := if n = 0 then false else (rqX σ).2.2.2
theorem gd_0 : gd (fun _ => 0) false := ⟨fun _ _ => by show r32 0; omega, fun _ _ _ _ => rfl, fun _ _ _ => rfl⟩
theorem gd_r : gd (rqV σ n) (rqU σ n) := by
  unfold rqV rqU
  by_cases q : n = 0
  · rw [if_pos q, if_pos q]
    exact ⟨fun th ht => ht 0, fun _ th th' w => w 0 (by omega) (by omega), fun th th' w => w 0 (by omega) (by omega)⟩
  · rw [if_neg q, if_neg q]
    exact (rp_v 250 0 0 0 (fun _ => 0) false (by omega) gd_0).1
theorem rqX_b (hσn : ∀ p : Nat, b ≤ p → σ p = -1) (hb : b ≤ 40) : (rqX σ).1 ≤ b := (rp_b (σ := σ) hσn hb 250 0 0 0 (fun _ => 0) false (by omega) (by omega) (by unfold rpM; rw [if_pos (by omega)]; omega)).2.1
def rqF (n : Nat) (h h2 : Nat → Int → Int) : Prop := (∀ a, a ≠ 1 → a ≠ 32 → a ≠ 33 → h2 a = h a) ∧ h2 1 = fup (h 1) 2 (min (n : Int) 40)
def rqP (σ : Int → Int) (n : Nat) (h : Nat → Int → Int) (r' : Option PV) (g' : PH) : Prop := ∃ h2, g' = (shp0, rf0, h2) ∧ rqF n h h2 ∧ ((¬ rqG σ n ∧ r' = some (pI (-1 - ((rqX σ).1 : Int))) ∧ (h2 32 4 = 0 ∨ h2 32 4 = 1)) ∨ (rqG σ n ∧ r' = some (pI 0) ∧ ∃ k : Nat, k ≤ 40 ∧ h2 32 2 = k ∧ h2 32 4 = (if rqU σ n then 1 else 0) ∧ SgC (h2 33) 0 k (rqV σ n)))
theorem C_rread (h1n : h 1 1 = n) (hn80 : n ≤ 80) (hb40 : b = min n 40) (hσ : ∀ p : Int, 0 ≤ p → signAt (rup h 1 (fup (h 1) 2 (min (n : Int) 40))) p = σ p) (hσn : ∀ p : Nat, b ≤ p → σ p = -1) (hσb : ∀ p : Int, -1 ≤ σ p ∧ σ p ≤ 255) : RR mX4_read 760 0 0 0 (pm_ent [pR 32, pR 1] 3) [] (shp0, rf0, h) (rqP σ n h) := by
  show RR _ _ _ _ _ [pR 32, pR 1, pU] _ _ _
  have rr := isRule_32
  have hbd := T_X7_boundBy (h := h) (m := 40)
  rw [h1n] at hbd
  obtain ⟨h9, h9e⟩ : ∃ h9, h9 = rup h 1 (fup (h 1) 2 (min (n : Int) 40)) := ⟨_, rfl⟩
  rw [← h9e] at hbd hσ
  obtain ⟨h4, h4e⟩ : ∃ h4, h4 = rup h9 32 (fup (fup (fup (h9 32) 2 0) 3 0) 4 0) := ⟨_, rfl⟩
  have f4 : ∀ a, a ≠ 32 → h4 a = h9 a := fun a a1 => by rw [h4e, rup_n a1]
  have f9 : ∀ a, a ≠ 1 → h9 a = h a := fun a a1 => by rw [h9e, rup_n a1]
  have e9 : h9 1 = fup (h 1) 2 (min (n : Int) 40) := by rw [h9e, rup_s]
  have s4 : crS h4 0 0 false := ⟨by rw [h4e, rup_s, fup_n (by omega), fup_s]; rfl, by rw [h4e, rup_s, fup_n (by omega), fup_n (by omega), fup_s]; rfl, by rw [h4e, rup_s, fup_s]; rfl⟩
  have n4 : h4 1 1 = n := by rw [f4 1 (by omega), h9e, rup_s, fup_n (by omega)]; exact h1n
  have hx := rqX_b hσn (show b ≤ 40 by omega)
  have K21 : RR mX4_read 760 0 0 21 [pR 32, pR 1, pU] [] (shp0, rf0, h4) (rqP σ n h) := by
    by_cases z : n = 0
    · have hA := T_add32 (h := h4) (l := 0) (c := 1000) s4.2.1 (by omega) (by omega)
      have hq : rqP σ n h (some (pI 0)) (shp0, rf0, rup (rup h4 32 (fup (h4 32) 2 (((0 : Nat) : Int) + 1))) 33 (fup (h4 33) ((0 : Nat) : Int) 1000)) := by
        have g := SgC_push (C := fup (h4 33) ((0 : Nat) : Int) 1000) (l := 0) (c := 1000) fup_s (by omega) (by omega)
        refine ⟨_, rfl, ⟨fun a a1 a2 a3 => by rw [rup_n a3, rup_n a2, f4 a a2, f9 a a1], by rw [rup_n (by omega), rup_n (by omega), f4 1 (by omega), e9]⟩, Or.inr ⟨Or.inl z, rfl, 1, by omega, by rw [rup_n (by omega), rup_s, fup_s]; rfl, by rw [rup_n (by omega), rup_s, fup_n (by omega), s4.2.2]; unfold rqU; rw [if_pos z], ?_⟩⟩
        rw [rup_s]
        refine SgC_v g (fun th _ => ?_)
        unfold rqV
        rw [if_pos z, if_neg (by omega)]
        rfl
      generalize rup (rup h4 32 (fup (h4 32) 2 (((0 : Nat) : Int) + 1))) 33 (fup (h4 33) ((0 : Nat) : Int) 1000) = h7 at *
      generalize rqP σ n h = QQ at *
      rw [z] at n4
      refine R_aload_n dX4_read_21 rfl (?_ : RR _ _ _ _ 22 _ _ _ _)
      refine R_geti (z := 1) dX4_read_22 flX4_54 cok_7 rfl (by decide) rfl (fun q22 => (?_ : RR _ _ _ _ 25 _ _ _ _))
      rw [n4] at q22 ⊢
      refine R_if_ne (t := 37) dX4_read_25 rfl (fun c25 => ?_) (fun c25 => ?_)
      · exfalso; omega
      refine R_aload_n dX4_read_28 rfl (?_ : RR _ _ _ _ 29 _ _ _ _)
      refine R_sipush dX4_read_29 rfl (?_ : RR _ _ _ _ 32 _ _ _ _)
      refine R_cVv1 dX4_read_32 mvX4_add mlX4_55 (by decide) (by omega) (Nat.le_of_ble_eq_true rfl) (Nat.le_of_ble_eq_true rfl) (hA) (?_ : RR _ _ _ _ 35 _ _ _ _)
      refine R_iconst dX4_read_35 (?_ : RR _ _ _ _ 36 _ _ _ _)
      exact R_ireturn dX4_read_36 trivial hq
    · have hL := C_level (σ := σ) (b := b) hσn hσb (by omega) 250 0 0 0 0 false (fun _ => 0) h4 (by omega) (by omega) (by omega) (by omega) (by unfold rpM; rw [if_pos (by omega)]; omega) gd_0 (fun p p0 => by
        rw [← hσ p p0]
        unfold signAt
        rw [f4 1 (by omega), f4 2 (by omega)]) s4
      rw [show rp σ 250 0 0 0 (fun _ => 0) false = rqX σ from rfl] at hL
      have K44 : ∀ r' g', cLP (rqX σ) 0 0 h4 r' g' → ∃ z : Int, r' = some (pI z) ∧ RR mX4_read 760 0 0 44 [pR 32, pR 1, pU] [pI z] g' (rqP σ n h) := by
        intro r' g' hc
        obtain ⟨h6, rfl, f6, i6, ⟨o6, rfl, n6⟩ | ⟨o6, rfl, k, k1, s6, g6⟩⟩ := hc
        · refine ⟨0, rfl, ?_⟩
          have hq : rqP σ n h (some (pI (-1 - ((rqX σ).1 : Int)))) (shp0, rf0, h6) := ⟨h6, rfl, ⟨fun a a1 a2 a3 => by rw [f6.1 a a2 a3, f4 a a2, f9 a a1], by rw [f6.1 1 (by omega) (by omega), f4 1 (by omega), e9]⟩, Or.inl ⟨fun w => by rcases w with w | w; (· exact z w); (· rw [o6] at w; cases w.1), rfl, n6⟩⟩
          generalize rqP σ n h = QQ at *
          generalize rqX σ = x at *
          refine R_istore_n dX4_read_44 (Nat.le_of_ble_eq_true rfl) (?_ : RR _ _ _ _ 45 [_, _, _] _ _ _)
          refine R_iload_n dX4_read_45 rfl (?_ : RR _ _ _ _ 46 _ _ _ _)
          refine R_if_eq (t := 64) dX4_read_46 rfl (fun c46 => ?_) (fun c46 => ?_)
          rotate_left
          · exfalso; omega
          refine R_iconst dX4_read_64 (?_ : RR _ _ _ _ 65 _ _ _ _)
          refine R_aload_n dX4_read_65 rfl (?_ : RR _ _ _ _ 66 _ _ _ _)
          refine R_geti (z := 3) dX4_read_66 flX4_51 cok_4 rfl (by decide) rfl (fun q66 => (?_ : RR _ _ _ _ 69 _ _ _ _))
          rw [i6] at q66 ⊢
          refine R_isub dX4_read_69 (?_ : RR _ _ _ _ 70 _ _ _ _)
          exact R_ireturn dX4_read_70 trivial hq
        · refine ⟨1, rfl, ?_⟩
          have n6 : h6 1 1 = n := by rw [f6.1 1 (by omega) (by omega)]; exact n4
          have fr : rqF n h h6 := ⟨fun a a1 a2 a3 => by rw [f6.1 a a2 a3, f4 a a2, f9 a a1], by rw [f6.1 1 (by omega) (by omega), f4 1 (by omega), e9]⟩
          by_cases w : (rqX σ).1 = n
          · have hq : rqP σ n h (some (pI 0)) (shp0, rf0, h6) := ⟨h6, rfl, fr, Or.inr ⟨Or.inr ⟨o6, w⟩, rfl, k, by omega, by rw [s6.2.1]; omega, by rw [s6.2.2]; unfold rqU; rw [if_neg z], SgC_v g6 (fun th _ => by unfold rqV; rw [if_neg z])⟩⟩
            clear g6 fr
            generalize rqP σ n h = QQ at *
            generalize rqX σ = x at *
            refine R_istore_n dX4_read_44 (Nat.le_of_ble_eq_true rfl) (?_ : RR _ _ _ _ 45 [_, _, _] _ _ _)
            refine R_iload_n dX4_read_45 rfl (?_ : RR _ _ _ _ 46 _ _ _ _)
            refine R_if_eq (t := 64) dX4_read_46 rfl (fun c46 => ?_) (fun c46 => ?_)
            · exfalso; omega
            refine R_aload_n dX4_read_49 rfl (?_ : RR _ _ _ _ 50 _ _ _ _)
            refine R_geti (z := 1) dX4_read_50 flX4_54 cok_7 rfl (by decide) rfl (fun q50 => (?_ : RR _ _ _ _ 53 _ _ _ _))
            rw [n6] at q50 ⊢
            refine R_aload_n dX4_read_53 rfl (?_ : RR _ _ _ _ 54 _ _ _ _)
            refine R_geti (z := 3) dX4_read_54 flX4_51 cok_4 rfl (by decide) rfl (fun q54 => (?_ : RR _ _ _ _ 57 _ _ _ _))
            rw [i6] at q54 ⊢
            refine R_icmp_ne (t := 64) dX4_read_57 rfl (fun c57 => ?_) (fun c57 => ?_)
            · exfalso; omega
            refine R_iconst dX4_read_60 (?_ : RR _ _ _ _ 61 _ _ _ _)
            refine R_goto (t := 70) dX4_read_61 rfl (?_ : RR _ _ _ _ 70 _ _ _ _)
            exact R_ireturn dX4_read_70 trivial hq
          · have hq : rqP σ n h (some (pI (-1 - ((rqX σ).1 : Int)))) (shp0, rf0, h6) := ⟨h6, rfl, fr, Or.inl ⟨fun y => by rcases y with y | y; (· exact z y); (· exact w y.2), rfl, crS_b s6⟩⟩
            clear g6 fr
            generalize rqP σ n h = QQ at *
            generalize rqX σ = x at *
            refine R_istore_n dX4_read_44 (Nat.le_of_ble_eq_true rfl) (?_ : RR _ _ _ _ 45 [_, _, _] _ _ _)
            refine R_iload_n dX4_read_45 rfl (?_ : RR _ _ _ _ 46 _ _ _ _)
            refine R_if_eq (t := 64) dX4_read_46 rfl (fun c46 => ?_) (fun c46 => ?_)
            · exfalso; omega
            refine R_aload_n dX4_read_49 rfl (?_ : RR _ _ _ _ 50 _ _ _ _)
            refine R_geti (z := 1) dX4_read_50 flX4_54 cok_7 rfl (by decide) rfl (fun q50 => (?_ : RR _ _ _ _ 53 _ _ _ _))
            rw [n6] at q50 ⊢
            refine R_aload_n dX4_read_53 rfl (?_ : RR _ _ _ _ 54 _ _ _ _)
            refine R_geti (z := 3) dX4_read_54 flX4_51 cok_4 rfl (by decide) rfl (fun q54 => (?_ : RR _ _ _ _ 57 _ _ _ _))
            rw [i6] at q54 ⊢
            refine R_icmp_ne (t := 64) dX4_read_57 rfl (fun c57 => ?_) (fun c57 => ?_)
            rotate_left
            · exfalso; omega
            refine R_iconst dX4_read_64 (?_ : RR _ _ _ _ 65 _ _ _ _)
            refine R_aload_n dX4_read_65 rfl (?_ : RR _ _ _ _ 66 _ _ _ _)
            refine R_geti (z := 3) dX4_read_66 flX4_51 cok_4 rfl (by decide) rfl (fun q66 => (?_ : RR _ _ _ _ 69 _ _ _ _))
            rw [i6] at q66 ⊢
            refine R_isub dX4_read_69 (?_ : RR _ _ _ _ 70 _ _ _ _)
            exact R_ireturn dX4_read_70 trivial hq
      generalize rqP σ n h = QQ at *
      refine R_aload_n dX4_read_21 rfl (?_ : RR _ _ _ _ 22 _ _ _ _)
      refine R_geti (z := 1) dX4_read_22 flX4_54 cok_7 rfl (by decide) rfl (fun q22 => (?_ : RR _ _ _ _ 25 _ _ _ _))
      rw [n4] at q22 ⊢
      refine R_if_ne (t := 37) dX4_read_25 rfl (fun c25 => ?_) (fun c25 => ?_)
      rotate_left
      · exfalso; omega
      refine R_aload_n dX4_read_37 rfl (?_ : RR _ _ _ _ 38 _ _ _ _)
      refine R_aload_n dX4_read_38 rfl (?_ : RR _ _ _ _ 39 _ _ _ _)
      refine R_iconst dX4_read_39 (?_ : RR _ _ _ _ 40 _ _ _ _)
      refine R_iconst dX4_read_40 (?_ : RR _ _ _ _ 41 _ _ _ _)
      refine R_qV3 dX4_read_41 mvX4_readLevel mlX4_58 (by decide) (by omega) (Nat.le_of_ble_eq_true rfl) (Nat.le_of_ble_eq_true rfl) (hL) (fun r9 g9 hq9 => (?_ : RR _ _ _ _ 44 _ _ _ _))
      obtain ⟨z, rfl, KK⟩ := K44 _ _ hq9
      show RR _ _ _ _ _ _ [pI z] _ _
      exact KK
  clear hσ hx
  generalize rqP σ n h = QQ at *
  refine R_aload_n dX4_read_0 rfl (?_ : RR _ _ _ _ 1 _ _ _ _)
  refine R_bipush dX4_read_1 rfl (?_ : RR _ _ _ _ 3 _ _ _ _)
  refine R_cVv1 dX4_read_3 mvX7_boundBy mlX4_45 (by decide) (by omega) (Nat.le_of_ble_eq_true rfl) (Nat.le_of_ble_eq_true rfl) (hbd) (?_ : RR _ _ _ _ 6 _ _ _ _)
  refine R_aload_n dX4_read_6 rfl (?_ : RR _ _ _ _ 7 _ _ _ _)
  refine R_iconst dX4_read_7 (?_ : RR _ _ _ _ 8 _ _ _ _)
  refine R_puti (zk := 2) dX4_read_8 flX4_18 cok_4 (by decide) (fun q hq => by cases hq; rfl) rfl (?_ : RR _ _ _ _ 11 _ _ _ _)
  refine R_aload_n dX4_read_11 rfl (?_ : RR _ _ _ _ 12 _ _ _ _)
  refine R_iconst dX4_read_12 (?_ : RR _ _ _ _ 13 _ _ _ _)
  refine R_puti (zk := 3) dX4_read_13 flX4_51 cok_4 (by decide) (fun q hq => by cases hq; rfl) rfl (?_ : RR _ _ _ _ 16 _ _ _ _)
  refine R_aload_n dX4_read_16 rfl (?_ : RR _ _ _ _ 17 _ _ _ _)
  refine R_iconst dX4_read_17 (?_ : RR _ _ _ _ 18 _ _ _ _)
  refine R_puti (zk := 4) dX4_read_18 flX4_22 cok_4 (by decide) (fun q hq => by cases hq; rfl) rfl (?_ : RR _ _ _ _ 21 _ _ _ _)
  simp (disch := omega) only [rup_rup, rup_s]
  rw [← h4e]
  exact K21
end RU6
