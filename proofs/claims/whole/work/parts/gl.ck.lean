/-! the constructors that also lay numbers -/
theorem NetL {S : List (Nat × Nat)} {F : Nat → Nat → Option Nat} {h0 : Nat → Int → Int} {a n ra : Nat} {Q : Option PV → PH → Prop} (hc : S[a]? = some (0, 0)) (hra : S[ra]? = some (100, 18)) (hF : F a 1 = some ra) (hlt : ra < n) (kk : ∀ h, hk n S F h → (∀ e : Int, 0 ≤ e → e < 18 → h ra e = (-1)) → (∀ b, b ≠ ra → h b = h0 b) → Q none (S, F, h)) : ∀ (k i : Nat) (h : Nat → Int → Int), i + k = 18 → hk n S F h → (∀ e : Int, 0 ≤ e → e < i → h ra e = (-1)) → (∀ b, b ≠ ra → h b = h0 b) → RK mX0_init 1 0 0 35 [pR a, pI i] [] (S, F, h) Q := by
  intro k
  induction k with
  | zero =>
    intro i h hi hh h1 h2
    refine K_iload_n dX0_init_35 rfl (?_ : RK _ _ _ _ 36 _ _ _ _)
    refine K_bipush dX0_init_36 rfl (?_ : RK _ _ _ _ 38 _ _ _ _)
    refine K_icmp_ge (t := 54) dX0_init_38 rfl (fun c => ?_) (fun c => ?_)
    · exact K_return dX0_init_54 trivial (kk h hh (fun e e0 e1 => h1 e e0 (by omega)) h2)
    · exfalso; omega
  | succ k ih =>
    intro i h hi hh h1 h2
    refine K_iload_n dX0_init_35 rfl (?_ : RK _ _ _ _ 36 _ _ _ _)
    refine K_bipush dX0_init_36 rfl (?_ : RK _ _ _ _ 38 _ _ _ _)
    refine K_icmp_ge (t := 54) dX0_init_38 rfl (fun c => ?_) (fun c => ?_)
    · exfalso; omega
    · refine K_aload_n dX0_init_41 rfl (?_ : RK _ _ _ _ 42 _ _ _ _)
      refine K_getr dX0_init_42 flX0_15 cok_0 rfl (by decide) (?_ : RK _ _ _ _ 45 _ _ _ _) hc hF
      refine K_iload_n dX0_init_45 rfl (?_ : RK _ _ _ _ 46 _ _ _ _)
      refine K_iconst dX0_init_46 (?_ : RK _ _ _ _ 47 _ _ _ _)
      refine K_iast dX0_init_47 (?_ : RK _ _ _ _ 48 _ _ _ _) hra (by omega) (by omega) (by omega)
      refine K_iinc dX0_init_48 rfl (Nat.le_of_ble_eq_true rfl) (?_ : RK _ _ _ _ 51 [_, _] _ _ _)
      refine K_goto (t := 35) dX0_init_51 rfl (?_ : RK _ _ _ _ 35 _ _ _ _)
      have q := ih (i + 1) (rup h ra (fup (h ra) i (-1))) (by omega) (hh.ru hlt) (fun e e0 e1 => by
        rw [rup_s]
        by_cases z : e = i
        · rw [z, fup_s]
        · rw [fup_n z]; exact h1 e e0 (by omega)) (fun b hb => by rw [rup_n hb]; exact h2 b hb)
      rw [show (((i + 1 : Nat)) : Int) = (i : Int) + 1 by omega] at q
      exact q
theorem SigL {S : List (Nat × Nat)} {F : Nat → Nat → Option Nat} {h0 : Nat → Int → Int} {a n ra : Nat} {Q : Option PV → PH → Prop} (hc : S[a]? = some (6, 0)) (hra : S[ra]? = some (100, 13)) (hF : F a 2 = some ra) (hlt : ra < n) (kk : ∀ h, hk n S F h → (∀ e : Int, 0 ≤ e → e < 13 → h ra e = 511) → (∀ b, b ≠ ra → h b = h0 b) → Q none (S, F, h)) : ∀ (k i : Nat) (h : Nat → Int → Int), i + k = 13 → hk n S F h → (∀ e : Int, 0 ≤ e → e < i → h ra e = 511) → (∀ b, b ≠ ra → h b = h0 b) → RK mX6_init 1 0 0 30 [pR a, pI i] [] (S, F, h) Q := by
  intro k
  induction k with
  | zero =>
    intro i h hi hh h1 h2
    refine K_iload_n dX6_init_30 rfl (?_ : RK _ _ _ _ 31 _ _ _ _)
    refine K_bipush dX6_init_31 rfl (?_ : RK _ _ _ _ 33 _ _ _ _)
    refine K_icmp_ge (t := 51) dX6_init_33 rfl (fun c => ?_) (fun c => ?_)
    · exact K_return dX6_init_51 trivial (kk h hh (fun e e0 e1 => h1 e e0 (by omega)) h2)
    · exfalso; omega
  | succ k ih =>
    intro i h hi hh h1 h2
    refine K_iload_n dX6_init_30 rfl (?_ : RK _ _ _ _ 31 _ _ _ _)
    refine K_bipush dX6_init_31 rfl (?_ : RK _ _ _ _ 33 _ _ _ _)
    refine K_icmp_ge (t := 51) dX6_init_33 rfl (fun c => ?_) (fun c => ?_)
    · exfalso; omega
    · refine K_aload_n dX6_init_36 rfl (?_ : RK _ _ _ _ 37 _ _ _ _)
      refine K_getr dX6_init_37 flX6_11 cok_6 rfl (by decide) (?_ : RK _ _ _ _ 40 _ _ _ _) hc hF
      refine K_iload_n dX6_init_40 rfl (?_ : RK _ _ _ _ 41 _ _ _ _)
      refine K_sipush dX6_init_41 rfl (?_ : RK _ _ _ _ 44 _ _ _ _)
      refine K_iast dX6_init_44 (?_ : RK _ _ _ _ 45 _ _ _ _) hra (by omega) (by omega) (by omega)
      refine K_iinc dX6_init_45 rfl (Nat.le_of_ble_eq_true rfl) (?_ : RK _ _ _ _ 48 [_, _] _ _ _)
      refine K_goto (t := 30) dX6_init_48 rfl (?_ : RK _ _ _ _ 30 _ _ _ _)
      have q := ih (i + 1) (rup h ra (fup (h ra) i 511)) (by omega) (hh.ru hlt) (fun e e0 e1 => by
        rw [rup_s]
        by_cases z : e = i
        · rw [z, fup_s]
        · rw [fup_n z]; exact h1 e e0 (by omega)) (fun b hb => by rw [rup_n hb]; exact h2 b hb)
      rw [show (((i + 1 : Nat)) : Int) = (i : Int) + 1 by omega] at q
      exact q
def cl_X0 : List (Nat × Nat) := [(100, 18), (100, 18), (100, 81)]
def wf_X0 (a : Nat) (F : Nat → Nat → Option Nat) : Nat → Nat → Option Nat := (fset (fset (fset F a 1 (a + 1)) a 2 (a + 2)) a 3 (a + 3))
def pr_X0 (a : Nat) (h h2 : Nat → Int → Int) : Prop := h2 a 0 = 1 ∧ (∀ e : Int, 0 ≤ e → e < 18 → h2 (a + 1) e = -1) ∧ ∀ b, b ≠ a → b ≠ a + 1 → h2 b = h b
theorem CK_X0 : CK mX0_init 1 3 117 0 cl_X0 3 wf_X0 pr_X0 := by
  intro S F h a h0 hn hc
  show RK mX0_init 1 3 117 0 [pR a, pU] [] (S, F, h) _
  refine K_aload_n dX0_init_0 rfl (K_obj dX0_init_1 oi_X0 oi_in oi_co (by decide) (by decide) ?_)
  refine K_aload_n dX0_init_4 rfl (K_iconst dX0_init_5 (K_puti (zk := 0) dX0_init_6 flX0_9 cok_0 (by decide) (fun q hq => by cases hq; rfl) rfl ?_ (Or.inl rfl) (by omega) hc))
  have k2 := h0.ru (a := a) (f := fup (h a) 0 1) (by omega)
  refine K_ai (N := 18) (n := a + 1) (len := 2) (kc := 2) (ks := 99) dX0_init_9 (fun kk => K_bipush dX0_init_10 rfl kk) dX0_init_12 dX0_init_14 flX0_15 fpX0_1 nrU (by omega) (by omega) (by decide) k2 hc (fun k3 c3 => ?_)
  refine K_ai (N := 18) (n := a + 2) (len := 2) (kc := 1) (ks := 81) dX0_init_17 (fun kk => K_bipush dX0_init_18 rfl kk) dX0_init_20 dX0_init_22 flX0_19 fpX0_2 nrU (by omega) (by omega) (by decide) k3 c3 (fun k4 c4 => ?_)
  refine K_ai (N := 81) (n := a + 3) (len := 2) (kc := 0) (ks := 0) dX0_init_25 (fun kk => K_bipush dX0_init_26 rfl kk) dX0_init_28 dX0_init_30 flX0_22 fpX0_3 nrU (by omega) (by omega) (by decide) k4 c4 (fun k5 c5 => ?_)
  refine K_iconst dX0_init_33 (K_istore_n dX0_init_34 (by decide) (?_ : RK _ _ _ _ 35 [pR a, pI ((0 : Nat) : Int)] _ _ _))
  refine NetL (h0 := (rup h a (fup (h a) 0 1))) (n := a + 4) (ra := a + 1) c5 (at_app (at_app (at_new h0.1))) (by unfold fset; simp) (by omega) (fun h2 q1 q2 q3 => ?_) 18 0 _ (by omega) k5 (fun e e0 e1 => by omega) (fun b _ => rfl)
  refine ⟨rfl, h2, rfl, q1, ?_, q2, fun b b1 b2 => ?_⟩
  · rw [q3 a (by omega), rup_s, fup_s]
  · rw [q3 b b2, rup_n b1]
def cl_X6 : List (Nat × Nat) := [(100, 13), (100, 13), (100, 117)]
def wf_X6 (a : Nat) (F : Nat → Nat → Option Nat) : Nat → Nat → Option Nat := (fset (fset (fset F a 2 (a + 1)) a 3 (a + 2)) a 4 (a + 3))
def pr_X6 (a : Nat) (h h2 : Nat → Int → Int) : Prop := (∀ e : Int, 0 ≤ e → e < 13 → h2 (a + 1) e = 511) ∧ ∀ b, b ≠ a + 1 → h2 b = h b
theorem CK_X6 : CK mX6_init 1 3 143 6 cl_X6 3 wf_X6 pr_X6 := by
  intro S F h a h0 hn hc
  show RK mX6_init 1 3 143 0 [pR a, pU] [] (S, F, h) _
  refine K_aload_n dX6_init_0 rfl (K_obj dX6_init_1 oi_X6 oi_in oi_co (by decide) (by decide) ?_)
  refine K_ai (N := 13) (n := a + 1) (len := 2) (kc := 2) (ks := 130) dX6_init_4 (fun kk => K_bipush dX6_init_5 rfl kk) dX6_init_7 dX6_init_9 flX6_11 fpX6_2 nrU (by omega) (by omega) (by decide) h0 hc (fun k2 c2 => ?_)
  refine K_ai (N := 13) (n := a + 2) (len := 2) (kc := 1) (ks := 117) dX6_init_12 (fun kk => K_bipush dX6_init_13 rfl kk) dX6_init_15 dX6_init_17 flX6_15 fpX6_3 nrU (by omega) (by omega) (by decide) k2 c2 (fun k3 c3 => ?_)
  refine K_ai (N := 117) (n := a + 3) (len := 2) (kc := 0) (ks := 0) dX6_init_20 (fun kk => K_bipush dX6_init_21 rfl kk) dX6_init_23 dX6_init_25 flX6_18 fpX6_4 nrU (by omega) (by omega) (by decide) k3 c3 (fun k4 c4 => ?_)
  refine K_iconst dX6_init_28 (K_istore_n dX6_init_29 (by decide) (?_ : RK _ _ _ _ 30 [pR a, pI ((0 : Nat) : Int)] _ _ _))
  exact SigL (h0 := h) (n := a + 4) (ra := a + 1) c4 (at_app (at_app (at_new h0.1))) (by unfold fset; simp) (by omega) (fun h2 q1 q2 q3 => ⟨rfl, h2, rfl, q1, q2, q3⟩) 13 0 _ (by omega) k4 (fun e e0 e1 => by omega) (fun b _ => rfl)
def cl_X4 : List (Nat × Nat) := [(100, 40), (100, 40)]
def wf_X4 (a : Nat) (F : Nat → Nat → Option Nat) : Nat → Nat → Option Nat := (fset (fset F a 0 (a + 1)) a 1 (a + 2))
def pr_X4 (a : Nat) (h h2 : Nat → Int → Int) : Prop := h2 a 2 = 1 ∧ h2 a 4 = h a 4 ∧ h2 (a + 1) 0 = 1000 ∧ ∀ b, b ≠ a → b ≠ a + 1 → h2 b = h b
theorem CK_X4 : CK mX4_init 1 2 80 4 cl_X4 2 wf_X4 pr_X4 := by
  intro S F h a h0 hn hc
  show RK mX4_init 1 2 80 0 [pR a] [] (S, F, h) _
  refine K_aload_n dX4_init_0 rfl (K_obj dX4_init_1 oi_X4 oi_in oi_co (by decide) (by decide) ?_)
  refine K_ai (N := 40) (n := a + 1) (len := 2) (kc := 1) (ks := 40) dX4_init_4 (fun kk => K_bipush dX4_init_5 rfl kk) dX4_init_7 dX4_init_9 flX4_9 fpX4_0 nr0 (by omega) (by omega) (by decide) h0 hc (fun k2 c2 => ?_)
  refine K_ai (N := 40) (n := a + 2) (len := 2) (kc := 0) (ks := 0) dX4_init_12 (fun kk => K_bipush dX4_init_13 rfl kk) dX4_init_15 dX4_init_17 flX4_15 fpX4_1 nr0 (by omega) (by omega) (by decide) k2 c2 (fun k3 c3 => ?_)
  refine K_aload_n dX4_init_20 rfl (K_iconst dX4_init_21 (K_puti (zk := 2) dX4_init_22 flX4_18 cok_4 (by decide) (fun q hq => by cases hq; rfl) rfl ?_ (Or.inl rfl) (by omega) c3))
  have k4 := k3.ru (a := a) (f := fup (h a) 2 1) (by omega)
  refine K_aload_n dX4_init_25 rfl (?_ : RK _ _ _ _ 26 _ _ _ _)
  refine K_getr (b := a + 1) dX4_init_26 flX4_9 cok_4 rfl (by decide) (?_ : RK _ _ _ _ 29 _ _ _ _) c3 (by unfold fset; simp)
  refine K_iconst dX4_init_29 (K_sipush dX4_init_30 rfl (?_ : RK _ _ _ _ 33 _ _ _ _))
  refine K_iast (n := 40) dX4_init_33 (?_ : RK _ _ _ _ 34 _ _ _ _) (at_app (at_new h0.1)) (by omega) (by omega) (by omega)
  refine K_return dX4_init_34 trivial ⟨rfl, _, rfl, k4.ru (by omega), ?_, ?_, ?_, fun b b1 b2 => ?_⟩
  · rw [rup_n (by omega), rup_s, fup_s]
  · rw [rup_n (by omega), rup_s, fup_n (by decide)]
  · rw [rup_s, fup_s]
  · rw [rup_n b2, rup_n b1]
