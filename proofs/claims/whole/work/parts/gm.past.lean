/-! Past's constructor: trains in rows -/
def pastS : Nat → List (Nat × Nat) → List (Nat × Nat)
  | 0, S => S
  | k + 1, S => pastS k (apps (S ++ [(9, 0)]) cl_X9)
def pastW (arr : Nat) : Nat → Nat → Nat → (Nat → Nat → Option Nat) → Nat → Nat → Option Nat
  | 0, _, _, F => F
  | k + 1, i, n, F => pastW arr k (i + 1) (n + 5) (fset (wf_X9 n F) arr i n)
theorem at_pastS {b : Nat} {q : Nat × Nat} : ∀ {k : Nat} {S : List (Nat × Nat)}, S[b]? = some q → (pastS k S)[b]? = some q := by
  intro k
  induction k with
  | zero => intro S h; exact h
  | succ k ih => intro S h; exact ih (at_apps (at_app h))
theorem pastW_n {arr b j : Nat} (hb : b ≠ arr) : ∀ {k i n : Nat} {F : Nat → Nat → Option Nat}, b < n → pastW arr k i n F b j = F b j := by
  intro k
  induction k with
  | zero => intro i n F h; rfl
  | succ k ih =>
    intro i n F h
    show pastW arr k (i + 1) (n + 5) (fset (wf_X9 n F) arr i n) b j = F b j
    rw [ih (by omega)]
    unfold wf_X9 fset
    rw [if_neg (by omega), if_neg (by omega), if_neg (by omega), if_neg (by omega), if_neg (by omega)]
theorem pastW_a {arr j : Nat} {a : Nat} (hb : a ≠ arr) {n : Nat} {F : Nat → Nat → Option Nat} (h : a < n) : fset (wf_X9 n F) arr j n a = F a := by
  funext k
  unfold wf_X9 fset
  rw [if_neg (by omega), if_neg (by omega), if_neg (by omega), if_neg (by omega), if_neg (by omega)]
theorem PastL1 {a : Nat} {h : Nat → Int → Int} {Q : Option PV → PH → Prop} {kc ks : Nat} : ∀ (k i n : Nat) (S : List (Nat × Nat)) (F : Nat → Nat → Option Nat), i + k = 15 → n + 5 * k < 899 → a + 3 < n → hk n S F h → S[a]? = some (1, 0) → S[a + 1]? = some (103, 15) → F a 0 = some (a + 1) → (hk (n + 5 * k) (pastS k S) (pastW (a + 1) k i n F) h → RK mX1_init 2 kc ks 55 [pR a, pI 15] [] (pastS k S, pastW (a + 1) k i n F, h) Q) → RK mX1_init 2 (5 * k + kc) (38 * k + ks) 30 [pR a, pI i] [] (S, F, h) Q := by
  intro k
  induction k with
  | zero =>
    intro i n S F hi hn ha h0 hc hs hf kk
    obtain rfl : i = 15 := by omega
    rw [show 5 * 0 + kc = kc by omega, show 38 * 0 + ks = ks by omega]
    refine K_iload_n dX1_init_30 rfl (?_ : RK _ _ _ _ 31 _ _ _ _)
    refine K_bipush dX1_init_31 rfl (?_ : RK _ _ _ _ 33 _ _ _ _)
    refine K_icmp_ge (t := 55) dX1_init_33 rfl (fun c => ?_) (fun c => ?_)
    · exact kk h0
    · exfalso; omega
  | succ k ih =>
    intro i n S F hi hn ha h0 hc hs hf kk
    rw [show 5 * (k + 1) + kc = 1 + (4 + (5 * k + kc)) by omega, show 38 * (k + 1) + ks = 8 + (30 + (38 * k + ks)) by omega]
    refine K_iload_n dX1_init_30 rfl (?_ : RK _ _ _ _ 31 _ _ _ _)
    refine K_bipush dX1_init_31 rfl (?_ : RK _ _ _ _ 33 _ _ _ _)
    refine K_icmp_ge (t := 55) dX1_init_33 rfl (fun c => ?_) (fun c => ?_)
    · exfalso; omega
    · refine K_aload_n dX1_init_36 rfl (?_ : RK _ _ _ _ 37 _ _ _ _)
      refine K_getr dX1_init_37 flX1_11 cok_1 rfl (by decide) (?_ : RK _ _ _ _ 40 _ _ _ _) hc hf
      refine K_iload_n dX1_init_40 rfl (?_ : RK _ _ _ _ 41 _ _ _ _)
      have h1 : hk (n + 1) (S ++ [(9, 0)]) F h := h0.app (by omega)
      have hcn : (S ++ [(9, 0)])[n]? = some (9, 0) := at_new h0.1
      have hl1 : (S ++ [(9, 0)]).length = n + 1 := h1.1
      obtain ⟨rfl, ho⟩ := h0
      refine K_new RX9 TX9 8 nwX1_9.1 dX1_init_41 nwX1_9.2.1 nwX1_9.2.2.1 nwX1_9.2.2.2.1 nwX1_9.2.2.2.2.1 nwX1_9.2.2.2.2.2.1 (fun j hj => pdef (nwX1_9.2.2.2.2.2.2 j hj)) ho (plr (by omega) (pli pl0)) (pli (plr (by omega) pl0)) (?_ : RK _ _ _ _ 44 _ _ _ _)
      refine K_dup dX1_init_44 (fun _ => rfl) (?_ : RK _ _ _ _ 45 _ _ _ _)
      refine K_callI (g := (S ++ [(9, 0)], F, h)) dX1_init_45 miX9 (Or.inr (by decide)) (Nat.le_of_ble_eq_true rfl) (by decide) (plr (by show a < (S ++ [(9, 0)]).length; omega) (pli pl0)) (plr (by show S.length < (S ++ [(9, 0)]).length; omega) (pli (plr (by show a + 1 < (S ++ [(9, 0)]).length; omega) pl0))) (CK_X9 _ F h S.length h1 (by omega) hcn) (fun g' z => by cases z.1) (fun g' z => ?_)
      obtain ⟨-, h', rfl, hk', rfl⟩ := z
      refine K_aast dX1_init_48 (at_apps (at_app hs)) (at_apps hcn) (by omega) (by omega) (?_ : RK _ _ _ _ 49 _ _ _ _)
      refine K_iinc dX1_init_49 rfl (Nat.le_of_ble_eq_true rfl) (?_ : RK _ _ _ _ 52 [_, _] _ _ _)
      refine K_goto (t := 30) dX1_init_52 rfl (?_ : RK _ _ _ _ 30 _ _ _ _)
      have q := ih (i + 1) (S.length + 5) (apps (S ++ [(9, 0)]) cl_X9) (fset (wf_X9 S.length F) (a + 1) i S.length) (by omega) (by omega) (by omega) (hk'.fs (by omega) (by omega)) (at_apps (at_app hc)) (at_apps (at_app hs)) (by rw [pastW_a (by omega) (by omega)]; exact hf) (fun z => kk (by rw [show S.length + 5 * (k + 1) = S.length + 5 + 5 * k by omega]; exact z))
      rw [show (((i + 1 : Nat)) : Int) = (i : Int) + 1 by omega] at q
      exact q
theorem PastL2 {a : Nat} {h : Nat → Int → Int} {Q : Option PV → PH → Prop} {kc ks : Nat} : ∀ (k i n : Nat) (S : List (Nat × Nat)) (F : Nat → Nat → Option Nat), i + k = 3 → n + 5 * k < 899 → a + 3 < n → hk n S F h → S[a]? = some (1, 0) → S[a + 2]? = some (103, 3) → F a 1 = some (a + 2) → (hk (n + 5 * k) (pastS k S) (pastW (a + 2) k i n F) h → RK mX1_init 2 kc ks 81 [pR a, pI 3] [] (pastS k S, pastW (a + 2) k i n F, h) Q) → RK mX1_init 2 (5 * k + kc) (38 * k + ks) 57 [pR a, pI i] [] (S, F, h) Q := by
  intro k
  induction k with
  | zero =>
    intro i n S F hi hn ha h0 hc hs hf kk
    obtain rfl : i = 3 := by omega
    rw [show 5 * 0 + kc = kc by omega, show 38 * 0 + ks = ks by omega]
    refine K_iload_n dX1_init_57 rfl (?_ : RK _ _ _ _ 58 _ _ _ _)
    refine K_iconst dX1_init_58 (?_ : RK _ _ _ _ 59 _ _ _ _)
    refine K_icmp_ge (t := 81) dX1_init_59 rfl (fun c => ?_) (fun c => ?_)
    · exact kk h0
    · exfalso; omega
  | succ k ih =>
    intro i n S F hi hn ha h0 hc hs hf kk
    rw [show 5 * (k + 1) + kc = 1 + (4 + (5 * k + kc)) by omega, show 38 * (k + 1) + ks = 8 + (30 + (38 * k + ks)) by omega]
    refine K_iload_n dX1_init_57 rfl (?_ : RK _ _ _ _ 58 _ _ _ _)
    refine K_iconst dX1_init_58 (?_ : RK _ _ _ _ 59 _ _ _ _)
    refine K_icmp_ge (t := 81) dX1_init_59 rfl (fun c => ?_) (fun c => ?_)
    · exfalso; omega
    · refine K_aload_n dX1_init_62 rfl (?_ : RK _ _ _ _ 63 _ _ _ _)
      refine K_getr dX1_init_63 flX1_17 cok_1 rfl (by decide) (?_ : RK _ _ _ _ 66 _ _ _ _) hc hf
      refine K_iload_n dX1_init_66 rfl (?_ : RK _ _ _ _ 67 _ _ _ _)
      have h1 : hk (n + 1) (S ++ [(9, 0)]) F h := h0.app (by omega)
      have hcn : (S ++ [(9, 0)])[n]? = some (9, 0) := at_new h0.1
      have hl1 : (S ++ [(9, 0)]).length = n + 1 := h1.1
      obtain ⟨rfl, ho⟩ := h0
      refine K_new RX9 TX9 8 nwX1_9.1 dX1_init_67 nwX1_9.2.1 nwX1_9.2.2.1 nwX1_9.2.2.2.1 nwX1_9.2.2.2.2.1 nwX1_9.2.2.2.2.2.1 (fun j hj => pdef (nwX1_9.2.2.2.2.2.2 j hj)) ho (plr (by omega) (pli pl0)) (pli (plr (by omega) pl0)) (?_ : RK _ _ _ _ 70 _ _ _ _)
      refine K_dup dX1_init_70 (fun _ => rfl) (?_ : RK _ _ _ _ 71 _ _ _ _)
      refine K_callI (g := (S ++ [(9, 0)], F, h)) dX1_init_71 miX9 (Or.inr (by decide)) (Nat.le_of_ble_eq_true rfl) (by decide) (plr (by show a < (S ++ [(9, 0)]).length; omega) (pli pl0)) (plr (by show S.length < (S ++ [(9, 0)]).length; omega) (pli (plr (by show a + 2 < (S ++ [(9, 0)]).length; omega) pl0))) (CK_X9 _ F h S.length h1 (by omega) hcn) (fun g' z => by cases z.1) (fun g' z => ?_)
      obtain ⟨-, h', rfl, hk', rfl⟩ := z
      refine K_aast dX1_init_74 (at_apps (at_app hs)) (at_apps hcn) (by omega) (by omega) (?_ : RK _ _ _ _ 75 _ _ _ _)
      refine K_iinc dX1_init_75 rfl (Nat.le_of_ble_eq_true rfl) (?_ : RK _ _ _ _ 78 [_, _] _ _ _)
      refine K_goto (t := 57) dX1_init_78 rfl (?_ : RK _ _ _ _ 57 _ _ _ _)
      have q := ih (i + 1) (S.length + 5) (apps (S ++ [(9, 0)]) cl_X9) (fset (wf_X9 S.length F) (a + 2) i S.length) (by omega) (by omega) (by omega) (hk'.fs (by omega) (by omega)) (at_apps (at_app hc)) (at_apps (at_app hs)) (by rw [pastW_a (by omega) (by omega)]; exact hf) (fun z => kk (by rw [show S.length + 5 * (k + 1) = S.length + 5 + 5 * k by omega]; exact z))
      rw [show (((i + 1 : Nat)) : Int) = (i : Int) + 1 by omega] at q
      exact q
def cl_P1 : List (Nat × Nat) := [(103, 15), (103, 3), (101, 3)]
def pastC : Nat → List (Nat × Nat)
  | 0 => []
  | k + 1 => (9, 0) :: cl_X9 ++ pastC k
theorem pastS_eq : ∀ {k : Nat} {S : List (Nat × Nat)}, pastS k S = apps S (pastC k) := by
  intro k
  induction k with
  | zero => intro S; rfl
  | succ k ih =>
    intro S
    show pastS k (apps (S ++ [(9, 0)]) cl_X9) = apps S (((9, 0) :: cl_X9) ++ pastC k)
    rw [ih]
    unfold apps
    rw [List.foldl_append]
    rfl
def cl_X1 : List (Nat × Nat) := cl_P1 ++ (pastC 15 ++ pastC 3)
theorem cl_X1_eq {S : List (Nat × Nat)} : pastS 3 (pastS 15 (apps S cl_P1)) = apps S cl_X1 := by
  rw [pastS_eq, pastS_eq]
  unfold apps cl_X1
  rw [List.foldl_append, List.foldl_append]
def wf_P1 (a : Nat) (F : Nat → Nat → Option Nat) : Nat → Nat → Option Nat := (fset (fset (fset F a 0 (a + 1)) a 1 (a + 2)) a 2 (a + 3))
def wf_X1 (a : Nat) (F : Nat → Nat → Option Nat) : Nat → Nat → Option Nat := pastW (a + 2) 3 0 (a + 79) (pastW (a + 1) 15 0 (a + 4) (wf_P1 a F))
theorem CK_X1 : CK mX1_init 2 93 705 1 cl_X1 93 wf_X1 hEq := by
  intro S F h a h0 hn hc
  show RK mX1_init 2 93 705 0 [pR a, pU] [] (S, F, h) _
  refine K_aload_n dX1_init_0 rfl (K_obj dX1_init_1 oi_X1 oi_in oi_co (by decide) (by decide) ?_)
  refine K_at (N := 15) (n := a + 1) (len := 2) (kc := 92) (ks := 690) dX1_init_4 (fun kk => K_bipush dX1_init_5 rfl kk) dX1_init_7 dX1_init_10 cl_t flX1_11 fpX1_0 nrU (by omega) (by omega) (by decide) h0 hc (fun k2 c2 => ?_)
  refine K_at (N := 3) (n := a + 2) (len := 1) (kc := 91) (ks := 687) dX1_init_13 (fun kk => K_iconst dX1_init_14 kk) dX1_init_15 dX1_init_18 cl_t flX1_17 fpX1_1 nrU (by omega) (by omega) (by decide) k2 c2 (fun k3 c3 => ?_)
  refine K_az (N := 3) (n := a + 3) (len := 1) (kc := 90) (ks := 684) dX1_init_21 (fun kk => K_iconst dX1_init_22 kk) dX1_init_23 dX1_init_25 flX1_20 fpX1_2 nrU (by omega) (by omega) (by decide) k3 c3 (fun k4 c4 => ?_)
  refine K_iconst dX1_init_28 (K_istore_n dX1_init_29 (by decide) (?_ : RK _ _ _ _ 30 [pR a, pI ((0 : Nat) : Int)] _ _ _))
  have s1 : (apps S cl_P1)[a + 1]? = some (103, 15) := at_app (at_app (at_new h0.1))
  have s2 : (apps S cl_P1)[a + 2]? = some (103, 3) := at_app (at_new (h0.app (x := (103, 15)) (by omega)).1)
  have f1 : wf_P1 a F a 0 = some (a + 1) := by unfold wf_P1 fset; simp
  have f2 : wf_P1 a F a 1 = some (a + 2) := by unfold wf_P1 fset; simp
  refine PastL1 (kc := 15) (ks := 114) 15 0 (a + 4) (apps S cl_P1) (wf_P1 a F) (by omega) (by omega) (by omega) k4 c4 s1 f1 (fun q1 => ?_)
  refine K_iconst dX1_init_55 (K_istore_n dX1_init_56 (by decide) (?_ : RK _ _ _ _ 57 [pR a, pI ((0 : Nat) : Int)] _ _ _))
  refine PastL2 (kc := 0) (ks := 0) 3 0 (a + 79) (pastS 15 (apps S cl_P1)) (pastW (a + 1) 15 0 (a + 4) (wf_P1 a F)) (by omega) (by omega) (by omega) q1 (at_pastS c4) (at_pastS s2) (by rw [pastW_n (by omega) (by omega)]; exact f2) (fun q2 => ?_)
  rw [cl_X1_eq] at q2 ⊢
  exact K_return dX1_init_81 trivial ⟨rfl, _, rfl, q2, rfl⟩
