section NE9
variable {k : Nat} {h h1 h2 h3 h4 : Nat → Int → Int} {sem : Sem} {H0 H np nc len n b : Nat} {σ : Int → Int}
theorem mrF_re {e : Nat} (f : mrF h h1) (g : reF h1 h2 e) : mrF h h2 := ⟨fun a a1 a2 => by rw [g.1 a a1 a2]; exact f.1 a a1 a2, fun j j1 j2 j3 j4 j5 j6 => by rw [g.2.1 j j3]; exact f.2.1 j j1 j2 j3 j4 j5 j6, by rw [g.2.1 15 (by omega)]; exact f.2.2⟩
/-- what was read of the exits -/
def mnV (σ : Int → Int) (H m : Nat) (h1 : Nat → Int → Int) : Prop := ∀ e : Nat, e < m → h1 157 (2 * e) = (neT σ H (neS σ e (neR σ H e).1).1).1 ∧ h1 157 (2 * e + 1) = (neT σ H (neS σ e (neR σ H e).1).1).2
theorem neR_st {e p : Nat} (hp : neR σ H e = (p, false)) : ∀ m, neR σ H (e + m) = (p, false)
  | 0 => hp
  | m + 1 => by
    show (if (neR σ H (e + m)).2 then _ else neR σ H (e + m)) = _
    rw [neR_st hp m]; rfl
theorem neR_s {e : Nat} (ho : (neR σ H e).2 = true) : neR σ H (e + 1) = if (neS σ e (neR σ H e).1).2 then neX σ H (neS σ e (neR σ H e).1).1 else ((neS σ e (neR σ H e).1).1, false) := by
  show (if (neR σ H e).2 then _ else _) = _
  rw [ho]; rfl
theorem mnV_s {m : Nat} (hv : mnV σ H m h1) (g : reF h1 h2 m) (e1 : h2 157 (2 * m) = (neT σ H (neS σ m (neR σ H m).1).1).1) (e2 : h2 157 (2 * m + 1) = (neT σ H (neS σ m (neR σ H m).1).1).2) : mnV σ H (m + 1) h2 := fun e he => by
  by_cases z : e = m
  · rw [z]; exact ⟨e1, e2⟩
  · rw [g.2.2 _ (by omega) (by omega), g.2.2 _ (by omega) (by omega)]; exact hv e (by omega)
theorem MNE_68 {c : Nat} {Q : Option PV → PH → Prop} (hc : c < H) (hH9 : 1 ≤ H ∧ H ≤ 9) (hb46 : b ≤ 46) (hσ : ∀ p : Nat, p < b → h 156 p = σ p ∧ 0 ≤ σ p ∧ σ p ≤ 255) (hσn : ∀ p : Nat, b ≤ p → σ p = -1) (ho : (neR σ H (2 * c)).2 = true) (hS : (neS σ (2 * c) (neR σ H (2 * c)).1).2 = true) (f1 : mrF h h1) (g16 : h1 147 16 = ((neS σ (2 * c) (neR σ H (2 * c)).1).1 : Nat)) (g17 : h1 147 17 = b) (hqb : (neS σ (2 * c) (neR σ H (2 * c)).1).1 ≤ b) (hv : mnV σ H (2 * c) h1)
    (K99 : ∀ h2, mrF h h2 → h2 147 16 = ((neR σ H (2 * c + 2)).1 : Nat) → h2 147 17 = b → (neR σ H (2 * c + 2)).1 ≤ b → ((neR σ H (2 * c + 2)).2 = true → mnV σ H (2 * c + 2) h2) → RR mX12_net 3 0 0 99 [pR 147, pI n, pI H, pI 1, pI c, pU] [pI (if (neR σ H (2 * c + 2)).2 then 1 else 0)] (shp0, rf0, h2) Q) : RR mX12_net 3 0 0 68 [pR 147, pI n, pI H, pI 1, pI c, pU] [] (shp0, rf0, h1) Q := by
  have s1 := neR_s (σ := σ) (H := H) ho
  rw [hS, if_pos rfl] at s1
  have fσ : ∀ h1, mrF h h1 → ∀ p : Nat, p < b → h1 156 p = σ p ∧ 0 ≤ σ p ∧ σ p ≤ 255 := fun h1 f1 p hp => by rw [f1.1 156 (by omega) (by omega)]; exact hσ p hp
  have M1 := M_readsExit (e := 2 * c) (H := H) (by omega) hH9 g16 g17 hqb hb46 (fσ h1 f1) hσn
  have ex2 : ∀ h5, reF h1 h5 (2 * c) → h5 147 16 = ((neR σ H (2 * c + 1)).1 : Nat) → (neR σ H (2 * c + 1)).1 ≤ b → ((neR σ H (2 * c + 1)).2 = true → mnV σ H (2 * c + 1) h5) → mrF h h5 ∧ h5 147 17 = b := fun h5 f5 _ _ _ => ⟨mrF_re f1 f5, by rw [f5.2.1 17 (by omega)]; exact g17⟩
  by_cases x1 : (neX σ H (neS σ (2 * c) (neR σ H (2 * c)).1).1).2 = true
  · have o1 : (neR σ H (2 * c + 1)).2 = true := by rw [s1]; exact x1
    have s2 := neR_s (σ := σ) (H := H) o1
    have eS : neS σ (2 * c + 1) (neR σ H (2 * c + 1)).1 = ((neR σ H (2 * c + 1)).1, true) := if_neg (by omega)
    rw [eS, if_pos rfl] at s2
    have s2 : neR σ H (2 * c + 2) = neX σ H (neR σ H (2 * c + 1)).1 := s2
    have K80 : ∀ h5, mrF h h5 → h5 147 16 = ((neR σ H (2 * c + 1)).1 : Nat) → h5 147 17 = b → (neR σ H (2 * c + 1)).1 ≤ b → mnV σ H (2 * c + 1) h5 → RR mX12_net 3 0 0 80 [pR 147, pI n, pI H, pI 1, pI c, pU] [] (shp0, rf0, h5) Q := by
      intro h5 f5 g5 b5 l5 v5
      have M2 := M_readsExit (e := 2 * c + 1) (H := H) (by omega) hH9 g5 b5 l5 hb46 (fσ h5 f5) hσn
      have KK : ∀ h6, reF h5 h6 (2 * c + 1) → h6 147 16 = ((neX σ H (neR σ H (2 * c + 1)).1).1 : Int) → (neX σ H (neR σ H (2 * c + 1)).1).1 ≤ b → ((neX σ H (neR σ H (2 * c + 1)).1).2 = true → h6 157 (2 * ((2 * c + 1 : Nat) : Int)) = (neT σ H (neR σ H (2 * c + 1)).1).1 ∧ h6 157 (2 * ((2 * c + 1 : Nat) : Int) + 1) = (neT σ H (neR σ H (2 * c + 1)).1).2) → RR mX12_net 3 0 0 99 [pR 147, pI n, pI H, pI 1, pI c, pU] [pI (if (neX σ H (neR σ H (2 * c + 1)).1).2 then 1 else 0)] (shp0, rf0, h6) Q := by
        intro h6 f6 g6 l6 v6
        have := K99 h6 (mrF_re f5 f6) (by rw [s2]; exact g6) (by rw [f6.2.1 17 (by omega)]; exact b5) (by rw [s2]; exact l6) (fun hx => mnV_s v5 f6 (by rw [eS]; rw [s2] at hx; exact (v6 hx).1) (by rw [eS]; rw [s2] at hx; exact (v6 hx).2))
        rw [s2] at this
        exact this
      clear K99 M1 v5
      generalize neX σ H (neR σ H (2 * c + 1)).1 = x2 at *
      by_cases y : x2.2 = true
      · rw [if_pos y] at KK
        refine R_aload_n dX12_net_80 rfl (?_ : RR _ _ _ _ 81 _ _ _ _)
        refine R_iconst dX12_net_81 (?_ : RR _ _ _ _ 82 _ _ _ _)
        refine R_iload dX12_net_82 rfl (?_ : RR _ _ _ _ 84 _ _ _ _)
        refine R_imul dX12_net_84 (?_ : RR _ _ _ _ 85 _ _ _ _)
        refine R_iconst dX12_net_85 (?_ : RR _ _ _ _ 86 _ _ _ _)
        refine R_iadd dX12_net_86 (?_ : RR _ _ _ _ 87 _ _ _ _)
        rw [show (2 : Int) * c + 1 = ((2 * c + 1 : Nat) : Int) by omega]
        refine R_iload_n dX12_net_87 rfl (?_ : RR _ _ _ _ 88 _ _ _ _)
        refine R_qV2 dX12_net_88 mvX12_readsExit mlX12_194 (by decide) (by decide) (Nat.le_of_ble_eq_true rfl) (Nat.le_of_ble_eq_true rfl) (M2) (fun r9 g9 hq9 => (?_ : RR _ _ _ _ 91 _ _ _ _))
        obtain ⟨rfl, h6, rfl, f6, g6, l6, v6⟩ := hq9
        rw [if_pos y]
        show RR _ _ _ _ _ _ [pI 1] _ _
        refine R_if_eq (t := 98) dX12_net_91 rfl (fun c91 => ?_) (fun c91 => ?_)
        · exfalso; omega
        refine R_iconst dX12_net_94 (?_ : RR _ _ _ _ 95 _ _ _ _)
        refine R_goto (t := 99) dX12_net_95 rfl (?_ : RR _ _ _ _ 99 _ _ _ _)
        exact KK h6 f6 g6 l6 v6
      · rw [if_neg y] at KK
        refine R_aload_n dX12_net_80 rfl (?_ : RR _ _ _ _ 81 _ _ _ _)
        refine R_iconst dX12_net_81 (?_ : RR _ _ _ _ 82 _ _ _ _)
        refine R_iload dX12_net_82 rfl (?_ : RR _ _ _ _ 84 _ _ _ _)
        refine R_imul dX12_net_84 (?_ : RR _ _ _ _ 85 _ _ _ _)
        refine R_iconst dX12_net_85 (?_ : RR _ _ _ _ 86 _ _ _ _)
        refine R_iadd dX12_net_86 (?_ : RR _ _ _ _ 87 _ _ _ _)
        rw [show (2 : Int) * c + 1 = ((2 * c + 1 : Nat) : Int) by omega]
        refine R_iload_n dX12_net_87 rfl (?_ : RR _ _ _ _ 88 _ _ _ _)
        refine R_qV2 dX12_net_88 mvX12_readsExit mlX12_194 (by decide) (by decide) (Nat.le_of_ble_eq_true rfl) (Nat.le_of_ble_eq_true rfl) (M2) (fun r9 g9 hq9 => (?_ : RR _ _ _ _ 91 _ _ _ _))
        obtain ⟨rfl, h6, rfl, f6, g6, l6, v6⟩ := hq9
        rw [if_neg y]
        show RR _ _ _ _ _ _ [pI 0] _ _
        refine R_if_eq (t := 98) dX12_net_91 rfl (fun c91 => ?_) (fun c91 => ?_)
        rotate_left
        · exfalso; omega
        refine R_iconst dX12_net_98 (?_ : RR _ _ _ _ 99 _ _ _ _)
        exact KK h6 f6 g6 l6 v6
    have KK : ∀ h5, reF h1 h5 (2 * c) → h5 147 16 = ((neX σ H (neS σ (2 * c) (neR σ H (2 * c)).1).1).1 : Int) → (neX σ H (neS σ (2 * c) (neR σ H (2 * c)).1).1).1 ≤ b → ((neX σ H (neS σ (2 * c) (neR σ H (2 * c)).1).1).2 = true → h5 157 (2 * ((2 * c : Nat) : Int)) = (neT σ H (neS σ (2 * c) (neR σ H (2 * c)).1).1).1 ∧ h5 157 (2 * ((2 * c : Nat) : Int) + 1) = (neT σ H (neS σ (2 * c) (neR σ H (2 * c)).1).1).2) → RR mX12_net 3 0 0 80 [pR 147, pI n, pI H, pI 1, pI c, pU] [] (shp0, rf0, h5) Q := fun h5 f5 g5 l5 v5 => K80 h5 (mrF_re f1 f5) (by rw [s1]; exact g5) (by rw [f5.2.1 17 (by omega)]; exact g17) (by rw [s1]; exact l5) (mnV_s hv f5 (v5 x1).1 (v5 x1).2)
    clear K99 K80 ex2 hv
    refine R_aload_n dX12_net_68 rfl (?_ : RR _ _ _ _ 69 _ _ _ _)
    refine R_iconst dX12_net_69 (?_ : RR _ _ _ _ 70 _ _ _ _)
    refine R_iload dX12_net_70 rfl (?_ : RR _ _ _ _ 72 _ _ _ _)
    refine R_imul dX12_net_72 (?_ : RR _ _ _ _ 73 _ _ _ _)
    rw [show (2 : Int) * c = ((2 * c : Nat) : Int) by omega]
    refine R_iload_n dX12_net_73 rfl (?_ : RR _ _ _ _ 74 _ _ _ _)
    refine R_qV2 dX12_net_74 mvX12_readsExit mlX12_194 (by decide) (by decide) (Nat.le_of_ble_eq_true rfl) (Nat.le_of_ble_eq_true rfl) (M1) (fun r9 g9 hq9 => (?_ : RR _ _ _ _ 77 _ _ _ _))
    obtain ⟨rfl, h5, rfl, f5, g5, l5, v5⟩ := hq9
    rw [if_pos x1]
    show RR _ _ _ _ _ _ [pI 1] _ _
    refine R_if_eq (t := 98) dX12_net_77 rfl (fun c77 => ?_) (fun c77 => ?_)
    · exfalso; omega
    exact KK h5 f5 g5 l5 v5
  · have x2 : neR σ H (2 * c + 1) = ((neX σ H (neS σ (2 * c) (neR σ H (2 * c)).1).1).1, false) := by
      rw [s1]
      generalize neX σ H (neS σ (2 * c) (neR σ H (2 * c)).1).1 = x at *
      obtain ⟨a, c⟩ := x
      cases c
      · rfl
      · exact absurd rfl x1
    have s2 := neR_st x2 1
    have s2 : neR σ H (2 * c + 2) = ((neX σ H (neS σ (2 * c) (neR σ H (2 * c)).1).1).1, false) := s2
    rw [s2] at K99
    have KK : ∀ h5, reF h1 h5 (2 * c) → h5 147 16 = ((neX σ H (neS σ (2 * c) (neR σ H (2 * c)).1).1).1 : Int) → (neX σ H (neS σ (2 * c) (neR σ H (2 * c)).1).1).1 ≤ b → RR mX12_net 3 0 0 99 [pR 147, pI n, pI H, pI 1, pI c, pU] [pI 0] (shp0, rf0, h5) Q := fun h5 f5 g5 l5 => K99 h5 (mrF_re f1 f5) g5 (by rw [f5.2.1 17 (by omega)]; exact g17) l5 (fun w => by cases w)
    clear K99 ex2 hv
    refine R_aload_n dX12_net_68 rfl (?_ : RR _ _ _ _ 69 _ _ _ _)
    refine R_iconst dX12_net_69 (?_ : RR _ _ _ _ 70 _ _ _ _)
    refine R_iload dX12_net_70 rfl (?_ : RR _ _ _ _ 72 _ _ _ _)
    refine R_imul dX12_net_72 (?_ : RR _ _ _ _ 73 _ _ _ _)
    rw [show (2 : Int) * c = ((2 * c : Nat) : Int) by omega]
    refine R_iload_n dX12_net_73 rfl (?_ : RR _ _ _ _ 74 _ _ _ _)
    refine R_qV2 dX12_net_74 mvX12_readsExit mlX12_194 (by decide) (by decide) (Nat.le_of_ble_eq_true rfl) (Nat.le_of_ble_eq_true rfl) (M1) (fun r9 g9 hq9 => (?_ : RR _ _ _ _ 77 _ _ _ _))
    obtain ⟨rfl, h5, rfl, f5, g5, l5, v5⟩ := hq9
    rw [if_neg x1]
    show RR _ _ _ _ _ _ [pI 0] _ _
    refine R_if_eq (t := 98) dX12_net_77 rfl (fun c77 => ?_) (fun c77 => ?_)
    rotate_left
    · exfalso; omega
    refine R_iconst dX12_net_98 (?_ : RR _ _ _ _ 99 _ _ _ _)
    exact KK h5 f5 g5 l5
def mnX (σ : Int → Int) (H c : Nat) : Nat × Bool := if c = 0 then neS σ 0 1 else neR σ H (2 * c)
theorem MNE_44 {Q : Option PV → PH → Prop} (hH9 : 1 ≤ H ∧ H ≤ 9) (hb46 : b = min n 46) (hn80 : n ≤ 80) (hσ : ∀ p : Nat, p < b → h 156 p = σ p ∧ 0 ≤ σ p ∧ σ p ≤ 255) (hσn : ∀ p : Nat, b ≤ p → σ p = -1)
    (hfl : ∀ h2, mrF h h2 → ((neR σ H (2 * H)).2 = false ∨ (neR σ H (2 * H)).1 ≠ n) → Q (some (pI (-1 - ((neR σ H (2 * H)).1 : Int)))) (shp0, rf0, h2))
    (hon : ∀ h2, mrF h h2 → mnV σ H (2 * H) h2 → (neR σ H (2 * H)).2 = true → (neR σ H (2 * H)).1 = n → RR mX12_net 3 0 0 124 [pR 147, pI n, pI H, pI 1, pI 0, pU] [] (shp0, rf0, h2) Q) : ∀ (j c : Nat) (h1 : Nat → Int → Int), c + j = H → mrF h h1 → h1 147 16 = ((mnX σ H c).1 : Nat) → h1 147 17 = b → (mnX σ H c).1 ≤ b → ((mnX σ H c).2 = true → mnV σ H (2 * c) h1) → RR mX12_net 3 0 0 44 [pR 147, pI n, pI H, pI (if (mnX σ H c).2 then 1 else 0), pI c, pU] [] (shp0, rf0, h1) Q := by
  intro j
  induction j with
  | zero =>
    intro c h1 hc f1 g16 g17 hl hv
    obtain rfl : c = H := by omega
    have ex : mnX σ c c = neR σ c (2 * c) := if_neg (by omega)
    rw [ex] at g16 hl hv ⊢
    by_cases q : (neR σ c (2 * c)).2 = true
    · rw [if_pos q]
      by_cases q2 : (neR σ c (2 * c)).1 = n
      · have K := hon h1 f1 (hv q) q q2
        have hT := T_X12_faultOf46 (n := n) (Or.inr rfl) g16 g17 hl hb46 hn80 0 (by rw [if_pos ⟨rfl, q2⟩])
        clear hon hfl hv
        refine R_iload dX12_net_44 rfl (?_ : RR _ _ _ _ 46 _ _ _ _)
        refine R_iload_n dX12_net_46 rfl (?_ : RR _ _ _ _ 47 _ _ _ _)
        refine R_icmp_ge (t := 106) dX12_net_47 rfl (fun c47 => ?_) (fun c47 => ?_)
        rotate_left
        · exfalso; omega
        refine R_aload_n dX12_net_106 rfl (?_ : RR _ _ _ _ 107 _ _ _ _)
        refine R_iload_n dX12_net_107 rfl (?_ : RR _ _ _ _ 108 _ _ _ _)
        refine R_bipush dX12_net_108 rfl (?_ : RR _ _ _ _ 110 _ _ _ _)
        refine R_iload_n dX12_net_110 rfl (?_ : RR _ _ _ _ 111 _ _ _ _)
        refine R_cVi3 dX12_net_111 mvX12_faultOf mlX12_198 (by decide) (by decide) (Nat.le_of_ble_eq_true rfl) (Nat.le_of_ble_eq_true rfl) (hT) (?_ : RR _ _ _ _ 114 _ _ _ _)
        refine R_istore dX12_net_114 (Nat.le_of_ble_eq_true rfl) (?_ : RR _ _ _ _ 116 [_, _, _, _, _, _] _ _ _)
        refine R_iload dX12_net_116 rfl (?_ : RR _ _ _ _ 118 _ _ _ _)
        refine R_if_ge (t := 124) dX12_net_118 rfl (fun c118 => ?_) (fun c118 => ?_)
        rotate_left
        · exfalso; omega
        exact K
      · have K := MNE_106 (hh := c) (w4 := pI c) (Q := Q) (Or.inr rfl) g16 g17 hl hb46 hn80 (fun w => q2 w.2) rfl (hfl h1 f1 (Or.inr q2))
        clear hon hfl hv
        refine R_iload dX12_net_44 rfl (?_ : RR _ _ _ _ 46 _ _ _ _)
        refine R_iload_n dX12_net_46 rfl (?_ : RR _ _ _ _ 47 _ _ _ _)
        refine R_icmp_ge (t := 106) dX12_net_47 rfl (fun c47 => ?_) (fun c47 => ?_)
        rotate_left
        · exfalso; omega
        exact K
    · rw [if_neg q]
      have K := MNE_106 (hh := c) (w4 := pI c) (ok := 0) (Q := Q) (Or.inl rfl) g16 g17 hl hb46 hn80 (fun w => by omega) rfl (hfl h1 f1 (Or.inl (Bool.eq_false_iff.mpr q)))
      clear hon hfl hv
      refine R_iload dX12_net_44 rfl (?_ : RR _ _ _ _ 46 _ _ _ _)
      refine R_iload_n dX12_net_46 rfl (?_ : RR _ _ _ _ 47 _ _ _ _)
      refine R_icmp_ge (t := 106) dX12_net_47 rfl (fun c47 => ?_) (fun c47 => ?_)
      rotate_left
      · exfalso; omega
      exact K
  | succ j ih =>
    intro c h1 hc f1 g16 g17 hl hv
    by_cases q : (mnX σ H c).2 = true
    · rw [if_pos q]
      have hv := hv q
      have IH := ih (c + 1)
      have ex : mnX σ H (c + 1) = neR σ H (2 * c + 2) := if_neg (by omega)
      rw [ex] at IH
      have K99 : ∀ h2, mrF h h2 → h2 147 16 = ((neR σ H (2 * c + 2)).1 : Nat) → h2 147 17 = b → (neR σ H (2 * c + 2)).1 ≤ b → ((neR σ H (2 * c + 2)).2 = true → mnV σ H (2 * c + 2) h2) → RR mX12_net 3 0 0 99 [pR 147, pI n, pI H, pI 1, pI c, pU] [pI (if (neR σ H (2 * c + 2)).2 then 1 else 0)] (shp0, rf0, h2) Q := by
        intro h2 f2 g2 b2 l2 v2
        have K := IH h2 (by omega) f2 g2 b2 l2 v2
        clear IH ih hfl hon
        rw [show ((c + 1 : Nat) : Int) = (c : Int) + 1 by omega] at K
        generalize (if (neR σ H (2 * c + 2)).2 = true then (1 : Int) else 0) = y at *
        refine R_istore_n dX12_net_99 (Nat.le_of_ble_eq_true rfl) (?_ : RR _ _ _ _ 100 [_, _, _, _, _, _] _ _ _)
        refine R_iinc dX12_net_100 rfl (Nat.le_of_ble_eq_true rfl) (?_ : RR _ _ _ _ 103 [_, _, _, _, _, _] _ _ _)
        refine R_goto (t := 44) dX12_net_103 rfl (?_ : RR _ _ _ _ 44 _ _ _ _)
        exact K
      have K68 := fun h1 ho hS f1 g16 g17 hqb hv => MNE_68 (h := h) (h1 := h1) (n := n) (Q := Q) (c := c) (by omega) hH9 (by omega) hσ hσn ho hS f1 g16 g17 hqb hv K99
      clear IH ih hfl hon
      by_cases c0 : c = 0
      · subst c0
        have K := K68 h1 rfl q f1 g16 g17 hl hv
        clear K68 K99 hv
        refine R_iload dX12_net_44 rfl (?_ : RR _ _ _ _ 46 _ _ _ _)
        refine R_iload_n dX12_net_46 rfl (?_ : RR _ _ _ _ 47 _ _ _ _)
        refine R_icmp_ge (t := 106) dX12_net_47 rfl (fun c47 => ?_) (fun c47 => ?_)
        · exfalso; omega
        refine R_iload_n dX12_net_50 rfl (?_ : RR _ _ _ _ 51 _ _ _ _)
        refine R_if_eq (t := 106) dX12_net_51 rfl (fun c51 => ?_) (fun c51 => ?_)
        · exfalso; omega
        refine R_iload dX12_net_54 rfl (?_ : RR _ _ _ _ 56 _ _ _ _)
        refine R_if_eq (t := 68) dX12_net_56 rfl (fun c56 => ?_) (fun c56 => ?_)
        rotate_left
        · exfalso; omega
        exact K
      · have ex2 : mnX σ H c = neR σ H (2 * c) := if_neg c0
        rw [ex2] at q g16 hl
        have s1 := neR_s (σ := σ) (H := H) q
        have ht : ∀ p : Nat, p < b → 0 ≤ h1 156 p ∧ h1 156 p ≤ 255 := fun p hp => by rw [f1.1 156 (by omega) (by omega), (hσ p hp).1]; exact (hσ p hp).2
        have hT := T_X12_takes (c := 59) g16 g17 hl (by omega) ht (by omega)
        by_cases u : σ (neR σ H (2 * c)).1 = 59
        · have lb : (neR σ H (2 * c)).1 < b := by
            by_cases w : (neR σ H (2 * c)).1 < b
            · exact w
            · have := hσn _ (Nat.le_of_not_lt w); omega
          have eS : neS σ (2 * c) (neR σ H (2 * c)).1 = ((neR σ H (2 * c)).1 + 1, true) := by unfold neS; rw [if_pos (by omega), if_neg (show ¬ 2 * c = 0 by omega), if_pos u]
          have hcc : (neR σ H (2 * c)).1 < b ∧ h1 156 (neR σ H (2 * c)).1 = 59 := ⟨lb, by rw [f1.1 156 (by omega) (by omega), (hσ _ lb).1]; exact u⟩
          rw [if_pos hcc, if_pos hcc] at hT
          have K := K68 (rup h1 147 (fup (h1 147) 16 (((neR σ H (2 * c)).1 : Int) + 1))) q (by rw [eS]) ⟨fun a a1 a2 => by rw [rup_n a1]; exact f1.1 a a1 a2, fun j j1 j2 j3 j4 j5 j6 => by rw [rup_s, fup_n j3]; exact f1.2.1 j j1 j2 j3 j4 j5 j6, by rw [rup_s, fup_n (by omega)]; exact f1.2.2⟩ (by rw [eS, rup_s, fup_s]; rfl) (by rw [rup_s, fup_n (by omega)]; exact g17) (by rw [eS]; exact lb) (fun e he => by rw [rup_n (by omega)]; exact hv e he)
          generalize rup h1 147 (fup (h1 147) 16 (((neR σ H (2 * c)).1 : Int) + 1)) = h9 at *
          clear K68 K99 hv
          refine R_iload dX12_net_44 rfl (?_ : RR _ _ _ _ 46 _ _ _ _)
          refine R_iload_n dX12_net_46 rfl (?_ : RR _ _ _ _ 47 _ _ _ _)
          refine R_icmp_ge (t := 106) dX12_net_47 rfl (fun c47 => ?_) (fun c47 => ?_)
          · exfalso; omega
          refine R_iload_n dX12_net_50 rfl (?_ : RR _ _ _ _ 51 _ _ _ _)
          refine R_if_eq (t := 106) dX12_net_51 rfl (fun c51 => ?_) (fun c51 => ?_)
          · exfalso; omega
          refine R_iload dX12_net_54 rfl (?_ : RR _ _ _ _ 56 _ _ _ _)
          refine R_if_eq (t := 68) dX12_net_56 rfl (fun c56 => ?_) (fun c56 => ?_)
          · exfalso; omega
          refine R_aload_n dX12_net_59 rfl (?_ : RR _ _ _ _ 60 _ _ _ _)
          refine R_bipush dX12_net_60 rfl (?_ : RR _ _ _ _ 62 _ _ _ _)
          refine R_cVi1 dX12_net_62 mvX12_takes mlX12_182 (by decide) (by decide) (Nat.le_of_ble_eq_true rfl) (Nat.le_of_ble_eq_true rfl) (hT) (?_ : RR _ _ _ _ 65 _ _ _ _)
          refine R_if_eq (t := 98) dX12_net_65 rfl (fun c65 => ?_) (fun c65 => ?_)
          · exfalso; omega
          exact K
        · have eS : neS σ (2 * c) (neR σ H (2 * c)).1 = ((neR σ H (2 * c)).1, false) := by unfold neS; rw [if_pos (by omega), if_neg (show ¬ 2 * c = 0 by omega), if_neg u]
          have hcc : ¬ ((neR σ H (2 * c)).1 < b ∧ h1 156 (neR σ H (2 * c)).1 = 59) := fun w => u (by rw [← (hσ _ w.1).1, ← f1.1 156 (by omega) (by omega)]; exact w.2)
          rw [if_neg hcc, if_neg hcc, ← g16, fup_self, rup_self] at hT
          rw [eS] at s1
          have s1 : neR σ H (2 * c + 1) = ((neR σ H (2 * c)).1, false) := s1
          have s2 : neR σ H (2 * c + 2) = ((neR σ H (2 * c)).1, false) := neR_st s1 1
          rw [s2] at K99
          have K := K99 h1 f1 g16 g17 hl (fun w => by cases w)
          have K : RR mX12_net 3 0 0 99 [pR 147, pI n, pI H, pI 1, pI c, pU] [pI 0] (shp0, rf0, h1) Q := K
          clear K68 K99 hv
          refine R_iload dX12_net_44 rfl (?_ : RR _ _ _ _ 46 _ _ _ _)
          refine R_iload_n dX12_net_46 rfl (?_ : RR _ _ _ _ 47 _ _ _ _)
          refine R_icmp_ge (t := 106) dX12_net_47 rfl (fun c47 => ?_) (fun c47 => ?_)
          · exfalso; omega
          refine R_iload_n dX12_net_50 rfl (?_ : RR _ _ _ _ 51 _ _ _ _)
          refine R_if_eq (t := 106) dX12_net_51 rfl (fun c51 => ?_) (fun c51 => ?_)
          · exfalso; omega
          refine R_iload dX12_net_54 rfl (?_ : RR _ _ _ _ 56 _ _ _ _)
          refine R_if_eq (t := 68) dX12_net_56 rfl (fun c56 => ?_) (fun c56 => ?_)
          · exfalso; omega
          refine R_aload_n dX12_net_59 rfl (?_ : RR _ _ _ _ 60 _ _ _ _)
          refine R_bipush dX12_net_60 rfl (?_ : RR _ _ _ _ 62 _ _ _ _)
          refine R_cVi1 dX12_net_62 mvX12_takes mlX12_182 (by decide) (by decide) (Nat.le_of_ble_eq_true rfl) (Nat.le_of_ble_eq_true rfl) (hT) (?_ : RR _ _ _ _ 65 _ _ _ _)
          refine R_if_eq (t := 98) dX12_net_65 rfl (fun c65 => ?_) (fun c65 => ?_)
          rotate_left
          · exfalso; omega
          refine R_iconst dX12_net_98 (?_ : RR _ _ _ _ 99 _ _ _ _)
          exact K
    · rw [if_neg q]
      have hx : neR σ H (2 * H) = ((mnX σ H c).1, false) := by
        by_cases c0 : c = 0
        · subst c0
          have ex : mnX σ H 0 = neS σ 0 1 := rfl
          rw [ex] at q ⊢
          have s1 := neR_s (σ := σ) (H := H) (e := 0) rfl
          rw [show (neR σ H 0).1 = 1 from rfl, if_neg q] at s1
          have := neR_st s1 (2 * H - 1)
          rw [show 0 + 1 + (2 * H - 1) = 2 * H by omega] at this
          exact this
        · have ex2 : mnX σ H c = neR σ H (2 * c) := if_neg c0
          rw [ex2] at q ⊢
          have s1 : neR σ H (2 * c) = ((neR σ H (2 * c)).1, false) := by
            generalize neR σ H (2 * c) = x at *
            obtain ⟨a, y⟩ := x
            cases y
            · rfl
            · exact absurd rfl q
          have := neR_st s1 (2 * (H - c))
          rw [show 2 * c + 2 * (H - c) = 2 * H by omega] at this
          exact this
      rw [hx] at hfl
      have K := MNE_106 (hh := H) (w4 := pI c) (ok := 0) (Q := Q) (Or.inl rfl) g16 g17 hl hb46 hn80 (fun w => by omega) rfl (hfl h1 f1 (Or.inl rfl))
      clear hon hfl hv ih
      refine R_iload dX12_net_44 rfl (?_ : RR _ _ _ _ 46 _ _ _ _)
      refine R_iload_n dX12_net_46 rfl (?_ : RR _ _ _ _ 47 _ _ _ _)
      refine R_icmp_ge (t := 106) dX12_net_47 rfl (fun c47 => ?_) (fun c47 => ?_)
      · exfalso; omega
      refine R_iload_n dX12_net_50 rfl (?_ : RR _ _ _ _ 51 _ _ _ _)
      refine R_if_eq (t := 106) dX12_net_51 rfl (fun c51 => ?_) (fun c51 => ?_)
      rotate_left
      · exfalso; omega
      exact K
end NE9
