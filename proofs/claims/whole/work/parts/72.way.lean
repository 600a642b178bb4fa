section WA
variable {k : Nat} {h h1 h2 h3 h4 : Nat → Int → Int} {sem : Sem} {H np nc len : Nat} {a b v w : Int}
theorem beg_congr {ex mi ds ex' mi' ds' : Int → Int} {e w : Int} (h0 : 0 ≤ e) (h1 : e < 2 * H) (hw : 0 ≤ w ∧ w < H) (hx : ex' e = -1 ∨ (0 ≤ ex' e ∧ ex' e < H)) (he : ex e = ex' e ∧ mi e = mi' e) (hd : ∀ a b : Int, 0 ≤ a → a < H → 0 ≤ b → b < H → ds (a * 9 + b) = ds' (a * 9 + b)) : begW ex mi ds e w = begW ex' mi' ds' e w := by
  unfold begW
  rw [he.1, he.2]
  apply decide_eq_decide.mpr
  by_cases q : ex' e = -1
  · exact ⟨fun z => absurd q z.1, fun z => absurd q z.1⟩
  · rw [hd (ex' e) w (by omega) (by omega) hw.1 hw.2, hd (e / 2) w (by omega) (by omega) hw.1 hw.2]
/-- the least halt that a shortest way can come to next -/
def nxW (ex mi D : Int → Int) (w a : Int) : Int := min (if begW ex mi D (2 * a) w then ex (2 * a) else 9) (if begW ex mi D (2 * a + 1) w then ex (2 * a + 1) else 9)
theorem nxW_b {ex mi D : Int → Int} (hH : H ≤ 9) (hE : exK H ex mi) (hD : wyG H ex mi D) (ha : 0 ≤ a ∧ a < H) (hw : 0 ≤ w ∧ w < H) (hlt : D (a * 9 + w) < 100000) (hne : a ≠ w) : (0 ≤ nxW ex mi D w a ∧ nxW ex mi D w a < H) ∧ D (nxW ex mi D w a * 9 + w) < D (a * 9 + w) := by
  obtain ⟨hb, hz, ht, hx⟩ := hD
  obtain ⟨e, e0, e1, e2, e3, e4⟩ := ht a w ha.1 ha.2 hw.1 hw.2 hne hlt
  have ee := hE e e0 e1
  have e5 := hx e e0 e1 e3 w hw.1 hw.2
  rw [e2] at e5
  have l0 := hE (2 * a) (by omega) (by omega)
  have r0 := hE (2 * a + 1) (by omega) (by omega)
  have key : ∀ e : Int, e / 2 = a → begW ex mi D e w = true → ex e ≠ -1 ∧ mi e + D (ex e * 9 + w) = D (a * 9 + w) := fun e h1 h2 => by
    unfold begW at h2
    have := of_decide_eq_true h2
    rw [h1] at this
    exact this
  have hbe : begW ex mi D e w = true := by
    unfold begW
    rw [e2]
    exact decide_eq_true ⟨e3, by omega⟩
  have hee : e = 2 * a ∨ e = 2 * a + 1 := by omega
  have kl := key (2 * a) (by omega)
  have kr := key (2 * a + 1) (by omega)
  unfold nxW
  by_cases bl : begW ex mi D (2 * a) w = true
  · have kl := kl bl
    rw [if_pos bl]
    by_cases br : begW ex mi D (2 * a + 1) w = true
    · have kr := kr br
      rw [if_pos br]
      by_cases q : ex (2 * a) ≤ ex (2 * a + 1)
      · rw [show min (ex (2 * a)) (ex (2 * a + 1)) = ex (2 * a) by omega]
        omega
      · rw [show min (ex (2 * a)) (ex (2 * a + 1)) = ex (2 * a + 1) by omega]
        omega
    · rw [if_neg br, show min (ex (2 * a)) 9 = ex (2 * a) by omega]
      omega
  · rw [if_neg bl]
    have br : begW ex mi D (2 * a + 1) w = true := by
      rcases hee with y | y
      · rw [y] at hbe; exact absurd hbe bl
      · rw [y] at hbe; exact hbe
    have kr := kr br
    rw [if_pos br, show min 9 (ex (2 * a + 1)) = ex (2 * a + 1) by omega]
    omega
/-- the way, its last halt first -/
def paL (ex mi D : Int → Int) (w : Int) : Nat → Int → List Int → List Int
  | 0, _, L => L
  | j + 1, a, L => if a = w then L else paL ex mi D w j (nxW ex mi D w a) (nxW ex mi D w a :: L)
theorem paL_w {ex mi D : Int → Int} {L : List Int} : ∀ j, paL ex mi D w j w L = L
  | 0 => rfl
  | j + 1 => if_pos rfl
theorem paL_l {ex mi D : Int → Int} : ∀ (j : Nat) (a : Int) (L : List Int), (paL ex mi D w j a L).length ≤ j + L.length
  | 0, _, L => by show L.length ≤ 0 + L.length; omega
  | j + 1, a, L => by
    unfold paL
    split
    · omega
    · have := paL_l (ex := ex) (mi := mi) (D := D) j (nxW ex mi D w a) (nxW ex mi D w a :: L)
      rw [List.length_cons] at this
      omega
/-- ranks fall on a way -/
theorem wyK_z {ex mi D : Int → Int} (hE : exK H ex mi) (hD : wyG H ex mi D) (ha : 0 ≤ a ∧ a < H) (hw : 0 ≤ w ∧ w < H) (hlt : D (a * 9 + w) < 100000) (hk : wyK H D w a ≤ 0) : a = w := by
  refine Decidable.byContradiction (fun hne => ?_)
  obtain ⟨hb, hz, ht, hx⟩ := hD
  obtain ⟨e, e0, e1, e2, e3, e4⟩ := ht a w ha.1 ha.2 hw.1 hw.2 hne hlt
  have ee := hE e e0 e1
  by_cases q : H ≤ 9
  · have hbb := hb (ex e * 9 + w) (by omega) (by omega)
    have hzz := hz w hw.1 hw.2
    have := wyK_lt (H := H) (D := D) (a := a) (b := w) (c := w) hw (by omega)
    have := wyK_b (H := H) (D := D) (a := w) (b := w)
    omega
  · have hn : D (ex e * 9 + w) < D (a * 9 + w) := by omega
    have := wyK_lt (H := H) (D := D) (a := a) (b := w) (c := ex e) (by omega) hn
    have := wyK_b (H := H) (D := D) (a := ex e) (b := w)
    omega
theorem wyK_8 {D : Int → Int} (ha : 0 ≤ a ∧ a < H) : wyK H D w a ≤ (H : Int) - 1 := by
  unfold wyK
  have h1 := sm_lt (g := fun c : Nat => if D ((c : Int) * 9 + w) < D (a * 9 + w) then (1 : Int) else 0) (g' := fun _ => 1) (c := a.toNat) (n := H) (by omega) (by
    show (if D ((a.toNat : Int) * 9 + w) < D (a * 9 + w) then (1 : Int) else 0) < 1
    rw [show ((a.toNat : Nat) : Int) = a by omega, if_neg (by omega)]
    omega) (fun p _ => by show (if _ then (1 : Int) else 0) ≤ 1; split <;> omega)
  have h2 : ∀ n : Nat, sm (fun _ => 1) n = (n : Int) := fun n => by
    induction n with
    | zero => rfl
    | succ n ih => show sm (fun _ => 1) n + 1 = _; rw [ih]; rfl
  rw [h2] at h1
  omega
theorem A_way (hs : SRx k h sem H np nc len) (ha : r32 v) (hw : r32 w) : AG mX11_way mX12_way 3 2 [pI v, pI w] k h := by
  obtain ⟨b1, b2, b3, b4, hX, ⟨hE, hG⟩, hCO, -⟩ := hs.1
  have hH := sRH hs
  obtain ⟨hN, -, -, c4, c5, c6, -⟩ := hCO
  obtain ⟨-, -, -, -, x5, x6, x7, -⟩ := hX
  have x5 : exB (h 149) := x5
  have x6 : miB (h 150) := x6
  have x7 : farB (h 151) := x7
  have n3 := isNet_3
  by_cases q : (0 ≤ v ∧ v < H) ∧ 0 ≤ w ∧ w < H
  · have hvw := x7 (v * 9 + w) (by omega) (by omega)
    have e6 : h 6 (v * 9 + w) = nds (h 151) (v * 9 + w) := hN.2 v w (by omega) (by omega) (by omega) (by omega)
    have hnd : nds (h 151) (v * 9 + w) = if 1000000 ≤ h 151 (v * 9 + w) then 100000 else h 151 (v * 9 + w) := rfl
    by_cases y : 1000000 ≤ h 151 (v * 9 + w)
    · rw [if_pos y] at hnd
      refine A_q hs (z := -2) (o := none) (cQ_no (M := mX11_way) (d := 3) (As := [pR 0, pI v, pI w]) (MT.of (fun Q hQ => (?_ : RR mX11_way _ _ _ _ [pR 0, pI v, pI w, pU, pU, pU] _ _ _)))) (fun h3 e => mQ_thr (M := mX12_way) (d := 2) (As := [pR 147, pI v, pI w]) (MT.of (fun Q hQ => (?_ : RR mX12_way _ _ _ _ [pR 147, pI v, pI w, pU, pU, pU] _ _ _)))) (fun L e => by cases e)
      · refine R_aload_n dX11_way_0 rfl (?_ : RR _ _ _ _ 1 _ _ _ _)
        refine R_getr dX11_way_1 flX11_19 cok_11 rfl (by decide) (?_ : RR _ _ _ _ 4 _ _ _ _)
        refine R_iload_n dX11_way_4 rfl (?_ : RR _ _ _ _ 5 _ _ _ _)
        refine R_cVi1 dX11_way_5 mvX0_has mlX11_289 (by decide) (by decide) (Nat.le_of_ble_eq_true rfl) (Nat.le_of_ble_eq_true rfl) (T_X0_has) (?_ : RR _ _ _ _ 8 _ _ _ _)
        rw [b4, if_pos q.1]
        refine R_if_eq (t := 22) dX11_way_8 rfl (fun c8 => ?_) (fun c8 => ?_)
        · exfalso; omega
        refine R_aload_n dX11_way_11 rfl (?_ : RR _ _ _ _ 12 _ _ _ _)
        refine R_getr dX11_way_12 flX11_19 cok_11 rfl (by decide) (?_ : RR _ _ _ _ 15 _ _ _ _)
        refine R_iload_n dX11_way_15 rfl (?_ : RR _ _ _ _ 16 _ _ _ _)
        refine R_cVi1 dX11_way_16 mvX0_has mlX11_289 (by decide) (by decide) (Nat.le_of_ble_eq_true rfl) (Nat.le_of_ble_eq_true rfl) (T_X0_has) (?_ : RR _ _ _ _ 19 _ _ _ _)
        rw [b4, if_pos q.2]
        refine R_if_ne (t := 24) dX11_way_19 rfl (fun c19 => ?_) (fun c19 => ?_)
        rotate_left
        · exfalso; omega
        refine R_aload_n dX11_way_24 rfl (?_ : RR _ _ _ _ 25 _ _ _ _)
        refine R_getr dX11_way_25 flX11_19 cok_11 rfl (by decide) (?_ : RR _ _ _ _ 28 _ _ _ _)
        refine R_iload_n dX11_way_28 rfl (?_ : RR _ _ _ _ 29 _ _ _ _)
        refine R_iload_n dX11_way_29 rfl (?_ : RR _ _ _ _ 30 _ _ _ _)
        refine R_cVi2 dX11_way_30 mvX0_between mlX11_290 (by decide) (by decide) (Nat.le_of_ble_eq_true rfl) (Nat.le_of_ble_eq_true rfl) (T_X0_between) (?_ : RR _ _ _ _ 33 _ _ _ _)
        show RR _ _ _ _ _ _ (pI (h 6 (v * 9 + w)) :: _) _ _
        rw [e6, hnd]
        refine R_istore_n dX11_way_33 (Nat.le_of_ble_eq_true rfl) (?_ : RR _ _ _ _ 34 [_, _, _, _, _, _] _ _ _)
        refine R_iload_n dX11_way_34 rfl (?_ : RR _ _ _ _ 35 _ _ _ _)
        refine R_ldcw (z := 100000) dX11_way_35 kwX11_293 (?_ : RR _ _ _ _ 38 _ _ _ _)
        refine R_icmp_lt (t := 44) dX11_way_38 rfl (fun c38 => ?_) (fun c38 => ?_)
        · exfalso; omega
        refine R_bipush dX11_way_41 rfl (?_ : RR _ _ _ _ 43 _ _ _ _)
        exact R_ireturn dX11_way_43 trivial hQ
      · have g3 : h3 147 3 = H := by rw [e 147 (by omega)]; exact b1
        have g151 : h3 151 = h 151 := e 151 (by omega)
        refine R_aload_n dX12_way_0 rfl (?_ : RR _ _ _ _ 1 _ _ _ _)
        refine R_iconst dX12_way_1 (?_ : RR _ _ _ _ 2 _ _ _ _)
        refine R_puti (zk := 0) dX12_way_2 flX12_106 cok_12 (by decide) (fun q hq => by cases hq; rfl) rfl (?_ : RR _ _ _ _ 5 _ _ _ _)
        try simp (disch := omega) only [rup_rup, rup_sort, rupS_def, rup_s, rup_n, fup_fup, fup_s, fup_n]
        refine R_aload_n dX12_way_5 rfl (?_ : RR _ _ _ _ 6 _ _ _ _)
        refine R_iload_n dX12_way_6 rfl (?_ : RR _ _ _ _ 7 _ _ _ _)
        refine R_cVi1 dX12_way_7 mvX12_isHalt mlX12_306 (by decide) (by decide) (Nat.le_of_ble_eq_true rfl) (Nat.le_of_ble_eq_true rfl) (T_X12_isHalt (by simp (disch := omega) only [rup_s, fup_n]; rw [g3]; omega)) (?_ : RR _ _ _ _ 10 _ _ _ _)
        try simp (disch := omega) only [rup_rup, rup_sort, rupS_def, rup_s, rup_n, fup_fup, fup_s, fup_n]
        rw [g3, if_pos (by omega)]
        refine R_if_eq (t := 21) dX12_way_10 rfl (fun c10 => ?_) (fun c10 => ?_)
        · exfalso; omega
        refine R_aload_n dX12_way_13 rfl (?_ : RR _ _ _ _ 14 _ _ _ _)
        refine R_iload_n dX12_way_14 rfl (?_ : RR _ _ _ _ 15 _ _ _ _)
        refine R_cVi1 dX12_way_15 mvX12_isHalt mlX12_306 (by decide) (by decide) (Nat.le_of_ble_eq_true rfl) (Nat.le_of_ble_eq_true rfl) (T_X12_isHalt (by simp (disch := omega) only [rup_s, fup_n]; rw [g3]; omega)) (?_ : RR _ _ _ _ 18 _ _ _ _)
        try simp (disch := omega) only [rup_rup, rup_sort, rupS_def, rup_s, rup_n, fup_fup, fup_s, fup_n]
        rw [g3, if_pos (by omega)]
        refine R_if_ne (t := 23) dX12_way_18 rfl (fun c18 => ?_) (fun c18 => ?_)
        rotate_left
        · exfalso; omega
        refine R_aload_n dX12_way_23 rfl (?_ : RR _ _ _ _ 24 _ _ _ _)
        refine R_iload_n dX12_way_24 rfl (?_ : RR _ _ _ _ 25 _ _ _ _)
        refine R_iload_n dX12_way_25 rfl (?_ : RR _ _ _ _ 26 _ _ _ _)
        refine R_cVi2 dX12_way_26 mvX12_farOf mlX12_145 (by decide) (by decide) (Nat.le_of_ble_eq_true rfl) (Nat.le_of_ble_eq_true rfl) (T_X12_farOf) (?_ : RR _ _ _ _ 29 _ _ _ _)
        try simp (disch := omega) only [rup_rup, rup_sort, rupS_def, rup_s, rup_n, fup_fup, fup_s, fup_n]
        rw [g151]
        refine R_ldc (z := 1000000) dX12_way_29 kwX12_138 (?_ : RR _ _ _ _ 31 _ _ _ _)
        refine R_icmp_lt (t := 37) dX12_way_31 rfl (fun c31 => ?_) (fun c31 => ?_)
        · exfalso; omega
        refine R_bipush dX12_way_34 rfl (?_ : RR _ _ _ _ 36 _ _ _ _)
        exact R_ireturn dX12_way_36 trivial hQ
    · rw [if_neg y] at hnd
      obtain ⟨D, hDe⟩ : ∃ D, D = nds (h 151) := ⟨_, rfl⟩
      obtain ⟨N, hNe⟩ : ∃ N : Int → Int, N = nxW (h 149) (h 150) D w := ⟨_, rfl⟩
      obtain ⟨P, hPe⟩ : ∃ P : Nat → Int → List Int → List Int, P = paL (h 149) (h 150) D w := ⟨_, rfl⟩
      rw [← hDe] at hG e6 hnd
      have hDlt : ∀ a : Int, 0 ≤ a → a < H → D (a * 9 + w) < 100000 → h 151 (a * 9 + w) < 1000000 := fun a a0 a1 hd => by
        rw [hDe] at hd
        unfold nds at hd
        split at hd <;> omega
      have hNb : ∀ a : Int, 0 ≤ a → a < H → D (a * 9 + w) < 100000 → a ≠ w → (0 ≤ N a ∧ N a < H) ∧ D (N a * 9 + w) < D (a * 9 + w) := fun a a0 a1 hd hne => by rw [hNe]; exact nxW_b hH.2 hE hG ⟨a0, a1⟩ q.2 hd hne
      have hPs : ∀ (j : Nat) (a : Int) (L : List Int), a ≠ w → P (j + 1) a L = P j (N a) (N a :: L) := fun j a L hne => by rw [hPe, hNe]; exact if_neg hne
      have hPw : ∀ (j : Nat) (L : List Int), P j w L = L := fun j L => by rw [hPe]; exact paL_w j
      refine A_q hs (z := h 151 (v * 9 + w)) (o := some (P 8 v [v]).reverse) ?_ (fun h3 e => ?_) (fun L e => by
        injection e with e; subst e
        rw [List.length_reverse, hPe]
        have := paL_l (ex := h 149) (mi := h 150) (D := D) (w := w) 8 v [v]
        rw [List.length_singleton] at this
        omega)
      · show RR _ _ _ _ _ [pR 0, pI v, pI w, pU, pU, pU] _ _ _
        have L : ∀ (j i : Nat) (a : Int) (L : List Int), i + j = 8 → L.length = i + 1 → 0 ≤ a → a < H → D (a * 9 + w) < 100000 → wyK H D w a ≤ j → P j a L = P 8 v [v] → RR mX11_way 3 0 0 66 [pR 0, pI v, pI w, pI (h 151 (v * 9 + w)), pI a, pI i] [] (shp0, rf0, tlR h L) (cQ h (h 151 (v * 9 + w)) (some (P 8 v [v]).reverse)) := by
          intro j
          induction j with
          | zero =>
            intro i a L hi hL a0 a1 hd hk hP
            obtain rfl : a = w := wyK_z hE hG ⟨a0, a1⟩ q.2 hd (by omega)
            rw [hPw] at hP
            refine R_iload dX11_way_66 rfl (?_ : RR _ _ _ _ 68 _ _ _ _)
            refine R_bipush dX11_way_68 rfl (?_ : RR _ _ _ _ 70 _ _ _ _)
            refine R_icmp_ge (t := 107) dX11_way_70 rfl (fun c70 => ?_) (fun c70 => ?_)
            · exfalso; omega
            refine R_iload dX11_way_73 rfl (?_ : RR _ _ _ _ 75 _ _ _ _)
            refine R_iload_n dX11_way_75 rfl (?_ : RR _ _ _ _ 76 _ _ _ _)
            refine R_icmp_eq (t := 107) dX11_way_76 rfl (fun c76 => ?_) (fun c76 => ?_)
            rotate_left
            · exfalso; omega
            refine R_iload_n dX11_way_107 rfl (?_ : RR _ _ _ _ 108 _ _ _ _)
            exact R_ireturn dX11_way_108 trivial (cQ_tl cqF_rf (by rw [hP]))
          | succ j ih =>
            intro i a L hi hL a0 a1 hd hk hP
            by_cases z : a = w
            · subst z
              rw [hPw] at hP
              refine R_iload dX11_way_66 rfl (?_ : RR _ _ _ _ 68 _ _ _ _)
              refine R_bipush dX11_way_68 rfl (?_ : RR _ _ _ _ 70 _ _ _ _)
              refine R_icmp_ge (t := 107) dX11_way_70 rfl (fun c70 => ?_) (fun c70 => ?_)
              · exfalso; omega
              refine R_iload dX11_way_73 rfl (?_ : RR _ _ _ _ 75 _ _ _ _)
              refine R_iload_n dX11_way_75 rfl (?_ : RR _ _ _ _ 76 _ _ _ _)
              refine R_icmp_eq (t := 107) dX11_way_76 rfl (fun c76 => ?_) (fun c76 => ?_)
              rotate_left
              · exfalso; omega
              refine R_iload_n dX11_way_107 rfl (?_ : RR _ _ _ _ 108 _ _ _ _)
              exact R_ireturn dX11_way_108 trivial (cQ_tl cqF_rf (by rw [hP]))
            · obtain ⟨m1, m2⟩ := hNb a a0 a1 hd z
              rw [hPs j a L z] at hP
              have hkl := wyK_lt (H := H) (D := D) (a := a) (b := w) (c := N a) m1 m2
              have hnx : nextS (tlR h L (3 + 1)) (tlR h L (3 + 2)) (tlR h L (3 + 3)) a w = N a := by
                rw [tlR_n (by omega) (by omega), tlR_n (by omega) (by omega), tlR_n (by omega) (by omega)]
                have x1 := hE (2 * a) (by omega) (by omega)
                have x2 := hE (2 * a + 1) (by omega) (by omega)
                have y1 := beg_congr (ex := h (3 + 1)) (mi := h (3 + 2)) (ds := h (3 + 3)) (ex' := h 149) (mi' := h 150) (ds' := D) (e := 2 * a) (w := w) (H := H) (by omega) (by omega) q.2 (by omega) (hN.1 _ (by omega) (by omega)) (fun a b a0 a1 b0 b1 => by rw [hDe]; exact hN.2 a b a0 a1 b0 b1)
                have y2 := beg_congr (ex := h (3 + 1)) (mi := h (3 + 2)) (ds := h (3 + 3)) (ex' := h 149) (mi' := h 150) (ds' := D) (e := 2 * a + 1) (w := w) (H := H) (by omega) (by omega) q.2 (by omega) (hN.1 _ (by omega) (by omega)) (fun a b a0 a1 b0 b1 => by rw [hDe]; exact hN.2 a b a0 a1 b0 b1)
                have z1 : h (3 + 1) (2 * a) = h 149 (2 * a) := (hN.1 (2 * a) (by omega) (by omega)).1
                have z2 : h (3 + 1) (2 * a + 1) = h 149 (2 * a + 1) := (hN.1 (2 * a + 1) (by omega) (by omega)).1
                unfold nextS
                rw [y1, y2, z1, z2]
                have hN9 : min (if begW (h 149) (h 150) D (2 * a) w then h 149 (2 * a) else 9) (if begW (h 149) (h 150) D (2 * a + 1) w then h 149 (2 * a + 1) else 9) = N a := by rw [hNe]; rfl
                rw [hN9, if_pos (by omega)]
              have hE1 : exB (tlR h L (3 + 1)) := by rw [tlR_n (by omega) (by omega)]; exact c4
              have hM1 : miB (tlR h L (3 + 2)) := by rw [tlR_n (by omega) (by omega)]; exact c5
              have hB1 : bnd (tlR h L (3 + 3)) := by rw [tlR_n (by omega) (by omega)]; exact c6
              refine R_iload dX11_way_66 rfl (?_ : RR _ _ _ _ 68 _ _ _ _)
              refine R_bipush dX11_way_68 rfl (?_ : RR _ _ _ _ 70 _ _ _ _)
              refine R_icmp_ge (t := 107) dX11_way_70 rfl (fun c70 => ?_) (fun c70 => ?_)
              · exfalso; omega
              refine R_iload dX11_way_73 rfl (?_ : RR _ _ _ _ 75 _ _ _ _)
              refine R_iload_n dX11_way_75 rfl (?_ : RR _ _ _ _ 76 _ _ _ _)
              refine R_icmp_eq (t := 107) dX11_way_76 rfl (fun c76 => ?_) (fun c76 => ?_)
              · exfalso; omega
              refine R_aload_n dX11_way_79 rfl (?_ : RR _ _ _ _ 80 _ _ _ _)
              refine R_getr dX11_way_80 flX11_19 cok_11 rfl (by decide) (?_ : RR _ _ _ _ 83 _ _ _ _)
              refine R_iload dX11_way_83 rfl (?_ : RR _ _ _ _ 85 _ _ _ _)
              refine R_iload_n dX11_way_85 rfl (?_ : RR _ _ _ _ 86 _ _ _ _)
              refine R_cVi2 dX11_way_86 mvX0_nextOnWay mlX11_294 (by decide) (by decide) (Nat.le_of_ble_eq_true rfl) (Nat.le_of_ble_eq_true rfl) (T_X0_nextOnWay hE1 hM1 hB1) (?_ : RR _ _ _ _ 89 _ _ _ _)
              rw [hnx]
              refine R_istore dX11_way_89 (Nat.le_of_ble_eq_true rfl) (?_ : RR _ _ _ _ 91 [_, _, _, _, _, _] _ _ _)
              refine R_aload_n dX11_way_91 rfl (?_ : RR _ _ _ _ 92 _ _ _ _)
              refine R_getr dX11_way_92 flX11_87 cok_11 rfl (by decide) (?_ : RR _ _ _ _ 95 _ _ _ _)
              refine R_iload dX11_way_95 rfl (?_ : RR _ _ _ _ 97 _ _ _ _)
              refine R_i2l dX11_way_97 (by first | assumption | omega) (?_ : RR _ _ _ _ 98 _ _ _ _)
              refine R_cVv1 dX11_way_98 mvX3_add mlX11_243 (by decide) (by decide) (Nat.le_of_ble_eq_true rfl) (Nat.le_of_ble_eq_true rfl) (T_tla (by omega) (by omega)) (?_ : RR _ _ _ _ 101 _ _ _ _)
              refine R_iinc dX11_way_101 rfl (Nat.le_of_ble_eq_true rfl) (?_ : RR _ _ _ _ 104 [_, _, _, _, _, _] _ _ _)
              refine R_goto (t := 66) dX11_way_104 rfl (?_ : RR _ _ _ _ 66 _ _ _ _)
              exact ih (i + 1) (N a) (N a :: L) (by omega) (by rw [List.length_cons, hL]) m1.1 m1.2 (by omega) (by omega) hP
        have k8 := wyK_8 (H := H) (D := D) (a := v) (w := w) q.1
        refine R_aload_n dX11_way_0 rfl (?_ : RR _ _ _ _ 1 _ _ _ _)
        refine R_getr dX11_way_1 flX11_19 cok_11 rfl (by decide) (?_ : RR _ _ _ _ 4 _ _ _ _)
        refine R_iload_n dX11_way_4 rfl (?_ : RR _ _ _ _ 5 _ _ _ _)
        refine R_cVi1 dX11_way_5 mvX0_has mlX11_289 (by decide) (by decide) (Nat.le_of_ble_eq_true rfl) (Nat.le_of_ble_eq_true rfl) (T_X0_has) (?_ : RR _ _ _ _ 8 _ _ _ _)
        rw [b4, if_pos q.1]
        refine R_if_eq (t := 22) dX11_way_8 rfl (fun c8 => ?_) (fun c8 => ?_)
        · exfalso; omega
        refine R_aload_n dX11_way_11 rfl (?_ : RR _ _ _ _ 12 _ _ _ _)
        refine R_getr dX11_way_12 flX11_19 cok_11 rfl (by decide) (?_ : RR _ _ _ _ 15 _ _ _ _)
        refine R_iload_n dX11_way_15 rfl (?_ : RR _ _ _ _ 16 _ _ _ _)
        refine R_cVi1 dX11_way_16 mvX0_has mlX11_289 (by decide) (by decide) (Nat.le_of_ble_eq_true rfl) (Nat.le_of_ble_eq_true rfl) (T_X0_has) (?_ : RR _ _ _ _ 19 _ _ _ _)
        rw [b4, if_pos q.2]
        refine R_if_ne (t := 24) dX11_way_19 rfl (fun c19 => ?_) (fun c19 => ?_)
        rotate_left
        · exfalso; omega
        refine R_aload_n dX11_way_24 rfl (?_ : RR _ _ _ _ 25 _ _ _ _)
        refine R_getr dX11_way_25 flX11_19 cok_11 rfl (by decide) (?_ : RR _ _ _ _ 28 _ _ _ _)
        refine R_iload_n dX11_way_28 rfl (?_ : RR _ _ _ _ 29 _ _ _ _)
        refine R_iload_n dX11_way_29 rfl (?_ : RR _ _ _ _ 30 _ _ _ _)
        refine R_cVi2 dX11_way_30 mvX0_between mlX11_290 (by decide) (by decide) (Nat.le_of_ble_eq_true rfl) (Nat.le_of_ble_eq_true rfl) (T_X0_between) (?_ : RR _ _ _ _ 33 _ _ _ _)
        show RR _ _ _ _ _ _ (pI (h 6 (v * 9 + w)) :: _) _ _
        rw [e6, hnd]
        refine R_istore_n dX11_way_33 (Nat.le_of_ble_eq_true rfl) (?_ : RR _ _ _ _ 34 [_, _, _, _, _, _] _ _ _)
        refine R_iload_n dX11_way_34 rfl (?_ : RR _ _ _ _ 35 _ _ _ _)
        refine R_ldcw (z := 100000) dX11_way_35 kwX11_293 (?_ : RR _ _ _ _ 38 _ _ _ _)
        refine R_icmp_lt (t := 44) dX11_way_38 rfl (fun c38 => ?_) (fun c38 => ?_)
        rotate_left
        · exfalso; omega
        refine R_aload_n dX11_way_44 rfl (?_ : RR _ _ _ _ 45 _ _ _ _)
        refine R_getr dX11_way_45 flX11_87 cok_11 rfl (by decide) (?_ : RR _ _ _ _ 48 _ _ _ _)
        refine R_cVv0 dX11_way_48 mvX3_clear mlX11_239 (by decide) (by decide) (Nat.le_of_ble_eq_true rfl) (Nat.le_of_ble_eq_true rfl) (T_tlc) (?_ : RR _ _ _ _ 51 _ _ _ _)
        refine R_aload_n dX11_way_51 rfl (?_ : RR _ _ _ _ 52 _ _ _ _)
        refine R_getr dX11_way_52 flX11_87 cok_11 rfl (by decide) (?_ : RR _ _ _ _ 55 _ _ _ _)
        refine R_iload_n dX11_way_55 rfl (?_ : RR _ _ _ _ 56 _ _ _ _)
        refine R_i2l dX11_way_56 (by first | assumption | omega) (?_ : RR _ _ _ _ 57 _ _ _ _)
        refine R_cVv1 dX11_way_57 mvX3_add mlX11_243 (by decide) (by decide) (Nat.le_of_ble_eq_true rfl) (Nat.le_of_ble_eq_true rfl) (T_tla (by simp) (by omega)) (?_ : RR _ _ _ _ 60 _ _ _ _)
        refine R_iload_n dX11_way_60 rfl (?_ : RR _ _ _ _ 61 _ _ _ _)
        refine R_istore dX11_way_61 (Nat.le_of_ble_eq_true rfl) (?_ : RR _ _ _ _ 63 [_, _, _, _, _, _] _ _ _)
        refine R_iconst dX11_way_63 (?_ : RR _ _ _ _ 64 _ _ _ _)
        refine R_istore dX11_way_64 (Nat.le_of_ble_eq_true rfl) (?_ : RR _ _ _ _ 66 [_, _, _, _, _, _] _ _ _)
        exact L 8 0 v [v] (by omega) rfl (by omega) (by omega) (by omega) (by omega) rfl
      · show RR _ _ _ _ _ [pR 147, pI v, pI w, pU, pU, pU] _ _ _
        have g3 : h3 147 3 = H := by rw [e 147 (by omega)]; exact b1
        obtain ⟨h4, h4e⟩ : ∃ h4, h4 = rup h3 147 (fup (h3 147) 0 0) := ⟨_, rfl⟩
        have f4 : ∀ a, a ≠ 147 → 147 ≤ a → h4 a = h a := fun a a1 a2 => by rw [h4e, rup_n a1]; exact e a a2
        have hmq : mqF h3 h4 := by
          rw [h4e]
          exact ⟨fun a q => by rw [rup_n (by omega)], fun j q => by rw [rup_s, fup_n (by omega)], fun q => by rw [rup_s, fup_n (by omega)]; exact q, fun j q => by rw [rup_n (by omega)]⟩
        have g3' : h4 147 3 = H := by rw [h4e, rup_s, fup_n (by omega)]; exact g3
        have L : ∀ (j i : Nat) (a : Int) (w4 w5 : PV) (L : List Int), i + j = 8 → L.length = i + 1 → 0 ≤ a → a < H → D (a * 9 + w) < 100000 → wyK H D w a ≤ j → P j a L = P 8 v [v] → RR mX12_way 2 0 0 50 [pR 147, pI v, pI w, pI a, w4, w5] [] (shp0, rf0, tmR h4 L) (mQ h3 (h 151 (v * 9 + w)) (some (P 8 v [v]).reverse)) := by
          intro j
          have E : ∀ (a : Int) (w4 w5 : PV) (L : List Int), a = w → L = P 8 v [v] → RR mX12_way 2 0 0 50 [pR 147, pI v, pI w, pI a, w4, w5] [] (shp0, rf0, tmR h4 L) (mQ h3 (h 151 (v * 9 + w)) (some (P 8 v [v]).reverse)) := by
            intro a w4 w5 L ha hP
            have g151 : tmR h4 L 151 = h 151 := by rw [tmR_n (by omega) (by omega)]; exact f4 151 (by omega) (by omega)
            refine R_iload_n dX12_way_50 rfl (?_ : RR _ _ _ _ 51 _ _ _ _)
            refine R_iload_n dX12_way_51 rfl (?_ : RR _ _ _ _ 52 _ _ _ _)
            refine R_icmp_eq (t := 120) dX12_way_52 rfl (fun c52 => ?_) (fun c52 => ?_)
            rotate_left
            · exfalso; omega
            refine R_aload_n dX12_way_120 rfl (?_ : RR _ _ _ _ 121 _ _ _ _)
            refine R_iload_n dX12_way_121 rfl (?_ : RR _ _ _ _ 122 _ _ _ _)
            refine R_iload_n dX12_way_122 rfl (?_ : RR _ _ _ _ 123 _ _ _ _)
            refine R_cVi2 dX12_way_123 mvX12_farOf mlX12_145 (by decide) (by decide) (Nat.le_of_ble_eq_true rfl) (Nat.le_of_ble_eq_true rfl) (T_X12_farOf) (?_ : RR _ _ _ _ 126 _ _ _ _)
            rw [g151]
            exact R_ireturn dX12_way_126 trivial (mQ_tm hmq (by rw [hP]))
          induction j with
          | zero =>
            intro i a w4 w5 L hi hL a0 a1 hd hk hP
            have z : a = w := wyK_z hE hG ⟨a0, a1⟩ q.2 hd (by omega)
            rw [z, hPw] at hP
            exact E a w4 w5 L z hP
          | succ j ih =>
            intro i a w4 w5 L hi hL a0 a1 hd hk hP
            by_cases z : a = w
            · rw [z, hPw] at hP
              exact E a w4 w5 L z hP
            · obtain ⟨m1, m2⟩ := hNb a a0 a1 hd z
              rw [hPs j a L z] at hP
              have hkl := wyK_lt (H := H) (D := D) (a := a) (b := w) (c := N a) m1 m2
              have hN9 : N a = min (if begW (h 149) (h 150) D (2 * a) w then h 149 (2 * a) else 9) (if begW (h 149) (h 150) D (2 * a + 1) w then h 149 (2 * a + 1) else 9) := by rw [hNe]; rfl
              have x1 := hE (2 * a) (by omega) (by omega)
              have x2 := hE (2 * a + 1) (by omega) (by omega)
              have g149 : tmR h4 L 149 = h 149 := by rw [tmR_n (by omega) (by omega)]; exact f4 149 (by omega) (by omega)
              have g150 : tmR h4 L 150 = h 150 := by rw [tmR_n (by omega) (by omega)]; exact f4 150 (by omega) (by omega)
              have g151 : tmR h4 L 151 = h 151 := by rw [tmR_n (by omega) (by omega)]; exact f4 151 (by omega) (by omega)
              have hlt := hDlt a a0 a1 hd
              have hbg : ∀ x : Int, 0 ≤ x ∧ x < 2 → MT mX12_beginsWay 1 [pR 147, pI a, pI w, pI x] (tmR h4 L) (some (pI (if begW (h 149) (h 150) D (2 * a + x) w then 1 else 0))) (tmR h4 L) := fun x hx => by
                have := T_X12_beginsWay (h := tmR h4 L) (a := a) (w := w) (x := x) (by rw [g149]; exact x5) (by rw [g150]; exact x6) (by rw [g151]; exact x7) (hlt := by rw [g151]; exact hlt)
                rw [g149, g150, g151, ← hDe] at this
                exact this
              have K3 : ∀ w5 : PV, RR mX12_way 2 0 0 108 [pR 147, pI v, pI w, pI a, pI (N a), w5] [] (shp0, rf0, tmR h4 L) (mQ h3 (h 151 (v * 9 + w)) (some (P 8 v [v]).reverse)) := by
                intro w5
                refine R_iload dX12_way_108 rfl (?_ : RR _ _ _ _ 110 _ _ _ _)
                refine R_istore_n dX12_way_110 (Nat.le_of_ble_eq_true rfl) (?_ : RR _ _ _ _ 111 [_, _, _, _, _, _] _ _ _)
                refine R_aload_n dX12_way_111 rfl (?_ : RR _ _ _ _ 112 _ _ _ _)
                refine R_iload_n dX12_way_112 rfl (?_ : RR _ _ _ _ 113 _ _ _ _)
                refine R_i2l dX12_way_113 (by first | assumption | omega) (?_ : RR _ _ _ _ 114 _ _ _ _)
                refine R_cVv1 dX12_way_114 mvX12_enters mlX12_116 (by decide) (by decide) (Nat.le_of_ble_eq_true rfl) (Nat.le_of_ble_eq_true rfl) (T_tma (by omega) (by omega)) (?_ : RR _ _ _ _ 117 _ _ _ _)
                refine R_goto (t := 50) dX12_way_117 rfl (?_ : RR _ _ _ _ 50 _ _ _ _)
                exact ih (i + 1) (N a) _ _ (N a :: L) (by omega) (by rw [List.length_cons, hL]) m1.1 m1.2 (by omega) (by omega) hP
              have K2 : ∀ m : Int, m = (if begW (h 149) (h 150) D (2 * a) w then h 149 (2 * a) else 9) → RR mX12_way 2 0 0 62 [pR 147, pI v, pI w, pI a, pI m, pI 1] [] (shp0, rf0, tmR h4 L) (mQ h3 (h 151 (v * 9 + w)) (some (P 8 v [v]).reverse)) := by
                intro m hm
                have hmb : 0 ≤ m ∧ m ≤ 9 := by
                  rw [hm]
                  split
                  · rename_i y
                    unfold begW at y
                    have := of_decide_eq_true y
                    omega
                  · omega
                rw [← hm] at hN9
                have hb1 := hbg 1 (by omega)
                by_cases y : begW (h 149) (h 150) D (2 * a + 1) w = true
                · rw [if_pos y] at hN9 hb1
                  have K3' := K3
                  rw [hN9] at K3'
                  refine R_iload dX12_way_62 rfl (?_ : RR _ _ _ _ 64 _ _ _ _)
                  refine R_iconst dX12_way_64 (?_ : RR _ _ _ _ 65 _ _ _ _)
                  refine R_icmp_ge (t := 108) dX12_way_65 rfl (fun c65 => ?_) (fun c65 => ?_)
                  · exfalso; omega
                  refine R_aload_n dX12_way_68 rfl (?_ : RR _ _ _ _ 69 _ _ _ _)
                  refine R_iload_n dX12_way_69 rfl (?_ : RR _ _ _ _ 70 _ _ _ _)
                  refine R_iload_n dX12_way_70 rfl (?_ : RR _ _ _ _ 71 _ _ _ _)
                  refine R_iload dX12_way_71 rfl (?_ : RR _ _ _ _ 73 _ _ _ _)
                  refine R_cVi3 dX12_way_73 mvX12_beginsWay mlX12_284 (by decide) (by decide) (Nat.le_of_ble_eq_true rfl) (Nat.le_of_ble_eq_true rfl) (hb1) (?_ : RR _ _ _ _ 76 _ _ _ _)
                  refine R_if_eq (t := 98) dX12_way_76 rfl (fun c76 => ?_) (fun c76 => ?_)
                  · exfalso; omega
                  refine R_iload dX12_way_79 rfl (?_ : RR _ _ _ _ 81 _ _ _ _)
                  refine R_aload_n dX12_way_81 rfl (?_ : RR _ _ _ _ 82 _ _ _ _)
                  refine R_getr dX12_way_82 flX12_17 cok_12 rfl (by decide) (?_ : RR _ _ _ _ 85 _ _ _ _)
                  refine R_iconst dX12_way_85 (?_ : RR _ _ _ _ 86 _ _ _ _)
                  refine R_iload_n dX12_way_86 rfl (?_ : RR _ _ _ _ 87 _ _ _ _)
                  refine R_imul dX12_way_87 (?_ : RR _ _ _ _ 88 _ _ _ _)
                  refine R_iload dX12_way_88 rfl (?_ : RR _ _ _ _ 90 _ _ _ _)
                  refine R_iadd dX12_way_90 (?_ : RR _ _ _ _ 91 _ _ _ _)
                  refine R_iald dX12_way_91 (fun q91 => (?_ : RR _ _ _ _ 92 _ _ _ _))
                  rw [g149] at q91 ⊢
                  refine R_min dX12_way_92 mmX12_139 (by decide) (Nat.le_of_ble_eq_true rfl) (?_ : RR _ _ _ _ 95 _ _ _ _)
                  refine R_goto (t := 100) dX12_way_95 rfl (?_ : RR _ _ _ _ 100 _ _ _ _)
                  refine R_istore dX12_way_100 (Nat.le_of_ble_eq_true rfl) (?_ : RR _ _ _ _ 102 [_, _, _, _, _, _] _ _ _)
                  refine R_iinc dX12_way_102 rfl (Nat.le_of_ble_eq_true rfl) (?_ : RR _ _ _ _ 105 [_, _, _, _, _, _] _ _ _)
                  refine R_goto (t := 62) dX12_way_105 rfl (?_ : RR _ _ _ _ 62 _ _ _ _)
                  refine R_iload (pc := 62) dX12_way_62 rfl (?_ : RR _ _ _ _ 64 _ _ _ _)
                  refine R_iconst dX12_way_64 (?_ : RR _ _ _ _ 65 _ _ _ _)
                  refine R_icmp_ge (t := 108) dX12_way_65 rfl (fun c65 => ?_) (fun c65 => ?_)
                  · exact K3' _
                  · exfalso; omega
                · rw [if_neg y] at hN9 hb1
                  have K3' := K3
                  rw [hN9, show min m 9 = m by omega] at K3'
                  refine R_iload dX12_way_62 rfl (?_ : RR _ _ _ _ 64 _ _ _ _)
                  refine R_iconst dX12_way_64 (?_ : RR _ _ _ _ 65 _ _ _ _)
                  refine R_icmp_ge (t := 108) dX12_way_65 rfl (fun c65 => ?_) (fun c65 => ?_)
                  · exfalso; omega
                  refine R_aload_n dX12_way_68 rfl (?_ : RR _ _ _ _ 69 _ _ _ _)
                  refine R_iload_n dX12_way_69 rfl (?_ : RR _ _ _ _ 70 _ _ _ _)
                  refine R_iload_n dX12_way_70 rfl (?_ : RR _ _ _ _ 71 _ _ _ _)
                  refine R_iload dX12_way_71 rfl (?_ : RR _ _ _ _ 73 _ _ _ _)
                  refine R_cVi3 dX12_way_73 mvX12_beginsWay mlX12_284 (by decide) (by decide) (Nat.le_of_ble_eq_true rfl) (Nat.le_of_ble_eq_true rfl) (hb1) (?_ : RR _ _ _ _ 76 _ _ _ _)
                  refine R_if_eq (t := 98) dX12_way_76 rfl (fun c76 => ?_) (fun c76 => ?_)
                  rotate_left
                  · exfalso; omega
                  refine R_iload dX12_way_98 rfl (?_ : RR _ _ _ _ 100 _ _ _ _)
                  refine R_istore dX12_way_100 (Nat.le_of_ble_eq_true rfl) (?_ : RR _ _ _ _ 102 [_, _, _, _, _, _] _ _ _)
                  refine R_iinc dX12_way_102 rfl (Nat.le_of_ble_eq_true rfl) (?_ : RR _ _ _ _ 105 [_, _, _, _, _, _] _ _ _)
                  refine R_goto (t := 62) dX12_way_105 rfl (?_ : RR _ _ _ _ 62 _ _ _ _)
                  refine R_iload (pc := 62) dX12_way_62 rfl (?_ : RR _ _ _ _ 64 _ _ _ _)
                  refine R_iconst dX12_way_64 (?_ : RR _ _ _ _ 65 _ _ _ _)
                  refine R_icmp_ge (t := 108) dX12_way_65 rfl (fun c65 => ?_) (fun c65 => ?_)
                  · exact K3' _
                  · exfalso; omega
              have hb0 := hbg 0 (by omega)
              rw [Int.add_zero] at hb0
              have K1 : RR mX12_way 2 0 0 62 [pR 147, pI v, pI w, pI a, pI 9, pI 0] [] (shp0, rf0, tmR h4 L) (mQ h3 (h 151 (v * 9 + w)) (some (P 8 v [v]).reverse)) := by
                have K2' := K2 _ rfl
                by_cases y : begW (h 149) (h 150) D (2 * a) w = true
                · rw [if_pos y] at hb0 K2'
                  refine R_iload dX12_way_62 rfl (?_ : RR _ _ _ _ 64 _ _ _ _)
                  refine R_iconst dX12_way_64 (?_ : RR _ _ _ _ 65 _ _ _ _)
                  refine R_icmp_ge (t := 108) dX12_way_65 rfl (fun c65 => ?_) (fun c65 => ?_)
                  · exfalso; omega
                  refine R_aload_n dX12_way_68 rfl (?_ : RR _ _ _ _ 69 _ _ _ _)
                  refine R_iload_n dX12_way_69 rfl (?_ : RR _ _ _ _ 70 _ _ _ _)
                  refine R_iload_n dX12_way_70 rfl (?_ : RR _ _ _ _ 71 _ _ _ _)
                  refine R_iload dX12_way_71 rfl (?_ : RR _ _ _ _ 73 _ _ _ _)
                  refine R_cVi3 dX12_way_73 mvX12_beginsWay mlX12_284 (by decide) (by decide) (Nat.le_of_ble_eq_true rfl) (Nat.le_of_ble_eq_true rfl) (hb0) (?_ : RR _ _ _ _ 76 _ _ _ _)
                  refine R_if_eq (t := 98) dX12_way_76 rfl (fun c76 => ?_) (fun c76 => ?_)
                  · exfalso; omega
                  refine R_iload dX12_way_79 rfl (?_ : RR _ _ _ _ 81 _ _ _ _)
                  refine R_aload_n dX12_way_81 rfl (?_ : RR _ _ _ _ 82 _ _ _ _)
                  refine R_getr dX12_way_82 flX12_17 cok_12 rfl (by decide) (?_ : RR _ _ _ _ 85 _ _ _ _)
                  refine R_iconst dX12_way_85 (?_ : RR _ _ _ _ 86 _ _ _ _)
                  refine R_iload_n dX12_way_86 rfl (?_ : RR _ _ _ _ 87 _ _ _ _)
                  refine R_imul dX12_way_87 (?_ : RR _ _ _ _ 88 _ _ _ _)
                  refine R_iload dX12_way_88 rfl (?_ : RR _ _ _ _ 90 _ _ _ _)
                  refine R_iadd dX12_way_90 (?_ : RR _ _ _ _ 91 _ _ _ _)
                  rw [Int.add_zero]
                  refine R_iald dX12_way_91 (fun q91 => (?_ : RR _ _ _ _ 92 _ _ _ _))
                  rw [g149] at q91 ⊢
                  refine R_min dX12_way_92 mmX12_139 (by decide) (Nat.le_of_ble_eq_true rfl) (?_ : RR _ _ _ _ 95 _ _ _ _)
                  refine R_goto (t := 100) dX12_way_95 rfl (?_ : RR _ _ _ _ 100 _ _ _ _)
                  refine R_istore dX12_way_100 (Nat.le_of_ble_eq_true rfl) (?_ : RR _ _ _ _ 102 [_, _, _, _, _, _] _ _ _)
                  refine R_iinc dX12_way_102 rfl (Nat.le_of_ble_eq_true rfl) (?_ : RR _ _ _ _ 105 [_, _, _, _, _, _] _ _ _)
                  refine R_goto (t := 62) dX12_way_105 rfl (?_ : RR _ _ _ _ 62 _ _ _ _)
                  rw [show min 9 (h 149 (2 * a)) = h 149 (2 * a) by omega]
                  exact K2'
                · rw [if_neg y] at hb0 K2'
                  refine R_iload dX12_way_62 rfl (?_ : RR _ _ _ _ 64 _ _ _ _)
                  refine R_iconst dX12_way_64 (?_ : RR _ _ _ _ 65 _ _ _ _)
                  refine R_icmp_ge (t := 108) dX12_way_65 rfl (fun c65 => ?_) (fun c65 => ?_)
                  · exfalso; omega
                  refine R_aload_n dX12_way_68 rfl (?_ : RR _ _ _ _ 69 _ _ _ _)
                  refine R_iload_n dX12_way_69 rfl (?_ : RR _ _ _ _ 70 _ _ _ _)
                  refine R_iload_n dX12_way_70 rfl (?_ : RR _ _ _ _ 71 _ _ _ _)
                  refine R_iload dX12_way_71 rfl (?_ : RR _ _ _ _ 73 _ _ _ _)
                  refine R_cVi3 dX12_way_73 mvX12_beginsWay mlX12_284 (by decide) (by decide) (Nat.le_of_ble_eq_true rfl) (Nat.le_of_ble_eq_true rfl) (hb0) (?_ : RR _ _ _ _ 76 _ _ _ _)
                  refine R_if_eq (t := 98) dX12_way_76 rfl (fun c76 => ?_) (fun c76 => ?_)
                  rotate_left
                  · exfalso; omega
                  refine R_iload dX12_way_98 rfl (?_ : RR _ _ _ _ 100 _ _ _ _)
                  refine R_istore dX12_way_100 (Nat.le_of_ble_eq_true rfl) (?_ : RR _ _ _ _ 102 [_, _, _, _, _, _] _ _ _)
                  refine R_iinc dX12_way_102 rfl (Nat.le_of_ble_eq_true rfl) (?_ : RR _ _ _ _ 105 [_, _, _, _, _, _] _ _ _)
                  refine R_goto (t := 62) dX12_way_105 rfl (?_ : RR _ _ _ _ 62 _ _ _ _)
                  exact K2'
              refine R_iload_n dX12_way_50 rfl (?_ : RR _ _ _ _ 51 _ _ _ _)
              refine R_iload_n dX12_way_51 rfl (?_ : RR _ _ _ _ 52 _ _ _ _)
              refine R_icmp_eq (t := 120) dX12_way_52 rfl (fun c52 => ?_) (fun c52 => ?_)
              · exfalso; omega
              refine R_bipush dX12_way_55 rfl (?_ : RR _ _ _ _ 57 _ _ _ _)
              refine R_istore dX12_way_57 (Nat.le_of_ble_eq_true rfl) (?_ : RR _ _ _ _ 59 [_, _, _, _, _, _] _ _ _)
              refine R_iconst dX12_way_59 (?_ : RR _ _ _ _ 60 _ _ _ _)
              refine R_istore dX12_way_60 (Nat.le_of_ble_eq_true rfl) (?_ : RR _ _ _ _ 62 [_, _, _, _, _, _] _ _ _)
              exact K1
        have k8 := wyK_8 (H := H) (D := D) (a := v) (w := w) q.1
        have g151 : h4 151 = h 151 := f4 151 (by omega) (by omega)
        refine R_aload_n dX12_way_0 rfl (?_ : RR _ _ _ _ 1 _ _ _ _)
        refine R_iconst dX12_way_1 (?_ : RR _ _ _ _ 2 _ _ _ _)
        refine R_puti (zk := 0) dX12_way_2 flX12_106 cok_12 (by decide) (fun q hq => by cases hq; rfl) rfl (?_ : RR _ _ _ _ 5 _ _ _ _)
        rw [← h4e]
        refine R_aload_n dX12_way_5 rfl (?_ : RR _ _ _ _ 6 _ _ _ _)
        refine R_iload_n dX12_way_6 rfl (?_ : RR _ _ _ _ 7 _ _ _ _)
        refine R_cVi1 dX12_way_7 mvX12_isHalt mlX12_306 (by decide) (by decide) (Nat.le_of_ble_eq_true rfl) (Nat.le_of_ble_eq_true rfl) (T_X12_isHalt (by rw [g3']; omega)) (?_ : RR _ _ _ _ 10 _ _ _ _)
        rw [g3', if_pos (by omega)]
        refine R_if_eq (t := 21) dX12_way_10 rfl (fun c10 => ?_) (fun c10 => ?_)
        · exfalso; omega
        refine R_aload_n dX12_way_13 rfl (?_ : RR _ _ _ _ 14 _ _ _ _)
        refine R_iload_n dX12_way_14 rfl (?_ : RR _ _ _ _ 15 _ _ _ _)
        refine R_cVi1 dX12_way_15 mvX12_isHalt mlX12_306 (by decide) (by decide) (Nat.le_of_ble_eq_true rfl) (Nat.le_of_ble_eq_true rfl) (T_X12_isHalt (by rw [g3']; omega)) (?_ : RR _ _ _ _ 18 _ _ _ _)
        rw [g3', if_pos (by omega)]
        refine R_if_ne (t := 23) dX12_way_18 rfl (fun c18 => ?_) (fun c18 => ?_)
        rotate_left
        · exfalso; omega
        refine R_aload_n dX12_way_23 rfl (?_ : RR _ _ _ _ 24 _ _ _ _)
        refine R_iload_n dX12_way_24 rfl (?_ : RR _ _ _ _ 25 _ _ _ _)
        refine R_iload_n dX12_way_25 rfl (?_ : RR _ _ _ _ 26 _ _ _ _)
        refine R_cVi2 dX12_way_26 mvX12_farOf mlX12_145 (by decide) (by decide) (Nat.le_of_ble_eq_true rfl) (Nat.le_of_ble_eq_true rfl) (T_X12_farOf) (?_ : RR _ _ _ _ 29 _ _ _ _)
        rw [g151]
        refine R_ldc (z := 1000000) dX12_way_29 kwX12_138 (?_ : RR _ _ _ _ 31 _ _ _ _)
        refine R_icmp_lt (t := 37) dX12_way_31 rfl (fun c31 => ?_) (fun c31 => ?_)
        rotate_left
        · exfalso; omega
        refine R_aload_n dX12_way_37 rfl (?_ : RR _ _ _ _ 38 _ _ _ _)
        refine R_iconst dX12_way_38 (?_ : RR _ _ _ _ 39 _ _ _ _)
        refine R_puti (zk := 1) dX12_way_39 flX12_113 cok_12 (by decide) (fun q hq => by cases hq; rfl) rfl (?_ : RR _ _ _ _ 42 _ _ _ _)
        show RR _ _ _ _ _ _ _ (shp0, rf0, tmR h4 []) _
        refine R_iload_n dX12_way_42 rfl (?_ : RR _ _ _ _ 43 _ _ _ _)
        refine R_istore_n dX12_way_43 (Nat.le_of_ble_eq_true rfl) (?_ : RR _ _ _ _ 44 [_, _, _, _, _, _] _ _ _)
        refine R_aload_n dX12_way_44 rfl (?_ : RR _ _ _ _ 45 _ _ _ _)
        refine R_iload_n dX12_way_45 rfl (?_ : RR _ _ _ _ 46 _ _ _ _)
        refine R_i2l dX12_way_46 (by first | assumption | omega) (?_ : RR _ _ _ _ 47 _ _ _ _)
        refine R_cVv1 dX12_way_47 mvX12_enters mlX12_116 (by decide) (by decide) (Nat.le_of_ble_eq_true rfl) (Nat.le_of_ble_eq_true rfl) (T_tma (by simp) (by omega)) (?_ : RR _ _ _ _ 50 _ _ _ _)
        exact L 8 0 v _ _ [v] (by omega) rfl (by omega) (by omega) (by omega) (by omega) rfl
  · refine A_q hs (z := -1) (o := none) (cQ_no (M := mX11_way) (d := 3) (As := [pR 0, pI v, pI w]) (MT.of (fun Q hQ => (?_ : RR mX11_way _ _ _ _ [pR 0, pI v, pI w, pU, pU, pU] _ _ _)))) (fun h3 e => mQ_thr (M := mX12_way) (d := 2) (As := [pR 147, pI v, pI w]) (MT.of (fun Q hQ => (?_ : RR mX12_way _ _ _ _ [pR 147, pI v, pI w, pU, pU, pU] _ _ _)))) (fun L e => by cases e)
    · by_cases y : 0 ≤ v ∧ v < H
      · refine R_aload_n dX11_way_0 rfl (?_ : RR _ _ _ _ 1 _ _ _ _)
        refine R_getr dX11_way_1 flX11_19 cok_11 rfl (by decide) (?_ : RR _ _ _ _ 4 _ _ _ _)
        refine R_iload_n dX11_way_4 rfl (?_ : RR _ _ _ _ 5 _ _ _ _)
        refine R_cVi1 dX11_way_5 mvX0_has mlX11_289 (by decide) (by decide) (Nat.le_of_ble_eq_true rfl) (Nat.le_of_ble_eq_true rfl) (T_X0_has) (?_ : RR _ _ _ _ 8 _ _ _ _)
        rw [b4, if_pos y]
        refine R_if_eq (t := 22) dX11_way_8 rfl (fun c8 => ?_) (fun c8 => ?_)
        · exfalso; omega
        refine R_aload_n dX11_way_11 rfl (?_ : RR _ _ _ _ 12 _ _ _ _)
        refine R_getr dX11_way_12 flX11_19 cok_11 rfl (by decide) (?_ : RR _ _ _ _ 15 _ _ _ _)
        refine R_iload_n dX11_way_15 rfl (?_ : RR _ _ _ _ 16 _ _ _ _)
        refine R_cVi1 dX11_way_16 mvX0_has mlX11_289 (by decide) (by decide) (Nat.le_of_ble_eq_true rfl) (Nat.le_of_ble_eq_true rfl) (T_X0_has) (?_ : RR _ _ _ _ 19 _ _ _ _)
        rw [b4, if_neg (fun z => q ⟨y, z⟩)]
        refine R_if_ne (t := 24) dX11_way_19 rfl (fun c19 => ?_) (fun c19 => ?_)
        · exfalso; omega
        refine R_iconst dX11_way_22 (?_ : RR _ _ _ _ 23 _ _ _ _)
        exact R_ireturn dX11_way_23 trivial hQ
      · refine R_aload_n dX11_way_0 rfl (?_ : RR _ _ _ _ 1 _ _ _ _)
        refine R_getr dX11_way_1 flX11_19 cok_11 rfl (by decide) (?_ : RR _ _ _ _ 4 _ _ _ _)
        refine R_iload_n dX11_way_4 rfl (?_ : RR _ _ _ _ 5 _ _ _ _)
        refine R_cVi1 dX11_way_5 mvX0_has mlX11_289 (by decide) (by decide) (Nat.le_of_ble_eq_true rfl) (Nat.le_of_ble_eq_true rfl) (T_X0_has) (?_ : RR _ _ _ _ 8 _ _ _ _)
        rw [b4, if_neg y]
        refine R_if_eq (t := 22) dX11_way_8 rfl (fun c8 => ?_) (fun c8 => ?_)
        rotate_left
        · exfalso; omega
        refine R_iconst dX11_way_22 (?_ : RR _ _ _ _ 23 _ _ _ _)
        exact R_ireturn dX11_way_23 trivial hQ
    · have g3 : h3 147 3 = H := by rw [e 147 (by omega)]; exact b1
      by_cases y : 0 ≤ v ∧ v < H
      · refine R_aload_n dX12_way_0 rfl (?_ : RR _ _ _ _ 1 _ _ _ _)
        refine R_iconst dX12_way_1 (?_ : RR _ _ _ _ 2 _ _ _ _)
        refine R_puti (zk := 0) dX12_way_2 flX12_106 cok_12 (by decide) (fun q hq => by cases hq; rfl) rfl (?_ : RR _ _ _ _ 5 _ _ _ _)
        try simp (disch := omega) only [rup_rup, rup_sort, rupS_def, rup_s, rup_n, fup_fup, fup_s, fup_n]
        refine R_aload_n dX12_way_5 rfl (?_ : RR _ _ _ _ 6 _ _ _ _)
        refine R_iload_n dX12_way_6 rfl (?_ : RR _ _ _ _ 7 _ _ _ _)
        refine R_cVi1 dX12_way_7 mvX12_isHalt mlX12_306 (by decide) (by decide) (Nat.le_of_ble_eq_true rfl) (Nat.le_of_ble_eq_true rfl) (T_X12_isHalt (by simp (disch := omega) only [rup_s, fup_n]; rw [g3]; omega)) (?_ : RR _ _ _ _ 10 _ _ _ _)
        try simp (disch := omega) only [rup_rup, rup_sort, rupS_def, rup_s, rup_n, fup_fup, fup_s, fup_n]
        rw [g3, if_pos (by omega)]
        refine R_if_eq (t := 21) dX12_way_10 rfl (fun c10 => ?_) (fun c10 => ?_)
        · exfalso; omega
        refine R_aload_n dX12_way_13 rfl (?_ : RR _ _ _ _ 14 _ _ _ _)
        refine R_iload_n dX12_way_14 rfl (?_ : RR _ _ _ _ 15 _ _ _ _)
        refine R_cVi1 dX12_way_15 mvX12_isHalt mlX12_306 (by decide) (by decide) (Nat.le_of_ble_eq_true rfl) (Nat.le_of_ble_eq_true rfl) (T_X12_isHalt (by simp (disch := omega) only [rup_s, fup_n]; rw [g3]; omega)) (?_ : RR _ _ _ _ 18 _ _ _ _)
        try simp (disch := omega) only [rup_rup, rup_sort, rupS_def, rup_s, rup_n, fup_fup, fup_s, fup_n]
        rw [g3, if_neg (fun z => q ⟨y, by omega⟩)]
        refine R_if_ne (t := 23) dX12_way_18 rfl (fun c18 => ?_) (fun c18 => ?_)
        · exfalso; omega
        refine R_iconst dX12_way_21 (?_ : RR _ _ _ _ 22 _ _ _ _)
        exact R_ireturn dX12_way_22 trivial hQ
      · refine R_aload_n dX12_way_0 rfl (?_ : RR _ _ _ _ 1 _ _ _ _)
        refine R_iconst dX12_way_1 (?_ : RR _ _ _ _ 2 _ _ _ _)
        refine R_puti (zk := 0) dX12_way_2 flX12_106 cok_12 (by decide) (fun q hq => by cases hq; rfl) rfl (?_ : RR _ _ _ _ 5 _ _ _ _)
        try simp (disch := omega) only [rup_rup, rup_sort, rupS_def, rup_s, rup_n, fup_fup, fup_s, fup_n]
        refine R_aload_n dX12_way_5 rfl (?_ : RR _ _ _ _ 6 _ _ _ _)
        refine R_iload_n dX12_way_6 rfl (?_ : RR _ _ _ _ 7 _ _ _ _)
        refine R_cVi1 dX12_way_7 mvX12_isHalt mlX12_306 (by decide) (by decide) (Nat.le_of_ble_eq_true rfl) (Nat.le_of_ble_eq_true rfl) (T_X12_isHalt (by simp (disch := omega) only [rup_s, fup_n]; rw [g3]; omega)) (?_ : RR _ _ _ _ 10 _ _ _ _)
        try simp (disch := omega) only [rup_rup, rup_sort, rupS_def, rup_s, rup_n, fup_fup, fup_s, fup_n]
        rw [g3, if_neg (fun z => y (by omega))]
        refine R_if_eq (t := 21) dX12_way_10 rfl (fun c10 => ?_) (fun c10 => ?_)
        rotate_left
        · exfalso; omega
        refine R_iconst dX12_way_21 (?_ : RR _ _ _ _ 22 _ _ _ _)
        exact R_ireturn dX12_way_22 trivial hQ
end WA
