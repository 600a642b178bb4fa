section LB
variable {k : Nat} {h h1 h2 h3 h4 : Nat → Int → Int} {sem : Sem} {H np nc len : Nat} {v u : Int} {X : Cx}
def lbf (s : Int) : Int := if s < 0 then 13 else (pop 12 s.toNat : Int)
def lbb (s : Int) : Int := if s < 0 then 0 else s
theorem LB_113 {Q : Option PV → PH → Prop} {c w o K few best s0 s9 i z10 : Int} (hnx : iAnd (s0 - o) o = s9) (KK : RR mX11_lobby 5 0 0 72 [pR 0, pI c, pI w, pR 36, pI o, pI K, pI few, pI best, pI s9, pI (i + 1), pI z10] [] (shp0, rf0, h1) Q) : RR mX11_lobby 5 0 0 113 [pR 0, pI c, pI w, pR 36, pI o, pI K, pI few, pI best, pI s0, pI i, pI z10] [] (shp0, rf0, h1) Q := by
  refine R_iload dX11_lobby_113 rfl (?_ : RR _ _ _ _ 115 _ _ _ _)
  refine R_iload dX11_lobby_115 rfl (?_ : RR _ _ _ _ 117 _ _ _ _)
  refine R_isub dX11_lobby_117 (?_ : RR _ _ _ _ 118 _ _ _ _)
  refine R_iload dX11_lobby_118 rfl (?_ : RR _ _ _ _ 120 _ _ _ _)
  refine R_iand dX11_lobby_120 (?_ : RR _ _ _ _ 121 _ _ _ _)
  rw [hnx]
  refine R_istore dX11_lobby_121 (Nat.le_of_ble_eq_true rfl) (?_ : RR _ _ _ _ 123 [_, _, _, _, _, _, _, _, _, _, _] _ _ _)
  refine R_iinc dX11_lobby_123 rfl (Nat.le_of_ble_eq_true rfl) (?_ : RR _ _ _ _ 126 [_, _, _, _, _, _, _, _, _, _, _] _ _ _)
  refine R_goto (t := 72) dX11_lobby_126 rfl (?_ : RR _ _ _ _ 72 _ _ _ _)
  exact KK
theorem LB_72 {Q : Option PV → PH → Prop} {c w o K s i val : Int} {x : Nat} {win : Nat → Bool} {w10 : PV} {h9 : Nat → Int → Int} (hx : x < 4096) (hi : i < K) (hir : r32 i) (hKr : r32 K) (hw : 0 ≤ w ∧ w < 3) (hsb : -1 ≤ s ∧ s < 4096) (hval : 0 ≤ val ∧ val ≤ 2) (hwin : win x = true ↔ val = w) (hT : MT mX10_voteIfWon 1 [pR 36, pI c, pI x, pI w] h1 (some (pI val)) h9) (KK : ∀ (h2 : Nat → Int → Int) (z10 : Int), (h2 = h1 ∨ h2 = h9) → RR mX11_lobby 5 0 0 113 [pR 0, pI c, pI w, pR 36, pI o, pI K, pI (lbf (lbF win x s)), pI (lbb (lbF win x s)), pI x, pI i, pI z10] [] (shp0, rf0, h2) Q) : RR mX11_lobby 5 0 0 72 [pR 0, pI c, pI w, pR 36, pI o, pI K, pI (lbf s), pI (lbb s), pI x, pI i, w10] [] (shp0, rf0, h1) Q := by
  have hpx := pop_le 12 x
  have hps := pop_le 12 s.toNat
  have hfb : 0 ≤ lbf s ∧ lbf s ≤ 13 := by unfold lbf; split <;> omega
  have key : ((s < 0 ∨ pop 12 x < pop 12 s.toNat) ↔ (pop 12 x : Int) < lbf s) := by
    unfold lbf
    split <;> omega
  by_cases q : (pop 12 x : Int) < lbf s
  · by_cases y : val = w
    · have e1 : lbF win x s = x := by unfold lbF; rw [if_pos ⟨key.mpr q, hwin.mpr y⟩]
      rw [e1, show lbf (x : Int) = pop 12 x by unfold lbf; rw [if_neg (by omega), Int.toNat_natCast], show lbb (x : Int) = x by unfold lbb; rw [if_neg (by omega)]] at KK
      refine R_iload dX11_lobby_72 rfl (?_ : RR _ _ _ _ 74 _ _ _ _)
      refine R_iload dX11_lobby_74 rfl (?_ : RR _ _ _ _ 76 _ _ _ _)
      refine R_icmp_ge (t := 129) dX11_lobby_76 rfl (fun c76 => ?_) (fun c76 => ?_)
      · exfalso; omega
      refine R_iload dX11_lobby_79 rfl (?_ : RR _ _ _ _ 81 _ _ _ _)
      refine R_cSi1 dX11_lobby_81 msJ6_bitCount_0f7a4 mlX11_325 (by decide) (Nat.le_of_ble_eq_true rfl) (Nat.le_of_ble_eq_true rfl) (T_J6_bitCount_0f7a4) (?_ : RR _ _ _ _ 84 _ _ _ _)
      refine R_istore dX11_lobby_84 (Nat.le_of_ble_eq_true rfl) (?_ : RR _ _ _ _ 86 [_, _, _, _, _, _, _, _, _, _, _] _ _ _)
      refine R_iload dX11_lobby_86 rfl (?_ : RR _ _ _ _ 88 _ _ _ _)
      refine R_iload dX11_lobby_88 rfl (?_ : RR _ _ _ _ 90 _ _ _ _)
      refine R_icmp_ge (t := 113) dX11_lobby_90 rfl (fun c90 => ?_) (fun c90 => ?_)
      · exfalso; omega
      refine R_aload_n dX11_lobby_93 rfl (?_ : RR _ _ _ _ 94 _ _ _ _)
      refine R_iload_n dX11_lobby_94 rfl (?_ : RR _ _ _ _ 95 _ _ _ _)
      refine R_iload dX11_lobby_95 rfl (?_ : RR _ _ _ _ 97 _ _ _ _)
      refine R_iload_n dX11_lobby_97 rfl (?_ : RR _ _ _ _ 98 _ _ _ _)
      refine R_cVi3 dX11_lobby_98 mvX10_voteIfWon mlX11_346 (by decide) (by decide) (Nat.le_of_ble_eq_true rfl) (Nat.le_of_ble_eq_true rfl) (hT) (?_ : RR _ _ _ _ 101 _ _ _ _)
      refine R_iload_n dX11_lobby_101 rfl (?_ : RR _ _ _ _ 102 _ _ _ _)
      refine R_icmp_ne (t := 113) dX11_lobby_102 rfl (fun c102 => ?_) (fun c102 => ?_)
      · exfalso; omega
      refine R_iload dX11_lobby_105 rfl (?_ : RR _ _ _ _ 107 _ _ _ _)
      refine R_istore dX11_lobby_107 (Nat.le_of_ble_eq_true rfl) (?_ : RR _ _ _ _ 109 [_, _, _, _, _, _, _, _, _, _, _] _ _ _)
      refine R_iload dX11_lobby_109 rfl (?_ : RR _ _ _ _ 111 _ _ _ _)
      refine R_istore dX11_lobby_111 (Nat.le_of_ble_eq_true rfl) (?_ : RR _ _ _ _ 113 [_, _, _, _, _, _, _, _, _, _, _] _ _ _)
      exact KK _ _ (Or.inr rfl)
    · have e1 : lbF win x s = s := by unfold lbF; rw [if_neg (fun z => y (hwin.mp z.2))]
      rw [e1] at KK
      refine R_iload dX11_lobby_72 rfl (?_ : RR _ _ _ _ 74 _ _ _ _)
      refine R_iload dX11_lobby_74 rfl (?_ : RR _ _ _ _ 76 _ _ _ _)
      refine R_icmp_ge (t := 129) dX11_lobby_76 rfl (fun c76 => ?_) (fun c76 => ?_)
      · exfalso; omega
      refine R_iload dX11_lobby_79 rfl (?_ : RR _ _ _ _ 81 _ _ _ _)
      refine R_cSi1 dX11_lobby_81 msJ6_bitCount_0f7a4 mlX11_325 (by decide) (Nat.le_of_ble_eq_true rfl) (Nat.le_of_ble_eq_true rfl) (T_J6_bitCount_0f7a4) (?_ : RR _ _ _ _ 84 _ _ _ _)
      refine R_istore dX11_lobby_84 (Nat.le_of_ble_eq_true rfl) (?_ : RR _ _ _ _ 86 [_, _, _, _, _, _, _, _, _, _, _] _ _ _)
      refine R_iload dX11_lobby_86 rfl (?_ : RR _ _ _ _ 88 _ _ _ _)
      refine R_iload dX11_lobby_88 rfl (?_ : RR _ _ _ _ 90 _ _ _ _)
      refine R_icmp_ge (t := 113) dX11_lobby_90 rfl (fun c90 => ?_) (fun c90 => ?_)
      · exfalso; omega
      refine R_aload_n dX11_lobby_93 rfl (?_ : RR _ _ _ _ 94 _ _ _ _)
      refine R_iload_n dX11_lobby_94 rfl (?_ : RR _ _ _ _ 95 _ _ _ _)
      refine R_iload dX11_lobby_95 rfl (?_ : RR _ _ _ _ 97 _ _ _ _)
      refine R_iload_n dX11_lobby_97 rfl (?_ : RR _ _ _ _ 98 _ _ _ _)
      refine R_cVi3 dX11_lobby_98 mvX10_voteIfWon mlX11_346 (by decide) (by decide) (Nat.le_of_ble_eq_true rfl) (Nat.le_of_ble_eq_true rfl) (hT) (?_ : RR _ _ _ _ 101 _ _ _ _)
      refine R_iload_n dX11_lobby_101 rfl (?_ : RR _ _ _ _ 102 _ _ _ _)
      refine R_icmp_ne (t := 113) dX11_lobby_102 rfl (fun c102 => ?_) (fun c102 => ?_)
      rotate_left
      · exfalso; omega
      exact KK _ _ (Or.inr rfl)
  · have e1 : lbF win x s = s := by unfold lbF; rw [if_neg (fun z => q (key.mp z.1))]
    rw [e1] at KK
    refine R_iload dX11_lobby_72 rfl (?_ : RR _ _ _ _ 74 _ _ _ _)
    refine R_iload dX11_lobby_74 rfl (?_ : RR _ _ _ _ 76 _ _ _ _)
    refine R_icmp_ge (t := 129) dX11_lobby_76 rfl (fun c76 => ?_) (fun c76 => ?_)
    · exfalso; omega
    refine R_iload dX11_lobby_79 rfl (?_ : RR _ _ _ _ 81 _ _ _ _)
    refine R_cSi1 dX11_lobby_81 msJ6_bitCount_0f7a4 mlX11_325 (by decide) (Nat.le_of_ble_eq_true rfl) (Nat.le_of_ble_eq_true rfl) (T_J6_bitCount_0f7a4) (?_ : RR _ _ _ _ 84 _ _ _ _)
    refine R_istore dX11_lobby_84 (Nat.le_of_ble_eq_true rfl) (?_ : RR _ _ _ _ 86 [_, _, _, _, _, _, _, _, _, _, _] _ _ _)
    refine R_iload dX11_lobby_86 rfl (?_ : RR _ _ _ _ 88 _ _ _ _)
    refine R_iload dX11_lobby_88 rfl (?_ : RR _ _ _ _ 90 _ _ _ _)
    refine R_icmp_ge (t := 113) dX11_lobby_90 rfl (fun c90 => ?_) (fun c90 => ?_)
    rotate_left
    · exfalso; omega
    exact KK _ _ (Or.inl rfl)
/-- the class's sum for a set of the coach is the abstract one -/
theorem wn_wl {f b : Int → Int} {h5 : Nat → Int → Int} {c w : Int} {S : Nat} (hh : heldP X f h h5) (hXP : xP X = np) (h12 : np ≤ 12) (hS : ∀ p : Nat, S.testBit p = true → p < np ∧ xWi X f p ≠ -1) (hb : ∀ j : Int, 0 ≤ j → j < 3 → h5 39 (3 * c + j) = b j) : wnV (h5 37) (h5 38) (h5 39) c w S = wlW b (xV X f) (xWi X f) np w S := by
  have key : ∀ j : Int, 0 ≤ j → j < 3 → wnG (h5 37) (h5 38) (h5 39) c w S 12 j = wlS b (xV X f) (xWi X f) np w S j := fun j j0 j1 => by
    unfold wnG wlS
    rw [hb j j0 j1]
    congr 1
    rw [sm_tail (i := np) h12 (fun p h1 h2 => if_neg (fun z => by have := (hS p z.1).1; omega))]
    refine sm_congr (fun p hp => ?_)
    obtain ⟨v1, v2⟩ := hh.2.1 p (by rw [hXP]; exact hp)
    unfold lbT
    rw [v1, v2]
    by_cases q : S.testBit p = true
    · rw [if_pos ⟨q, (hS p q).2⟩, if_pos q]
    · rw [if_neg (fun z => q z.1), if_neg q]
  unfold wnV wlW
  rw [key 0 (by omega) (by omega), key 1 (by omega) (by omega), key 2 (by omega) (by omega)]
theorem C_lobby {c : Nat} {w : Int} {win : Nat → Bool} {a o : Nat} {b : Int → Int} {s9 : Int} (hs : SRx k h sem H np nc len) (hX : X = cxM sem h np nc) (hc : c < nc) (hw : 0 ≤ w ∧ w < 3) (ha : a = bset (fun p => decide (mS (h 154) p = (c : Int))) np) (hb : b = poS (fun p => decide (mS (h 154) p = (c : Int))) (xV X (h 154)) (xWi X (h 154)) np) (ho : ∀ i, o.testBit i = (a.testBit i && decide (xWi X (h 154) i ≠ w ∧ 0 < xV X (h 154) i))) (ho2 : o < 4096) (hwin : ∀ x, win x = decide (wlW b (xV X (h 154)) (xWi X (h 154)) np w x = w)) (hs9 : lbC win (fun x => sub2 x o) s9) : RR mX11_lobby 5 0 0 0 (pm_ent [pR 0, pI c, pI w] 11) [] (shp0, rf0, h) (cQ h (if s9 < 0 then -2 else pop 12 s9.toNat) (if s9 < 0 then none else some [s9])) := by
  have x6 := sR6 hs
  have x12 := sR12 hs
  have h11 : h 11 0 = np := hs.1.2.2.2.2.2.2.1.2.1.1
  have hcp := hs.2.2.2.1.1
  have e2 : h 14 2 = nc := hcp.2.2.2.1
  have t14 := isTr_14
  have hTT := C_held hs
  rw [← hX] at hTT
  have hXP : xP X = np := by rw [hX]; rfl
  have hXC : xC X = nc := by rw [hX]; rfl
  have al := bset_4096 (P := fun p => decide (mS (h 154) p = (c : Int))) (n := np) x12
  rw [← ha] at al
  have hab : ∀ i, a.testBit i = true → i < np ∧ mS (h 154) i = c := fun i hi => by
    rw [ha, bset_bit] at hi
    simpa using hi
  have hbb : ∀ j : Int, 0 ≤ b j ∧ b j ≤ 1200 := fun j => by
    have hbj := poS_b (P := fun p => decide (mS (h 154) p = (c : Int))) (V := xV X (h 154)) (W := xWi X (h 154)) (np := np) (j := j) (fun p => xV_b)
    rw [← hb] at hbj
    omega
  obtain ⟨K, hK⟩ : ∃ K, K = 2 ^ pop 12 o := ⟨_, rfl⟩
  have hKb : K ≤ 4096 := by rw [hK]; exact pw_4096
  have hpl := pop_le 12 o
  show RR _ _ _ _ _ [pR 0, pI c, pI w, pU, pU, pU, pU, pU, pU, pU, pU] _ _ _
  have KK : ∀ h5 : Nat → Int → Int, heldP X (h 154) h h5 → RR mX11_lobby 5 0 0 26 [pR 0, pI c, pI w, pU, pU, pU, pU, pU, pU, pU, pU] [pR 36] (shp0, rf0, h5) (cQ h (if s9 < 0 then -2 else pop 12 s9.toNat) (if s9 < 0 then none else some [s9])) := by
    intro h5 hh
    have g11 : h5 11 0 = np := by rw [hh.1 11 (by omega)]; exact h11
    have g18 : h5 (14 + 4) = h (14 + 4) := hh.1 18 (by omega)
    have hin := T_X9_inside (t := 14) (n := np) (c := (c : Int)) (h := h5)
    rw [g18, show bset (fun j => decide (h (14 + 4) j = (c : Int))) np = a by rw [ha]; exact bset_congr (fun p hp => by rw [show h (14 + 4) p = mS (h 154) p from hcp.2.2.2.2.2.2.2 p hp])] at hin
    have hot := T_X10_othersThan (h := h5) (w := w) (by omega)
    have hol := bset_lt (fun p => decide (h5 38 p ≠ w ∧ 0 < h5 37 p)) 12
    have hoa : iAnd ((bset (fun p => decide (h5 38 p ≠ w ∧ 0 < h5 37 p)) 12 : Nat) : Int) (a : Int) = (o : Int) := by
      rw [iAnd_nat (by omega) (by omega)]
      congr 1
      apply Nat.eq_of_testBit_eq
      intro i
      rw [Nat.testBit_and, bset_bit, ho i]
      cases hq : a.testBit i
      · simp
      · obtain ⟨v1, v2⟩ := hh.2.1 i (by rw [hXP]; exact (hab i hq).1)
        have := (hab i hq).1
        rw [v1, v2, decide_eq_true (show i < 12 by omega)]
        simp
    have hsu : ∀ j : Int, 0 ≤ j → j < 3 → h5 39 (3 * (c : Int) + j) = b j := fun j j0 j1 => by rw [hh.2.2.1 c j (by omega) (by rw [hXC]; omega) j0 j1, hXP, hb]
    have hsub : ∀ (x : Nat), sub2 x o → ∀ p, x.testBit p = true → p < np ∧ mS (h 154) p = c := fun x hx p hp => by
      have := hx p hp
      rw [ho p] at this
      simp only [Bool.and_eq_true] at this
      exact hab p this.1
    have hvw : ∀ (x : Nat) (s : Int → Int), sub2 x o → x < 4096 → ∃ s', MT mX10_voteIfWon 1 [pR 36, pI c, pI x, pI w] (rup h5 42 s) (some (pI (wlW b (xV X (h 154)) (xWi X (h 154)) np w x))) (rup h5 42 s') := fun x s hx hxl => by
      have hT := T_X10_voteIfWon (h := rup h5 42 s) (c := (c : Int)) (w := w) (S := x) hxl (by omega) hw (fun p hp => by
        obtain ⟨v1, v2⟩ := hh.2.1 p (by rw [hXP]; exact (hsub x hx p hp).1)
        rw [rup_n (by omega), v1]
        exact xV_b) (fun p hp => by
        obtain ⟨v1, v2⟩ := hh.2.1 p (by rw [hXP]; exact (hsub x hx p hp).1)
        rw [rup_n (by omega), v2]
        have := xWi_b (X := X) (f := h 154) (p := p) (by rw [(hsub x hx p hp).2]; omega)
        omega) (fun j j0 j1 => by
        rw [rup_n (by omega), hsu j j0 j1]
        have := hbb j
        omega)
      rw [rup_n (by omega), rup_n (by omega), rup_n (by omega), rup_rup, wn_wl (b := b) (np := np) hh hXP x12 (fun p hp => ⟨(hsub x hx p hp).1, by have := xWi_b (X := X) (f := h 154) (p := p) (by rw [(hsub x hx p hp).2]; omega); omega⟩) hsu] at hT
      exact ⟨_, hT⟩
    have hsets := iShl_one (pop 12 o) (by omega)
    rw [← hK] at hsets
    have L : ∀ (j i : Nat) (s : Int) (t : Int → Int) (w10 : PV), i + j = K → lbC win (fun x => ∃ i', i' < i ∧ x = dep 12 o i') s → RR mX11_lobby 5 0 0 72 [pR 0, pI c, pI w, pR 36, pI o, pI K, pI (lbf s), pI (lbb s), pI (sv o i), pI i, w10] [] (shp0, rf0, rup h5 42 t) (cQ h (if s9 < 0 then -2 else pop 12 s9.toNat) (if s9 < 0 then none else some [s9])) := by
      intro j
      induction j with
      | zero =>
        intro i s t w10 hi hls
        obtain rfl : i = K := by omega
        have he : s = s9 := lbC_same hls hs9 (fun y hy => by
          obtain ⟨i', i1, i2⟩ := dep_ex 12 o y ho2 hy
          exact ⟨i', by rw [hK]; exact i1, i2.symm⟩) (fun y hy hwy => by
          obtain ⟨i', i1, i2⟩ := hy
          exact ⟨y, by show sub2 y o; rw [i2]; exact dep_sub 12 o i', hwy, Or.inr rfl⟩)
        subst he
        have hsb := lbC_b hs9 (fun y hy => by have := sub2_le hy; omega)
        have hps := pop_le 12 s.toNat
        by_cases y : s < 0
        · rw [if_pos y, if_pos y, show lbf s = 13 by unfold lbf; rw [if_pos y], show lbb s = 0 by unfold lbb; rw [if_pos y]]
          have hq : cQ h (-2) none (some (pI (-2))) (shp0, rf0, rup h5 42 t) := ⟨_, rfl, rfl, cq_held hh, by rw [rup_n (by omega)]; exact hh.1 145 (by omega), by rw [rup_n (by omega)]; exact hh.1 146 (by omega)⟩
          refine R_iload dX11_lobby_72 rfl (?_ : RR _ _ _ _ 74 _ _ _ _)
          refine R_iload dX11_lobby_74 rfl (?_ : RR _ _ _ _ 76 _ _ _ _)
          refine R_icmp_ge (t := 129) dX11_lobby_76 rfl (fun c76 => ?_) (fun c76 => ?_)
          rotate_left
          · exfalso; omega
          refine R_iload dX11_lobby_129 rfl (?_ : RR _ _ _ _ 131 _ _ _ _)
          refine R_bipush dX11_lobby_131 rfl (?_ : RR _ _ _ _ 133 _ _ _ _)
          refine R_icmp_le (t := 139) dX11_lobby_133 rfl (fun c133 => ?_) (fun c133 => ?_)
          · exfalso; omega
          refine R_bipush dX11_lobby_136 rfl (?_ : RR _ _ _ _ 138 _ _ _ _)
          exact R_ireturn dX11_lobby_138 trivial hq
        · rw [if_neg y, if_neg y, show lbf s = pop 12 s.toNat by unfold lbf; rw [if_neg y], show lbb s = s by unfold lbb; rw [if_neg y]]
          refine R_iload dX11_lobby_72 rfl (?_ : RR _ _ _ _ 74 _ _ _ _)
          refine R_iload dX11_lobby_74 rfl (?_ : RR _ _ _ _ 76 _ _ _ _)
          refine R_icmp_ge (t := 129) dX11_lobby_76 rfl (fun c76 => ?_) (fun c76 => ?_)
          rotate_left
          · exfalso; omega
          refine R_iload dX11_lobby_129 rfl (?_ : RR _ _ _ _ 131 _ _ _ _)
          refine R_bipush dX11_lobby_131 rfl (?_ : RR _ _ _ _ 133 _ _ _ _)
          refine R_icmp_le (t := 139) dX11_lobby_133 rfl (fun c133 => ?_) (fun c133 => ?_)
          rotate_left
          · exfalso; omega
          refine R_aload_n dX11_lobby_139 rfl (?_ : RR _ _ _ _ 140 _ _ _ _)
          refine R_getr dX11_lobby_140 flX11_87 cok_11 rfl (by decide) (?_ : RR _ _ _ _ 143 _ _ _ _)
          refine R_cVv0 dX11_lobby_143 mvX3_clear mlX11_239 (by decide) (by decide) (Nat.le_of_ble_eq_true rfl) (Nat.le_of_ble_eq_true rfl) (T_tlc) (?_ : RR _ _ _ _ 146 _ _ _ _)
          refine R_aload_n dX11_lobby_146 rfl (?_ : RR _ _ _ _ 147 _ _ _ _)
          refine R_getr dX11_lobby_147 flX11_87 cok_11 rfl (by decide) (?_ : RR _ _ _ _ 150 _ _ _ _)
          refine R_iload dX11_lobby_150 rfl (?_ : RR _ _ _ _ 152 _ _ _ _)
          refine R_i2l dX11_lobby_152 (by first | assumption | omega) (?_ : RR _ _ _ _ 153 _ _ _ _)
          refine R_cVv1 dX11_lobby_153 mvX3_add mlX11_243 (by decide) (by decide) (Nat.le_of_ble_eq_true rfl) (Nat.le_of_ble_eq_true rfl) (T_tla (by simp) (by omega)) (?_ : RR _ _ _ _ 156 _ _ _ _)
          refine R_iload dX11_lobby_156 rfl (?_ : RR _ _ _ _ 158 _ _ _ _)
          exact R_ireturn dX11_lobby_158 trivial (cQ_tl (cq_held hh) rfl)
      | succ j ih =>
        intro i s t w10 hi hls
        have hiK : i < 2 ^ pop 12 o := by rw [← hK]; omega
        have hnx := sv_nx (m := o) (i := i) ho2 hiK
        have hs1 := sv_lt (m := o) (i := i) ho2
        have esv : sv o i = dep 12 o i := by unfold sv; rw [if_pos hiK]
        have hsx : sub2 (sv o i) o := by rw [esv]; exact dep_sub 12 o i
        obtain ⟨t2, hT⟩ := hvw (sv o i) t hsx hs1
        have hsb := lbC_b hls (fun y hy => by
          obtain ⟨i', i1, i2⟩ := hy
          rw [i2]
          have := sub2_le (dep_sub 12 o i')
          omega)
        have hlb2 := lbC_s (D' := fun x => ∃ i', i' < i + 1 ∧ x = dep 12 o i') (x := sv o i) hls (fun y hy => by
          obtain ⟨i', i1, i2⟩ := hy
          rw [i2, esv]
          exact dep_lt 12 o i' i i1 hiK) (fun y => ⟨fun ⟨i', i1, i2⟩ => by
            by_cases z : i' = i
            · subst z; exact Or.inr (by rw [i2, esv])
            · exact Or.inl ⟨i', by omega, i2⟩, fun hy => by
            rcases hy with ⟨i', i1, i2⟩ | z
            · exact ⟨i', by omega, i2⟩
            · exact ⟨i, by omega, by rw [z, esv]⟩⟩)
        have IH := fun t w10 => ih (i + 1) (lbF win (sv o i) s) t w10 (by omega) hlb2
        refine LB_72 (win := win) (s := s) (x := sv o i) hs1 (by omega) (by omega) (by omega) hw hsb (show 0 ≤ wlW b (xV X (h 154)) (xWi X (h 154)) np w (sv o i) ∧ _ from chS_b) (by rw [hwin]; exact decide_eq_true_iff) hT (fun h2 z10 hh2 => ?_)
        refine LB_113 hnx ?_
        rcases hh2 with rfl | rfl
        · exact IH _ _
        · exact IH _ _
    have L0 := fun t w10 => L K 0 (-1) t w10 (by omega) (Or.inl ⟨rfl, fun x hx => by obtain ⟨i', i1, i2⟩ := hx; omega⟩)
    rw [sv_0, show lbf (-1) = 13 from rfl, show lbb (-1) = 0 from rfl] at L0
    have L1 := fun w10 => L0 (h5 42) w10
    rw [rup_self] at L1
    refine R_astore_n dX11_lobby_26 (Nat.le_of_ble_eq_true rfl) (?_ : RR _ _ _ _ 27 [_, _, _, _, _, _, _, _, _, _, _] _ _ _)
    refine R_aload_n dX11_lobby_27 rfl (?_ : RR _ _ _ _ 28 _ _ _ _)
    refine R_iload_n dX11_lobby_28 rfl (?_ : RR _ _ _ _ 29 _ _ _ _)
    refine R_cVi1 dX11_lobby_29 mvX10_othersThan mlX11_343 (by decide) (by decide) (Nat.le_of_ble_eq_true rfl) (Nat.le_of_ble_eq_true rfl) (hot) (?_ : RR _ _ _ _ 32 _ _ _ _)
    refine R_aload_n dX11_lobby_32 rfl (?_ : RR _ _ _ _ 33 _ _ _ _)
    refine R_getr dX11_lobby_33 flX11_36 cok_11 rfl (by decide) (?_ : RR _ _ _ _ 36 _ _ _ _)
    refine R_iload_n dX11_lobby_36 rfl (?_ : RR _ _ _ _ 37 _ _ _ _)
    refine R_aload_n dX11_lobby_37 rfl (?_ : RR _ _ _ _ 38 _ _ _ _)
    refine R_getr dX11_lobby_38 flX11_29 cok_11 rfl (by decide) (?_ : RR _ _ _ _ 41 _ _ _ _)
    refine R_geti (z := 0) dX11_lobby_41 flX11_116 cok_2 rfl (by decide) rfl (fun q41 => (?_ : RR _ _ _ _ 44 _ _ _ _))
    rw [g11] at q41 ⊢
    refine R_cVi2 dX11_lobby_44 mvX9_inside mlX11_186 (by decide) (by decide) (Nat.le_of_ble_eq_true rfl) (Nat.le_of_ble_eq_true rfl) (hin) (?_ : RR _ _ _ _ 47 _ _ _ _)
    refine R_iand dX11_lobby_47 (?_ : RR _ _ _ _ 48 _ _ _ _)
    rw [hoa]
    refine R_istore dX11_lobby_48 (Nat.le_of_ble_eq_true rfl) (?_ : RR _ _ _ _ 50 [_, _, _, _, _, _, _, _, _, _, _] _ _ _)
    refine R_iconst dX11_lobby_50 (?_ : RR _ _ _ _ 51 _ _ _ _)
    refine R_iload dX11_lobby_51 rfl (?_ : RR _ _ _ _ 53 _ _ _ _)
    refine R_cSi1 dX11_lobby_53 msJ6_bitCount_0f7a4 mlX11_325 (by decide) (Nat.le_of_ble_eq_true rfl) (Nat.le_of_ble_eq_true rfl) (T_J6_bitCount_0f7a4) (?_ : RR _ _ _ _ 56 _ _ _ _)
    refine R_ishl dX11_lobby_56 (?_ : RR _ _ _ _ 57 _ _ _ _)
    rw [hsets]
    refine R_istore dX11_lobby_57 (Nat.le_of_ble_eq_true rfl) (?_ : RR _ _ _ _ 59 [_, _, _, _, _, _, _, _, _, _, _] _ _ _)
    refine R_bipush dX11_lobby_59 rfl (?_ : RR _ _ _ _ 61 _ _ _ _)
    refine R_istore dX11_lobby_61 (Nat.le_of_ble_eq_true rfl) (?_ : RR _ _ _ _ 63 [_, _, _, _, _, _, _, _, _, _, _] _ _ _)
    refine R_iconst dX11_lobby_63 (?_ : RR _ _ _ _ 64 _ _ _ _)
    refine R_istore dX11_lobby_64 (Nat.le_of_ble_eq_true rfl) (?_ : RR _ _ _ _ 66 [_, _, _, _, _, _, _, _, _, _, _] _ _ _)
    refine R_iconst dX11_lobby_66 (?_ : RR _ _ _ _ 67 _ _ _ _)
    refine R_istore dX11_lobby_67 (Nat.le_of_ble_eq_true rfl) (?_ : RR _ _ _ _ 69 [_, _, _, _, _, _, _, _, _, _, _] _ _ _)
    refine R_iconst dX11_lobby_69 (?_ : RR _ _ _ _ 70 _ _ _ _)
    refine R_istore dX11_lobby_70 (Nat.le_of_ble_eq_true rfl) (?_ : RR _ _ _ _ 72 [_, _, _, _, _, _, _, _, _, _, _] _ _ _)
    exact L1 _
  refine R_aload_n dX11_lobby_0 rfl (?_ : RR _ _ _ _ 1 _ _ _ _)
  refine R_getr dX11_lobby_1 flX11_36 cok_11 rfl (by decide) (?_ : RR _ _ _ _ 4 _ _ _ _)
  refine R_iload_n dX11_lobby_4 rfl (?_ : RR _ _ _ _ 5 _ _ _ _)
  refine R_cVi1 dX11_lobby_5 mvX9_has mlX11_174 (by decide) (by decide) (Nat.le_of_ble_eq_true rfl) (Nat.le_of_ble_eq_true rfl) (T_X9_has) (?_ : RR _ _ _ _ 8 _ _ _ _)
  rw [e2, if_pos (by omega)]
  refine R_if_eq (t := 20) dX11_lobby_8 rfl (fun c8 => ?_) (fun c8 => ?_)
  · exfalso; omega
  refine R_iload_n dX11_lobby_11 rfl (?_ : RR _ _ _ _ 12 _ _ _ _)
  refine R_if_lt (t := 20) dX11_lobby_12 rfl (fun c12 => ?_) (fun c12 => ?_)
  · exfalso; omega
  refine R_iload_n dX11_lobby_15 rfl (?_ : RR _ _ _ _ 16 _ _ _ _)
  refine R_iconst dX11_lobby_16 (?_ : RR _ _ _ _ 17 _ _ _ _)
  refine R_icmp_le (t := 22) dX11_lobby_17 rfl (fun c17 => ?_) (fun c17 => ?_)
  rotate_left
  · exfalso; omega
  refine R_aload_n dX11_lobby_22 rfl (?_ : RR _ _ _ _ 23 _ _ _ _)
  refine R_qV0 dX11_lobby_23 mvX11_heldVote mlX11_190 (by decide) (by decide) (Nat.le_of_ble_eq_true rfl) (Nat.le_of_ble_eq_true rfl) (hTT) (fun r9 g9 hq9 => (?_ : RR _ _ _ _ 26 _ _ _ _))
  obtain ⟨rfl, h5, rfl, hh⟩ := hq9
  show RR _ _ _ _ _ _ [pR 36] _ _
  exact KK h5 hh
end LB
