section ML2
variable {k : Nat} {h h1 h2 h3 h4 : Nat → Int → Int} {sem : Sem} {H np nc len : Nat} {v u : Int} {X : Cx}
theorem lbC_c {win : Nat → Bool} {D D' : Nat → Prop} {s : Int} (h : lbC win D s) (hD : ∀ y, D' y ↔ D y) : lbC win D' s := by
  rcases h with ⟨h1, h2⟩ | ⟨b, h1, h2, h3, h4⟩
  · exact Or.inl ⟨h1, fun x hx => h2 x ((hD x).mp hx)⟩
  · exact Or.inr ⟨b, h1, (hD b).mpr h2, h3, fun x hx hw => h4 x ((hD x).mp hx) hw⟩
theorem lb_ex {win : Nat → Bool} {o : Nat} (ho : o < 4096) : ∃ s, lbC win (fun x => sub2 x o) s := by
  have key : ∀ i, i ≤ 2 ^ pop 12 o → ∃ s, lbC win (fun x => ∃ i', i' < i ∧ x = dep 12 o i') s := by
    intro i
    induction i with
    | zero => exact fun _ => ⟨-1, Or.inl ⟨rfl, fun x hx => by obtain ⟨i', i1, i2⟩ := hx; omega⟩⟩
    | succ i ih =>
      intro hi
      obtain ⟨s, hs⟩ := ih (by omega)
      refine ⟨lbF win (dep 12 o i) s, lbC_s hs (fun y hy => ?_) (fun y => ⟨fun ⟨i', i1, i2⟩ => ?_, fun hy => ?_⟩)⟩
      · obtain ⟨i', i1, i2⟩ := hy
        rw [i2]
        exact dep_lt 12 o i' i i1 (by omega)
      · by_cases z : i' = i
        · subst z; exact Or.inr i2
        · exact Or.inl ⟨i', by omega, i2⟩
      · rcases hy with ⟨i', i1, i2⟩ | z
        · exact ⟨i', by omega, i2⟩
        · exact ⟨i, by omega, z⟩
  obtain ⟨s, hs⟩ := key _ (Nat.le_refl _)
  refine ⟨s, lbC_c hs (fun y => ⟨fun hy => ?_, fun ⟨i', i1, i2⟩ => ?_⟩)⟩
  · obtain ⟨i', i1, i2⟩ := dep_ex 12 o y ho hy
    exact ⟨i', i1, i2.symm⟩
  · show sub2 y o
    rw [i2]; exact dep_sub 12 o i'
/-- those who are won -/
theorem MLB_93 {c s : Int} {w : Int} {a x : Nat} {r : Int → Int} {Q : Option PV → PH → Prop} (hs : SRx k h sem H np nc len) (hX : X = cxM sem h np nc) (e : ∀ a, 147 ≤ a → h3 a = h a) (h4e : h4 = rup h3 147 (fup (h3 147) 0 0)) (hw : 0 ≤ w ∧ w < 3) (hxl : x < 4096) (hx : ∀ o : Nat, o < np → x.testBit o = true → mS (h 154) o ≠ -1) (hr : ∀ j : Int, 0 ≤ r j ∧ r j ≤ 1200) (KK : ∀ (h2 : Nat → Int → Int) (w6 : PV), vtF h4 h2 → (∀ j : Int, 0 ≤ j → j < 3 → h2 162 j = r j + (if j = w then pwV (xV X (h 154)) np x else 0)) → RR mX12_lobby 5 0 0 141 [pR 147, pI c, pI w, pI a, pI s, pI x, w6] [] (shp0, rf0, h2) Q) : ∀ (j p : Nat) (h1 : Nat → Int → Int), p + j = np → vtF h4 h1 → (∀ j : Int, 0 ≤ j → j < 3 → h1 162 j = r j + (if j = w then pwV (xV X (h 154)) p x else 0)) → RR mX12_lobby 5 0 0 93 [pR 147, pI c, pI w, pI a, pI s, pI x, pI p] [] (shp0, rf0, h1) Q := by
  have x12 := sR12 hs
  intro j
  induction j with
  | zero =>
    intro p h1 hp hf hpo
    obtain rfl : p = np := by omega
    obtain ⟨y1, y2, y3, y4, y5, y6, -⟩ := hypM hs hX e h4e hf
    refine R_iload dX12_lobby_93 rfl (?_ : RR _ _ _ _ 95 _ _ _ _)
    refine R_aload_n dX12_lobby_95 rfl (?_ : RR _ _ _ _ 96 _ _ _ _)
    refine R_geti (z := 5) dX12_lobby_96 flX12_127 cok_12 rfl (by decide) rfl (fun q96 => (?_ : RR _ _ _ _ 99 _ _ _ _))
    rw [y3] at q96 ⊢
    refine R_icmp_ge (t := 141) dX12_lobby_99 rfl (fun c99 => ?_) (fun c99 => ?_)
    rotate_left
    · exfalso; omega
    exact KK h1 _ hf hpo
  | succ j ih =>
    intro p h1 hp hf hpo
    obtain ⟨y1, y2, y3, y4, y5, y6, -⟩ := hypM hs hX e h4e hf
    have hpw := hpo w hw.1 hw.2
    rw [if_pos rfl] at hpw
    have hrw := hr w
    have hvb : 0 ≤ pwV (xV X (h 154)) p x ∧ pwV (xV X (h 154)) p x ≤ 99 * p := sm_b (by omega) (fun q => by have := xV_b (X := X) (f := h 154) (p := q); split <;> omega) p
    have hvo := xV_b (X := X) (f := h 154) (p := p)
    have IH := fun h1 hf hpo => ih (p + 1) h1 (by omega) hf hpo
    rw [show pwV (xV X (h 154)) (p + 1) x = pwV (xV X (h 154)) p x + (if x.testBit p then xV X (h 154) p else 0) from rfl] at IH
    by_cases y : x.testBit p = true
    · rw [if_pos y] at IH
      have hT := M_votes (o := p) hs hX e h4e hf (by omega) (hx p (by omega) y)
      have K2 : ∀ h5 : Nat → Int → Int, (∀ a, a ≠ 160 → a ≠ 161 → h5 a = h1 a) → RR mX12_lobby 5 0 0 133 [pR 147, pI c, pI w, pI a, pI s, pI x, pI p] [pI (xV X (h 154) p), pI (r w + pwV (xV X (h 154)) p x), pI w, pR 162] (shp0, rf0, h5) Q := by
        intro h5 hf5
        have e162 : h5 162 = h1 162 := hf5 162 (by omega) (by omega)
        have IH2 := IH (rup h5 162 (fup (h5 162) w (r w + pwV (xV X (h 154)) p x + xV X (h 154) p))) (fun a a1 a2 a3 => by rw [rup_n a3, hf5 a a1 a2]; exact hf a a1 a2 a3) (fun j j0 j1 => by
          rw [rup_s]
          by_cases z : j = w
          · rw [z, fup_s, if_pos rfl, Int.add_assoc]
          · rw [fup_n z, if_neg z, e162, hpo j j0 j1, if_neg z])
        refine R_iadd dX12_lobby_133 (?_ : RR _ _ _ _ 134 _ _ _ _)
        refine R_iast dX12_lobby_134 (?_ : RR _ _ _ _ 135 _ _ _ _)
        refine R_iinc dX12_lobby_135 rfl (Nat.le_of_ble_eq_true rfl) (?_ : RR _ _ _ _ 138 [_, _, _, _, _, _, _] _ _ _)
        refine R_goto (t := 93) dX12_lobby_138 rfl (?_ : RR _ _ _ _ 93 _ _ _ _)
        exact IH2
      refine R_iload dX12_lobby_93 rfl (?_ : RR _ _ _ _ 95 _ _ _ _)
      refine R_aload_n dX12_lobby_95 rfl (?_ : RR _ _ _ _ 96 _ _ _ _)
      refine R_geti (z := 5) dX12_lobby_96 flX12_127 cok_12 rfl (by decide) rfl (fun q96 => (?_ : RR _ _ _ _ 99 _ _ _ _))
      rw [y3] at q96 ⊢
      refine R_icmp_ge (t := 141) dX12_lobby_99 rfl (fun c99 => ?_) (fun c99 => ?_)
      · exfalso; omega
      refine R_aload_n dX12_lobby_102 rfl (?_ : RR _ _ _ _ 103 _ _ _ _)
      refine R_getr dX12_lobby_103 flX12_57 cok_12 rfl (by decide) (?_ : RR _ _ _ _ 106 _ _ _ _)
      refine R_iload_n dX12_lobby_106 rfl (?_ : RR _ _ _ _ 107 _ _ _ _)
      refine R_dup2 dX12_lobby_107 (fun _ => rfl) (fun _ => rfl) (?_ : RR _ _ _ _ 108 _ _ _ _)
      refine R_iald dX12_lobby_108 (fun q108 => (?_ : RR _ _ _ _ 109 _ _ _ _))
      rw [hpw] at q108 ⊢
      refine R_iload dX12_lobby_109 rfl (?_ : RR _ _ _ _ 111 _ _ _ _)
      refine R_iload dX12_lobby_111 rfl (?_ : RR _ _ _ _ 113 _ _ _ _)
      refine R_cSi2 dX12_lobby_113 msX12_has mlX12_288 (by decide) (Nat.le_of_ble_eq_true rfl) (Nat.le_of_ble_eq_true rfl) (T_X12_has (by omega)) (?_ : RR _ _ _ _ 116 _ _ _ _)
      rw [if_pos y]
      refine R_if_eq (t := 132) dX12_lobby_116 rfl (fun c116 => ?_) (fun c116 => ?_)
      · exfalso; omega
      refine R_aload_n dX12_lobby_119 rfl (?_ : RR _ _ _ _ 120 _ _ _ _)
      refine R_aload_n dX12_lobby_120 rfl (?_ : RR _ _ _ _ 121 _ _ _ _)
      refine R_getr dX12_lobby_121 flX12_33 cok_12 rfl (by decide) (?_ : RR _ _ _ _ 124 _ _ _ _)
      refine R_iload dX12_lobby_124 rfl (?_ : RR _ _ _ _ 126 _ _ _ _)
      refine R_qV2 dX12_lobby_126 mvX12_votesOf mlX12_294 (by decide) (by decide) (Nat.le_of_ble_eq_true rfl) (Nat.le_of_ble_eq_true rfl) (hT) (fun r9 g9 hq9 => (?_ : RR _ _ _ _ 129 _ _ _ _))
      obtain ⟨rfl, h5, rfl, hf5⟩ := hq9
      show RR _ _ _ _ _ _ [pI _, pI _, pI _, pR 162] _ _
      refine R_goto (t := 133) dX12_lobby_129 rfl (?_ : RR _ _ _ _ 133 _ _ _ _)
      exact K2 h5 hf5
    · rw [if_neg y, Int.add_zero] at IH
      refine R_iload dX12_lobby_93 rfl (?_ : RR _ _ _ _ 95 _ _ _ _)
      refine R_aload_n dX12_lobby_95 rfl (?_ : RR _ _ _ _ 96 _ _ _ _)
      refine R_geti (z := 5) dX12_lobby_96 flX12_127 cok_12 rfl (by decide) rfl (fun q96 => (?_ : RR _ _ _ _ 99 _ _ _ _))
      rw [y3] at q96 ⊢
      refine R_icmp_ge (t := 141) dX12_lobby_99 rfl (fun c99 => ?_) (fun c99 => ?_)
      · exfalso; omega
      refine R_aload_n dX12_lobby_102 rfl (?_ : RR _ _ _ _ 103 _ _ _ _)
      refine R_getr dX12_lobby_103 flX12_57 cok_12 rfl (by decide) (?_ : RR _ _ _ _ 106 _ _ _ _)
      refine R_iload_n dX12_lobby_106 rfl (?_ : RR _ _ _ _ 107 _ _ _ _)
      refine R_dup2 dX12_lobby_107 (fun _ => rfl) (fun _ => rfl) (?_ : RR _ _ _ _ 108 _ _ _ _)
      refine R_iald dX12_lobby_108 (fun q108 => (?_ : RR _ _ _ _ 109 _ _ _ _))
      rw [hpw] at q108 ⊢
      refine R_iload dX12_lobby_109 rfl (?_ : RR _ _ _ _ 111 _ _ _ _)
      refine R_iload dX12_lobby_111 rfl (?_ : RR _ _ _ _ 113 _ _ _ _)
      refine R_cSi2 dX12_lobby_113 msX12_has mlX12_288 (by decide) (Nat.le_of_ble_eq_true rfl) (Nat.le_of_ble_eq_true rfl) (T_X12_has (by omega)) (?_ : RR _ _ _ _ 116 _ _ _ _)
      rw [if_neg y]
      refine R_if_eq (t := 132) dX12_lobby_116 rfl (fun c116 => ?_) (fun c116 => ?_)
      rotate_left
      · exfalso; omega
      refine R_iconst dX12_lobby_132 (?_ : RR _ _ _ _ 133 _ _ _ _)
      refine R_iadd dX12_lobby_133 (?_ : RR _ _ _ _ 134 _ _ _ _)
      refine R_iast dX12_lobby_134 (?_ : RR _ _ _ _ 135 _ _ _ _)
      rw [Int.add_zero, ← hpw, fup_self, rup_self]
      refine R_iinc dX12_lobby_135 rfl (Nat.le_of_ble_eq_true rfl) (?_ : RR _ _ _ _ 138 [_, _, _, _, _, _, _] _ _ _)
      refine R_goto (t := 93) dX12_lobby_138 rfl (?_ : RR _ _ _ _ 93 _ _ _ _)
      exact IH h1 hf hpo
theorem MLB_141 {c s w a x val : Int} {win : Bool} {w6 : PV} {Q : Option PV → PH → Prop} (hw : 0 ≤ w ∧ w < 3) (hn : ∀ j : Int, 0 ≤ j → j < 3 → 0 ≤ h1 162 j) (hv : val = chS (h1 162 0) (h1 162 1) (h1 162 2)) (hwin : win = true ↔ val = w) (KK : RR mX12_lobby 5 0 0 158 [pR 147, pI c, pI w, pI a, pI (if win = true then x else s), pI x, w6] [] (shp0, rf0, h1) Q) : RR mX12_lobby 5 0 0 141 [pR 147, pI c, pI w, pI a, pI s, pI x, w6] [] (shp0, rf0, h1) Q := by
  have hT := T_X12_polled (h := h1) (hn 0 (by omega) (by omega)) (hn 1 (by omega) (by omega)) (hn 2 (by omega) (by omega))
  rw [← hv] at hT
  have hvb : 0 ≤ val ∧ val ≤ 2 := by rw [hv]; exact chS_b
  by_cases q : val = w
  · rw [if_pos (hwin.mpr q)] at KK
    refine R_aload_n dX12_lobby_141 rfl (?_ : RR _ _ _ _ 142 _ _ _ _)
    refine R_cVi0 dX12_lobby_142 mvX12_polled mlX12_300 (by decide) (by decide) (Nat.le_of_ble_eq_true rfl) (Nat.le_of_ble_eq_true rfl) (hT) (?_ : RR _ _ _ _ 145 _ _ _ _)
    refine R_iload_n dX12_lobby_145 rfl (?_ : RR _ _ _ _ 146 _ _ _ _)
    refine R_icmp_ne (t := 154) dX12_lobby_146 rfl (fun c146 => ?_) (fun c146 => ?_)
    · exfalso; omega
    refine R_iload dX12_lobby_149 rfl (?_ : RR _ _ _ _ 151 _ _ _ _)
    refine R_goto (t := 156) dX12_lobby_151 rfl (?_ : RR _ _ _ _ 156 _ _ _ _)
    refine R_istore dX12_lobby_156 (Nat.le_of_ble_eq_true rfl) (?_ : RR _ _ _ _ 158 [_, _, _, _, _, _, _] _ _ _)
    exact KK
  · rw [if_neg (fun z => q (hwin.mp z))] at KK
    refine R_aload_n dX12_lobby_141 rfl (?_ : RR _ _ _ _ 142 _ _ _ _)
    refine R_cVi0 dX12_lobby_142 mvX12_polled mlX12_300 (by decide) (by decide) (Nat.le_of_ble_eq_true rfl) (Nat.le_of_ble_eq_true rfl) (hT) (?_ : RR _ _ _ _ 145 _ _ _ _)
    refine R_iload_n dX12_lobby_145 rfl (?_ : RR _ _ _ _ 146 _ _ _ _)
    refine R_icmp_ne (t := 154) dX12_lobby_146 rfl (fun c146 => ?_) (fun c146 => ?_)
    rotate_left
    · exfalso; omega
    refine R_iload dX12_lobby_154 rfl (?_ : RR _ _ _ _ 156 _ _ _ _)
    refine R_istore dX12_lobby_156 (Nat.le_of_ble_eq_true rfl) (?_ : RR _ _ _ _ 158 [_, _, _, _, _, _, _] _ _ _)
    exact KK
theorem M_lobby {c : Nat} {w : Int} {win : Nat → Bool} {a o : Nat} {b : Int → Int} {s9 : Int} (hs : SRx k h sem H np nc len) (hX : X = cxM sem h np nc) (hc : c < nc) (hw : 0 ≤ w ∧ w < 3) (ha : a = bset (fun p => decide (mS (h 154) p = (c : Int))) np) (hb : b = poS (fun p => decide (mS (h 154) p = (c : Int))) (xV X (h 154)) (xWi X (h 154)) np) (ho : ∀ i, o.testBit i = (a.testBit i && decide (xWi X (h 154) i ≠ w ∧ 0 < xV X (h 154) i))) (hwin : ∀ x, win x = decide (wlW b (xV X (h 154)) (xWi X (h 154)) np w x = w)) (hs9 : lbC win (fun x => sub2 x o) s9) (e : ∀ a, 147 ≤ a → h3 a = h a) : RR mX12_lobby 5 0 0 0 (pm_ent [pR 147, pI c, pI w] 7) [] (shp0, rf0, h3) (mQ h3 (if s9 < 0 then -2 else pop 12 s9.toNat) (if s9 < 0 then none else some [s9])) := by
  have x6 := sR6 hs
  have x12 := sR12 hs
  have r154 := isRw_154
  have al := bset_4096 (P := fun p => decide (mS (h 154) p = (c : Int))) (n := np) x12
  rw [← ha] at al
  have hab : ∀ i, a.testBit i = true → i < np ∧ mS (h 154) i = c := fun i hi => by
    rw [ha, bset_bit] at hi
    simpa using hi
  have hb2 : ∀ j, b j = poS a.testBit (xV X (h 154)) (xWi X (h 154)) np j := fun j => by rw [hb, ha, poS_bset]
  show RR _ _ _ _ _ [pR 147, pI c, pI w, pU, pU, pU, pU] _ _ _
  obtain ⟨h4, h4e⟩ : ∃ h4, h4 = rup h3 147 (fup (h3 147) 0 0) := ⟨_, rfl⟩
  have L : ∀ (j x : Nat) (s : Int) (h1 : Nat → Int → Int) (w6 : PV), x + j = a + 1 → vtF h4 h1 → lbC win (fun y => y < x ∧ sub2 y a) s → RR mX12_lobby 5 0 0 43 [pR 147, pI c, pI w, pI a, pI s, pI x, w6] [] (shp0, rf0, h1) (mQ h3 (if s9 < 0 then -2 else pop 12 s9.toNat) (if s9 < 0 then none else some [s9])) := by
    intro j
    induction j with
    | zero =>
      intro x s h1 w6 hx hf1 hls
      obtain rfl : x = a + 1 := by omega
      have he : s = s9 := lbC_same hls hs9 (fun y hy => by
        have hya : sub2 y a := fun i hi => by
          have := hy i hi
          rw [ho i] at this
          simp only [Bool.and_eq_true] at this
          exact this.1
        exact ⟨by have := sub2_le hya; omega, hya⟩) (fun y hy hwy => by
        refine ⟨y &&& o, fun i hi => by rw [Nat.testBit_and] at hi; simp only [Bool.and_eq_true] at hi; exact hi.2, ?_, ?_⟩
        · rw [hwin] at hwy ⊢
          have hred : ∀ j, wlS b (xV X (h 154)) (xWi X (h 154)) np w (y &&& o) j = wlS b (xV X (h 154)) (xWi X (h 154)) np w y j := fun j => wlS_red (fun p hp hyp hop => by
            rw [ho p, hy.2 p hyp, Bool.true_and] at hop
            have := of_decide_eq_false hop
            have hv := xV_b (X := X) (f := h 154) (p := p)
            omega)
          unfold wlW at hwy ⊢
          rw [hred 0, hred 1, hred 2]
          exact hwy
        · have h1 := pop_and (x := y) (o := o) 12
          have h2 := sub2_le hy.2
          by_cases z : pop 12 (y &&& o) = pop 12 y
          · exact Or.inr (h1.2 z (show y < 4096 by omega))
          · exact Or.inl (by omega))
      subst he
      obtain ⟨y1, y2, y3, y4, y5, y6, -⟩ := hypM hs hX e h4e hf1
      have hsb := lbC_b hls (fun y hy => by omega)
      have hps := pop_le 12 s.toNat
      by_cases y : s < 0
      · rw [if_pos y, if_pos y]
        have hq : mQ h3 (-2) none (some (pI (-2))) (shp0, rf0, h1) := ⟨_, rfl, rfl, y6, by rw [hf1 147 (by omega) (by omega) (by omega), h4e, rup_s, fup_n (by omega)], by rw [hf1 148 (by omega) (by omega) (by omega), h4e, rup_n (by omega)]⟩
        refine R_iload dX12_lobby_43 rfl (?_ : RR _ _ _ _ 45 _ _ _ _)
        refine R_iload_n dX12_lobby_45 rfl (?_ : RR _ _ _ _ 46 _ _ _ _)
        refine R_icmp_gt (t := 164) dX12_lobby_46 rfl (fun c46 => ?_) (fun c46 => ?_)
        rotate_left
        · exfalso; omega
        refine R_iload dX12_lobby_164 rfl (?_ : RR _ _ _ _ 166 _ _ _ _)
        refine R_if_ge (t := 172) dX12_lobby_166 rfl (fun c166 => ?_) (fun c166 => ?_)
        · exfalso; omega
        refine R_bipush dX12_lobby_169 rfl (?_ : RR _ _ _ _ 171 _ _ _ _)
        exact R_ireturn dX12_lobby_171 trivial hq
      · rw [if_neg y, if_neg y]
        obtain ⟨t, rfl⟩ := Int.eq_ofNat_of_zero_le (show 0 ≤ s by omega)
        rw [Int.toNat_natCast] at hps ⊢
        refine R_iload dX12_lobby_43 rfl (?_ : RR _ _ _ _ 45 _ _ _ _)
        refine R_iload_n dX12_lobby_45 rfl (?_ : RR _ _ _ _ 46 _ _ _ _)
        refine R_icmp_gt (t := 164) dX12_lobby_46 rfl (fun c46 => ?_) (fun c46 => ?_)
        rotate_left
        · exfalso; omega
        refine R_iload dX12_lobby_164 rfl (?_ : RR _ _ _ _ 166 _ _ _ _)
        refine R_if_ge (t := 172) dX12_lobby_166 rfl (fun c166 => ?_) (fun c166 => ?_)
        rotate_left
        · exfalso; omega
        refine R_aload_n dX12_lobby_172 rfl (?_ : RR _ _ _ _ 173 _ _ _ _)
        refine R_iconst dX12_lobby_173 (?_ : RR _ _ _ _ 174 _ _ _ _)
        refine R_puti (zk := 1) dX12_lobby_174 flX12_113 cok_12 (by decide) (fun q hq => by cases hq; rfl) rfl (?_ : RR _ _ _ _ 177 _ _ _ _)
        show RR _ _ _ _ _ _ _ (shp0, rf0, tmR h1 []) _
        refine R_aload_n dX12_lobby_177 rfl (?_ : RR _ _ _ _ 178 _ _ _ _)
        refine R_iload dX12_lobby_178 rfl (?_ : RR _ _ _ _ 180 _ _ _ _)
        refine R_i2l dX12_lobby_180 (by first | assumption | omega) (?_ : RR _ _ _ _ 181 _ _ _ _)
        refine R_cVv1 dX12_lobby_181 mvX12_enters mlX12_116 (by decide) (by decide) (Nat.le_of_ble_eq_true rfl) (Nat.le_of_ble_eq_true rfl) (T_tma (by simp) (by omega)) (?_ : RR _ _ _ _ 184 _ _ _ _)
        refine R_iload dX12_lobby_184 rfl (?_ : RR _ _ _ _ 186 _ _ _ _)
        refine R_cSi1 dX12_lobby_186 msJ6_bitCount_0f7a4 mlX12_273 (by decide) (Nat.le_of_ble_eq_true rfl) (Nat.le_of_ble_eq_true rfl) (T_J6_bitCount_0f7a4) (?_ : RR _ _ _ _ 189 _ _ _ _)
        exact R_ireturn dX12_lobby_189 trivial (mQ_tm y6 rfl)
    | succ j ih =>
      intro x s h1 w6 hx hf1 hls
      have hxl : x < 4096 := by omega
      have hxb := iAndN (a := x) (b := a) (n := 12) (show x < 2 ^ 12 by omega) (by omega) (by omega)
      have hsb := lbC_b hls (fun y hy => by omega)
      by_cases q1 : bset (fun i => x.testBit i && !a.testBit i) 12 = 0
      · rw [q1] at hxb
        have hsx := (sub_0 (a := a) hxl).mp q1
        have hlb2 := lbC_s (D' := fun y => y < x + 1 ∧ sub2 y a) (x := x) hls (fun y hy => hy.1) (fun y => ⟨fun hy => by
          by_cases z : y = x
          · exact Or.inr z
          · exact Or.inl ⟨by omega, hy.2⟩, fun hy => by
          rcases hy with z | z
          · exact ⟨by omega, z.2⟩
          · rw [z]; exact ⟨by omega, hsx⟩⟩)
        have IH := fun h1 w6 hf1 => ih (x + 1) _ h1 w6 (by omega) hf1 hlb2
        have hpx := pop_le 12 x
        have hps := pop_le 12 s.toNat
        by_cases q2 : s < 0 ∨ pop 12 x < pop 12 s.toNat
        · rw [show lbF win x s = if win x = true then (x : Int) else s by
            unfold lbF
            by_cases z : win x = true
            · rw [if_pos ⟨q2, z⟩, if_pos z]
            · rw [if_neg (fun y => z y.2), if_neg z]] at IH
          have hR : ∀ i, (bset (fun i => a.testBit i && !x.testBit i) 12).testBit i = (a.testBit i && !x.testBit i) := fun i => by
            rw [bset_bit]
            cases hq : a.testBit i
            · simp
            · rw [decide_eq_true (tb_12 al hq), Bool.true_and]
          have hRl := bset_lt (fun i => a.testBit i && !x.testBit i) 12
          have hra := iAndN (a := a) (b := x) (n := 12) al (by omega) (by omega)
          have hpo := M_polls (S := bset (fun i => a.testBit i && !x.testBit i) 12) hs hX e h4e hf1 (fun p hp hb => by
            rw [hR p] at hb
            simp only [Bool.and_eq_true] at hb
            rw [(hab p hb.1).2]
            omega) hRl
          have K76 : RR mX12_lobby 5 0 0 76 [pR 147, pI c, pI w, pI a, pI s, pI x, w6] [] (shp0, rf0, h1) (mQ h3 (if s9 < 0 then -2 else pop 12 s9.toNat) (if s9 < 0 then none else some [s9])) := by
            have K158 : ∀ (h2 : Nat → Int → Int) (w6 : PV), vtF h4 h2 → RR mX12_lobby 5 0 0 158 [pR 147, pI c, pI w, pI a, pI (if win x = true then (x : Int) else s), pI x, w6] [] (shp0, rf0, h2) (mQ h3 (if s9 < 0 then -2 else pop 12 s9.toNat) (if s9 < 0 then none else some [s9])) := by
              intro h2 w6 hf2
              refine R_iinc dX12_lobby_158 rfl (Nat.le_of_ble_eq_true rfl) (?_ : RR _ _ _ _ 161 [_, _, _, _, _, _, _] _ _ _)
              refine R_goto (t := 43) dX12_lobby_161 rfl (?_ : RR _ _ _ _ 43 _ _ _ _)
              exact IH h2 _ hf2
            have hpb : ∀ j : Int, 0 ≤ poS (bset (fun i => a.testBit i && !x.testBit i) 12).testBit (xV X (h 154)) (xWi X (h 154)) np j ∧ poS (bset (fun i => a.testBit i && !x.testBit i) 12).testBit (xV X (h 154)) (xWi X (h 154)) np j ≤ 1200 := fun j => by
              have := poS_b (P := (bset (fun i => a.testBit i && !x.testBit i) 12).testBit) (V := xV X (h 154)) (W := xWi X (h 154)) (np := np) (j := j) (fun p => xV_b)
              omega
            have hpv : 0 ≤ pwV (xV X (h 154)) np x ∧ pwV (xV X (h 154)) np x ≤ 99 * np := sm_b (by omega) (fun q => by have := xV_b (X := X) (f := h 154) (p := q); split <;> omega) np
            have K93 := MLB_93 (c := c) (s := s) (w := w) (a := a) (x := x) (r := poS (bset (fun i => a.testBit i && !x.testBit i) 12).testBit (xV X (h 154)) (xWi X (h 154)) np) (Q := mQ h3 (if s9 < 0 then -2 else pop 12 s9.toNat) (if s9 < 0 then none else some [s9])) hs hX e h4e hw hxl (fun q hq hb => by rw [(hab q (hsx q hb)).2]; omega) hpb (fun h2 w6 hf2 hp2 => by
              have hwl : ∀ j : Int, 0 ≤ j → j < 3 → h2 162 j = wlS b (xV X (h 154)) (xWi X (h 154)) np w x j := fun j j0 j1 => by
                rw [hp2 j j0 j1, wlS_mod hsx hR np]
                unfold wlS
                rw [hb2]
              refine MLB_141 (win := win x) (val := wlW b (xV X (h 154)) (xWi X (h 154)) np w x) hw (fun j j0 j1 => ?_) ?_ (by rw [hwin]; exact decide_eq_true_iff) (K158 h2 w6 hf2)
              · rw [hp2 j j0 j1]
                have := (hpb j).1
                split <;> omega
              · unfold wlW
                rw [hwl 0 (by omega) (by omega), hwl 1 (by omega) (by omega), hwl 2 (by omega) (by omega)]) np 0
            have K94 : ∀ h2 : Nat → Int → Int, vtF h4 h2 → (∀ j : Int, 0 ≤ j → j < 3 → h2 162 j = poS (bset (fun i => a.testBit i && !x.testBit i) 12).testBit (xV X (h 154)) (xWi X (h 154)) np j) → RR mX12_lobby 5 0 0 93 [pR 147, pI c, pI w, pI a, pI s, pI x, pI 0] [] (shp0, rf0, h2) (mQ h3 (if s9 < 0 then -2 else pop 12 s9.toNat) (if s9 < 0 then none else some [s9])) := fun h2 hf2 hp2 => K93 h2 (by omega) hf2 (fun j j0 j1 => by
              rw [hp2 j j0 j1]
              show _ = _ + (if j = w then (0 : Int) else 0)
              split <;> omega)
            refine R_aload_n dX12_lobby_76 rfl (?_ : RR _ _ _ _ 77 _ _ _ _)
            refine R_aload_n dX12_lobby_77 rfl (?_ : RR _ _ _ _ 78 _ _ _ _)
            refine R_getr dX12_lobby_78 flX12_33 cok_12 rfl (by decide) (?_ : RR _ _ _ _ 81 _ _ _ _)
            refine R_iload_n dX12_lobby_81 rfl (?_ : RR _ _ _ _ 82 _ _ _ _)
            refine R_iload dX12_lobby_82 rfl (?_ : RR _ _ _ _ 84 _ _ _ _)
            refine R_iconst dX12_lobby_84 (?_ : RR _ _ _ _ 85 _ _ _ _)
            refine R_ixor dX12_lobby_85 (?_ : RR _ _ _ _ 86 _ _ _ _)
            refine R_iand dX12_lobby_86 (?_ : RR _ _ _ _ 87 _ _ _ _)
            rw [hra]
            refine R_qV2 dX12_lobby_87 mvX12_polls mlX12_297 (by decide) (by decide) (Nat.le_of_ble_eq_true rfl) (Nat.le_of_ble_eq_true rfl) (hpo) (fun r9 g9 hq9 => (?_ : RR _ _ _ _ 90 _ _ _ _))
            obtain ⟨rfl, h5, rfl, hf5, hp5⟩ := hq9
            show RR _ _ _ _ _ _ [] _ _
            refine R_iconst dX12_lobby_90 (?_ : RR _ _ _ _ 91 _ _ _ _)
            refine R_istore dX12_lobby_91 (Nat.le_of_ble_eq_true rfl) (?_ : RR _ _ _ _ 93 [_, _, _, _, _, _, _] _ _ _)
            exact K94 h5 (vtF_tr hf1 hf5) hp5
          by_cases q3 : s < 0
          · refine R_iload dX12_lobby_43 rfl (?_ : RR _ _ _ _ 45 _ _ _ _)
            refine R_iload_n dX12_lobby_45 rfl (?_ : RR _ _ _ _ 46 _ _ _ _)
            refine R_icmp_gt (t := 164) dX12_lobby_46 rfl (fun c46 => ?_) (fun c46 => ?_)
            · exfalso; omega
            refine R_iload dX12_lobby_49 rfl (?_ : RR _ _ _ _ 51 _ _ _ _)
            refine R_iload_n dX12_lobby_51 rfl (?_ : RR _ _ _ _ 52 _ _ _ _)
            refine R_iconst dX12_lobby_52 (?_ : RR _ _ _ _ 53 _ _ _ _)
            refine R_ixor dX12_lobby_53 (?_ : RR _ _ _ _ 54 _ _ _ _)
            refine R_iand dX12_lobby_54 (?_ : RR _ _ _ _ 55 _ _ _ _)
            rw [hxb]
            refine R_if_ne (t := 158) dX12_lobby_55 rfl (fun c55 => ?_) (fun c55 => ?_)
            · exfalso; omega
            refine R_iload dX12_lobby_58 rfl (?_ : RR _ _ _ _ 60 _ _ _ _)
            refine R_if_lt (t := 76) dX12_lobby_60 rfl (fun c60 => ?_) (fun c60 => ?_)
            rotate_left
            · exfalso; omega
            exact K76
          · obtain ⟨t, rfl⟩ := Int.eq_ofNat_of_zero_le (show 0 ≤ s by omega)
            rw [Int.toNat_natCast] at q2 hps
            refine R_iload dX12_lobby_43 rfl (?_ : RR _ _ _ _ 45 _ _ _ _)
            refine R_iload_n dX12_lobby_45 rfl (?_ : RR _ _ _ _ 46 _ _ _ _)
            refine R_icmp_gt (t := 164) dX12_lobby_46 rfl (fun c46 => ?_) (fun c46 => ?_)
            · exfalso; omega
            refine R_iload dX12_lobby_49 rfl (?_ : RR _ _ _ _ 51 _ _ _ _)
            refine R_iload_n dX12_lobby_51 rfl (?_ : RR _ _ _ _ 52 _ _ _ _)
            refine R_iconst dX12_lobby_52 (?_ : RR _ _ _ _ 53 _ _ _ _)
            refine R_ixor dX12_lobby_53 (?_ : RR _ _ _ _ 54 _ _ _ _)
            refine R_iand dX12_lobby_54 (?_ : RR _ _ _ _ 55 _ _ _ _)
            rw [hxb]
            refine R_if_ne (t := 158) dX12_lobby_55 rfl (fun c55 => ?_) (fun c55 => ?_)
            · exfalso; omega
            refine R_iload dX12_lobby_58 rfl (?_ : RR _ _ _ _ 60 _ _ _ _)
            refine R_if_lt (t := 76) dX12_lobby_60 rfl (fun c60 => ?_) (fun c60 => ?_)
            · exfalso; omega
            refine R_iload dX12_lobby_63 rfl (?_ : RR _ _ _ _ 65 _ _ _ _)
            refine R_cSi1 dX12_lobby_65 msJ6_bitCount_0f7a4 mlX12_273 (by decide) (Nat.le_of_ble_eq_true rfl) (Nat.le_of_ble_eq_true rfl) (T_J6_bitCount_0f7a4) (?_ : RR _ _ _ _ 68 _ _ _ _)
            refine R_iload dX12_lobby_68 rfl (?_ : RR _ _ _ _ 70 _ _ _ _)
            refine R_cSi1 dX12_lobby_70 msJ6_bitCount_0f7a4 mlX12_273 (by decide) (Nat.le_of_ble_eq_true rfl) (Nat.le_of_ble_eq_true rfl) (T_J6_bitCount_0f7a4) (?_ : RR _ _ _ _ 73 _ _ _ _)
            refine R_icmp_ge (t := 158) dX12_lobby_73 rfl (fun c73 => ?_) (fun c73 => ?_)
            · exfalso; omega
            exact K76
        · rw [show lbF win x s = s by unfold lbF; rw [if_neg (fun z => q2 z.1)]] at IH
          have q3 : ¬ s < 0 := fun z => q2 (Or.inl z)
          obtain ⟨t, rfl⟩ := Int.eq_ofNat_of_zero_le (show 0 ≤ s by omega)
          rw [Int.toNat_natCast] at q2 hps
          refine R_iload dX12_lobby_43 rfl (?_ : RR _ _ _ _ 45 _ _ _ _)
          refine R_iload_n dX12_lobby_45 rfl (?_ : RR _ _ _ _ 46 _ _ _ _)
          refine R_icmp_gt (t := 164) dX12_lobby_46 rfl (fun c46 => ?_) (fun c46 => ?_)
          · exfalso; omega
          refine R_iload dX12_lobby_49 rfl (?_ : RR _ _ _ _ 51 _ _ _ _)
          refine R_iload_n dX12_lobby_51 rfl (?_ : RR _ _ _ _ 52 _ _ _ _)
          refine R_iconst dX12_lobby_52 (?_ : RR _ _ _ _ 53 _ _ _ _)
          refine R_ixor dX12_lobby_53 (?_ : RR _ _ _ _ 54 _ _ _ _)
          refine R_iand dX12_lobby_54 (?_ : RR _ _ _ _ 55 _ _ _ _)
          rw [hxb]
          refine R_if_ne (t := 158) dX12_lobby_55 rfl (fun c55 => ?_) (fun c55 => ?_)
          · exfalso; omega
          refine R_iload dX12_lobby_58 rfl (?_ : RR _ _ _ _ 60 _ _ _ _)
          refine R_if_lt (t := 76) dX12_lobby_60 rfl (fun c60 => ?_) (fun c60 => ?_)
          · exfalso; omega
          refine R_iload dX12_lobby_63 rfl (?_ : RR _ _ _ _ 65 _ _ _ _)
          refine R_cSi1 dX12_lobby_65 msJ6_bitCount_0f7a4 mlX12_273 (by decide) (Nat.le_of_ble_eq_true rfl) (Nat.le_of_ble_eq_true rfl) (T_J6_bitCount_0f7a4) (?_ : RR _ _ _ _ 68 _ _ _ _)
          refine R_iload dX12_lobby_68 rfl (?_ : RR _ _ _ _ 70 _ _ _ _)
          refine R_cSi1 dX12_lobby_70 msJ6_bitCount_0f7a4 mlX12_273 (by decide) (Nat.le_of_ble_eq_true rfl) (Nat.le_of_ble_eq_true rfl) (T_J6_bitCount_0f7a4) (?_ : RR _ _ _ _ 73 _ _ _ _)
          refine R_icmp_ge (t := 158) dX12_lobby_73 rfl (fun c73 => ?_) (fun c73 => ?_)
          rotate_left
          · exfalso; omega
          refine R_iinc dX12_lobby_158 rfl (Nat.le_of_ble_eq_true rfl) (?_ : RR _ _ _ _ 161 [_, _, _, _, _, _, _] _ _ _)
          refine R_goto (t := 43) dX12_lobby_161 rfl (?_ : RR _ _ _ _ 43 _ _ _ _)
          exact IH h1 _ hf1
      · have hns : ¬ sub2 x a := fun z => q1 ((sub_0 hxl).mpr z)
        have IH := fun h1 w6 hf1 => ih (x + 1) s h1 w6 (by omega) hf1 (lbC_c hls (fun y => ⟨fun hy => ⟨by
          by_cases z : y = x
          · subst z; exact absurd hy.2 hns
          · omega, hy.2⟩, fun hy => ⟨by omega, hy.2⟩⟩))
        have hbl := bset_lt (fun i => x.testBit i && !a.testBit i) 12
        generalize bset (fun i => x.testBit i && !a.testBit i) 12 = B at q1 hxb hbl
        refine R_iload dX12_lobby_43 rfl (?_ : RR _ _ _ _ 45 _ _ _ _)
        refine R_iload_n dX12_lobby_45 rfl (?_ : RR _ _ _ _ 46 _ _ _ _)
        refine R_icmp_gt (t := 164) dX12_lobby_46 rfl (fun c46 => ?_) (fun c46 => ?_)
        · exfalso; omega
        refine R_iload dX12_lobby_49 rfl (?_ : RR _ _ _ _ 51 _ _ _ _)
        refine R_iload_n dX12_lobby_51 rfl (?_ : RR _ _ _ _ 52 _ _ _ _)
        refine R_iconst dX12_lobby_52 (?_ : RR _ _ _ _ 53 _ _ _ _)
        refine R_ixor dX12_lobby_53 (?_ : RR _ _ _ _ 54 _ _ _ _)
        refine R_iand dX12_lobby_54 (?_ : RR _ _ _ _ 55 _ _ _ _)
        rw [hxb]
        refine R_if_ne (t := 158) dX12_lobby_55 rfl (fun c55 => ?_) (fun c55 => ?_)
        rotate_left
        · exfalso; omega
        refine R_iinc dX12_lobby_158 rfl (Nat.le_of_ble_eq_true rfl) (?_ : RR _ _ _ _ 161 [_, _, _, _, _, _, _] _ _ _)
        refine R_goto (t := 43) dX12_lobby_161 rfl (?_ : RR _ _ _ _ 43 _ _ _ _)
        exact IH h1 _ hf1
  obtain ⟨y1, y2, y3, y4, y5, y6, y7⟩ := hypM hs hX e h4e vtF_rf
  have hsi := T_X12_sitting (h := h4) (r := 154) (np := np) (c := (c : Int)) y3
  rw [y4, ← ha] at hsi
  refine R_aload_n dX12_lobby_0 rfl (?_ : RR _ _ _ _ 1 _ _ _ _)
  refine R_iconst dX12_lobby_1 (?_ : RR _ _ _ _ 2 _ _ _ _)
  refine R_puti (zk := 0) dX12_lobby_2 flX12_106 cok_12 (by decide) (fun q hq => by cases hq; rfl) rfl (?_ : RR _ _ _ _ 5 _ _ _ _)
  rw [← h4e]
  refine R_aload_n dX12_lobby_5 rfl (?_ : RR _ _ _ _ 6 _ _ _ _)
  refine R_iload_n dX12_lobby_6 rfl (?_ : RR _ _ _ _ 7 _ _ _ _)
  refine R_cVi1 dX12_lobby_7 mvX12_isCoach mlX12_317 (by decide) (by decide) (Nat.le_of_ble_eq_true rfl) (Nat.le_of_ble_eq_true rfl) (T_X12_isCoach2 (z := 0) y7 x6 (by omega)) (?_ : RR _ _ _ _ 10 _ _ _ _)
  rw [if_pos (by omega)]
  refine R_if_eq (t := 25) dX12_lobby_10 rfl (fun c10 => ?_) (fun c10 => ?_)
  · exfalso; omega
  refine R_iload_n dX12_lobby_13 rfl (?_ : RR _ _ _ _ 14 _ _ _ _)
  refine R_i2l dX12_lobby_14 (by first | assumption | omega) (?_ : RR _ _ _ _ 15 _ _ _ _)
  refine R_lconst (z := 0) dX12_lobby_15 rfl (?_ : RR _ _ _ _ 16 _ _ _ _)
  refine R_ldc2 (z := 2) dX12_lobby_16 klX12_428 (?_ : RR _ _ _ _ 19 _ _ _ _)
  refine R_cSi3 dX12_lobby_19 msX12_in mlX12_120 (by decide) (Nat.le_of_ble_eq_true rfl) (Nat.le_of_ble_eq_true rfl) (T_X12_in) (?_ : RR _ _ _ _ 22 _ _ _ _)
  rw [if_pos (by omega)]
  refine R_if_ne (t := 27) dX12_lobby_22 rfl (fun c22 => ?_) (fun c22 => ?_)
  rotate_left
  · exfalso; omega
  refine R_aload_n dX12_lobby_27 rfl (?_ : RR _ _ _ _ 28 _ _ _ _)
  refine R_aload_n dX12_lobby_28 rfl (?_ : RR _ _ _ _ 29 _ _ _ _)
  refine R_getr dX12_lobby_29 flX12_33 cok_12 rfl (by decide) (?_ : RR _ _ _ _ 32 _ _ _ _)
  refine R_iload_n dX12_lobby_32 rfl (?_ : RR _ _ _ _ 33 _ _ _ _)
  refine R_cVi2 dX12_lobby_33 mvX12_sitting mlX12_270 (by decide) (by decide) (Nat.le_of_ble_eq_true rfl) (Nat.le_of_ble_eq_true rfl) (hsi) (?_ : RR _ _ _ _ 36 _ _ _ _)
  refine R_istore_n dX12_lobby_36 (Nat.le_of_ble_eq_true rfl) (?_ : RR _ _ _ _ 37 [_, _, _, _, _, _, _] _ _ _)
  refine R_iconst dX12_lobby_37 (?_ : RR _ _ _ _ 38 _ _ _ _)
  refine R_istore dX12_lobby_38 (Nat.le_of_ble_eq_true rfl) (?_ : RR _ _ _ _ 40 [_, _, _, _, _, _, _] _ _ _)
  refine R_iconst dX12_lobby_40 (?_ : RR _ _ _ _ 41 _ _ _ _)
  refine R_istore dX12_lobby_41 (Nat.le_of_ble_eq_true rfl) (?_ : RR _ _ _ _ 43 [_, _, _, _, _, _, _] _ _ _)
  exact L (a + 1) 0 (-1) h4 _ (by omega) vtF_rf (Or.inl ⟨rfl, fun y hy => by omega⟩)
theorem A_lobby (hs : SRx k h sem H np nc len) (hv : r32 v) (hu : r32 u) : AG mX11_lobby mX12_lobby 5 5 [pI v, pI u] k h := by
  have x6 := sR6 hs
  have x12 := sR12 hs
  have hcp := hs.2.2.2.1.1
  have e2 : h 14 2 = nc := hcp.2.2.2.1
  have t14 := isTr_14
  by_cases q : (0 ≤ v ∧ v < nc) ∧ 0 ≤ u ∧ u < 3
  · obtain ⟨c, rfl⟩ := Int.eq_ofNat_of_zero_le q.1.1
    obtain ⟨X, hX⟩ : ∃ X, X = cxM sem h np nc := ⟨_, rfl⟩
    obtain ⟨a, ha⟩ : ∃ a, a = bset (fun p => decide (mS (h 154) p = (c : Int))) np := ⟨_, rfl⟩
    obtain ⟨b, hb⟩ : ∃ b, b = poS (fun p => decide (mS (h 154) p = (c : Int))) (xV X (h 154)) (xWi X (h 154)) np := ⟨_, rfl⟩
    obtain ⟨o, ho9⟩ : ∃ o, o = bset (fun i => a.testBit i && decide (xWi X (h 154) i ≠ u ∧ 0 < xV X (h 154) i)) 12 := ⟨_, rfl⟩
    have al := bset_4096 (P := fun p => decide (mS (h 154) p = (c : Int))) (n := np) x12
    rw [← ha] at al
    have ho : ∀ i, o.testBit i = (a.testBit i && decide (xWi X (h 154) i ≠ u ∧ 0 < xV X (h 154) i)) := fun i => by
      rw [ho9, bset_bit]
      cases hq : a.testBit i
      · simp
      · rw [decide_eq_true (tb_12 al hq), Bool.true_and]
    have ho2 : o < 4096 := by rw [ho9]; exact bset_lt _ 12
    obtain ⟨win, hwin⟩ : ∃ win : Nat → Bool, ∀ x, win x = decide (wlW b (xV X (h 154)) (xWi X (h 154)) np u x = u) := ⟨fun x => decide (wlW b (xV X (h 154)) (xWi X (h 154)) np u x = u), fun _ => rfl⟩
    obtain ⟨s9, hs9⟩ := lb_ex (win := win) ho2
    exact A_q hs (C_lobby hs hX (by omega) q.2 ha hb ho ho2 hwin hs9) (fun h3 e => M_lobby hs hX (by omega) q.2 ha hb ho hwin hs9 e) (fun L e => by
      split at e
      · cases e
      · injection e with e; subst e; exact (by omega : 1 ≤ 12))
  · refine A_q hs (z := -1) (o := none) (cQ_no (M := mX11_lobby) (d := 5) (As := [pR 0, pI v, pI u]) (MT.of (fun Q hQ => (?_ : RR mX11_lobby _ _ _ _ [pR 0, pI v, pI u, pU, pU, pU, pU, pU, pU, pU, pU] _ _ _)))) (fun h3 e => mQ_thr (M := mX12_lobby) (d := 5) (As := [pR 147, pI v, pI u]) (MT.of (fun Q hQ => (?_ : RR mX12_lobby _ _ _ _ [pR 147, pI v, pI u, pU, pU, pU, pU] _ _ _)))) (fun L e => by cases e)
    · by_cases y : 0 ≤ v ∧ v < nc
      · by_cases z : u < 0
        · refine R_aload_n dX11_lobby_0 rfl (?_ : RR _ _ _ _ 1 _ _ _ _)
          refine R_getr dX11_lobby_1 flX11_36 cok_11 rfl (by decide) (?_ : RR _ _ _ _ 4 _ _ _ _)
          refine R_iload_n dX11_lobby_4 rfl (?_ : RR _ _ _ _ 5 _ _ _ _)
          refine R_cVi1 dX11_lobby_5 mvX9_has mlX11_174 (by decide) (by decide) (Nat.le_of_ble_eq_true rfl) (Nat.le_of_ble_eq_true rfl) (T_X9_has) (?_ : RR _ _ _ _ 8 _ _ _ _)
          rw [e2, if_pos y]
          refine R_if_eq (t := 20) dX11_lobby_8 rfl (fun c8 => ?_) (fun c8 => ?_)
          · exfalso; omega
          refine R_iload_n dX11_lobby_11 rfl (?_ : RR _ _ _ _ 12 _ _ _ _)
          refine R_if_lt (t := 20) dX11_lobby_12 rfl (fun c12 => ?_) (fun c12 => ?_)
          rotate_left
          · exfalso; omega
          refine R_iconst dX11_lobby_20 (?_ : RR _ _ _ _ 21 _ _ _ _)
          exact R_ireturn dX11_lobby_21 trivial hQ
        · refine R_aload_n dX11_lobby_0 rfl (?_ : RR _ _ _ _ 1 _ _ _ _)
          refine R_getr dX11_lobby_1 flX11_36 cok_11 rfl (by decide) (?_ : RR _ _ _ _ 4 _ _ _ _)
          refine R_iload_n dX11_lobby_4 rfl (?_ : RR _ _ _ _ 5 _ _ _ _)
          refine R_cVi1 dX11_lobby_5 mvX9_has mlX11_174 (by decide) (by decide) (Nat.le_of_ble_eq_true rfl) (Nat.le_of_ble_eq_true rfl) (T_X9_has) (?_ : RR _ _ _ _ 8 _ _ _ _)
          rw [e2, if_pos y]
          refine R_if_eq (t := 20) dX11_lobby_8 rfl (fun c8 => ?_) (fun c8 => ?_)
          · exfalso; omega
          refine R_iload_n dX11_lobby_11 rfl (?_ : RR _ _ _ _ 12 _ _ _ _)
          refine R_if_lt (t := 20) dX11_lobby_12 rfl (fun c12 => ?_) (fun c12 => ?_)
          · exfalso; omega
          refine R_iload_n dX11_lobby_15 rfl (?_ : RR _ _ _ _ 16 _ _ _ _)
          refine R_iconst dX11_lobby_16 (?_ : RR _ _ _ _ 17 _ _ _ _)
          refine R_icmp_le (t := 22) dX11_lobby_17 rfl (fun c17 => ?_) (fun c17 => ?_)
          · exfalso; omega
          refine R_iconst dX11_lobby_20 (?_ : RR _ _ _ _ 21 _ _ _ _)
          exact R_ireturn dX11_lobby_21 trivial hQ
      · refine R_aload_n dX11_lobby_0 rfl (?_ : RR _ _ _ _ 1 _ _ _ _)
        refine R_getr dX11_lobby_1 flX11_36 cok_11 rfl (by decide) (?_ : RR _ _ _ _ 4 _ _ _ _)
        refine R_iload_n dX11_lobby_4 rfl (?_ : RR _ _ _ _ 5 _ _ _ _)
        refine R_cVi1 dX11_lobby_5 mvX9_has mlX11_174 (by decide) (by decide) (Nat.le_of_ble_eq_true rfl) (Nat.le_of_ble_eq_true rfl) (T_X9_has) (?_ : RR _ _ _ _ 8 _ _ _ _)
        rw [e2, if_neg y]
        refine R_if_eq (t := 20) dX11_lobby_8 rfl (fun c8 => ?_) (fun c8 => ?_)
        rotate_left
        · exfalso; omega
        refine R_iconst dX11_lobby_20 (?_ : RR _ _ _ _ 21 _ _ _ _)
        exact R_ireturn dX11_lobby_21 trivial hQ
    · have g4 : rup h3 147 (fup (h3 147) 0 0) 147 4 = nc := by rw [rup_s, fup_n (by omega), e 147 (by omega)]; exact hs.1.2.1
      by_cases y : 0 ≤ v ∧ v < nc
      · refine R_aload_n dX12_lobby_0 rfl (?_ : RR _ _ _ _ 1 _ _ _ _)
        refine R_iconst dX12_lobby_1 (?_ : RR _ _ _ _ 2 _ _ _ _)
        refine R_puti (zk := 0) dX12_lobby_2 flX12_106 cok_12 (by decide) (fun q hq => by cases hq; rfl) rfl (?_ : RR _ _ _ _ 5 _ _ _ _)
        refine R_aload_n dX12_lobby_5 rfl (?_ : RR _ _ _ _ 6 _ _ _ _)
        refine R_iload_n dX12_lobby_6 rfl (?_ : RR _ _ _ _ 7 _ _ _ _)
        refine R_cVi1 dX12_lobby_7 mvX12_isCoach mlX12_317 (by decide) (by decide) (Nat.le_of_ble_eq_true rfl) (Nat.le_of_ble_eq_true rfl) (T_X12_isCoach2 (z := 0) g4 x6 (by omega)) (?_ : RR _ _ _ _ 10 _ _ _ _)
        rw [if_pos y]
        refine R_if_eq (t := 25) dX12_lobby_10 rfl (fun c10 => ?_) (fun c10 => ?_)
        · exfalso; omega
        refine R_iload_n dX12_lobby_13 rfl (?_ : RR _ _ _ _ 14 _ _ _ _)
        refine R_i2l dX12_lobby_14 (by first | assumption | omega) (?_ : RR _ _ _ _ 15 _ _ _ _)
        refine R_lconst (z := 0) dX12_lobby_15 rfl (?_ : RR _ _ _ _ 16 _ _ _ _)
        refine R_ldc2 (z := 2) dX12_lobby_16 klX12_428 (?_ : RR _ _ _ _ 19 _ _ _ _)
        refine R_cSi3 dX12_lobby_19 msX12_in mlX12_120 (by decide) (Nat.le_of_ble_eq_true rfl) (Nat.le_of_ble_eq_true rfl) (T_X12_in) (?_ : RR _ _ _ _ 22 _ _ _ _)
        rw [if_neg (fun z => q ⟨y, z.1, by omega⟩)]
        refine R_if_ne (t := 27) dX12_lobby_22 rfl (fun c22 => ?_) (fun c22 => ?_)
        · exfalso; omega
        refine R_iconst dX12_lobby_25 (?_ : RR _ _ _ _ 26 _ _ _ _)
        exact R_ireturn dX12_lobby_26 trivial hQ
      · refine R_aload_n dX12_lobby_0 rfl (?_ : RR _ _ _ _ 1 _ _ _ _)
        refine R_iconst dX12_lobby_1 (?_ : RR _ _ _ _ 2 _ _ _ _)
        refine R_puti (zk := 0) dX12_lobby_2 flX12_106 cok_12 (by decide) (fun q hq => by cases hq; rfl) rfl (?_ : RR _ _ _ _ 5 _ _ _ _)
        refine R_aload_n dX12_lobby_5 rfl (?_ : RR _ _ _ _ 6 _ _ _ _)
        refine R_iload_n dX12_lobby_6 rfl (?_ : RR _ _ _ _ 7 _ _ _ _)
        refine R_cVi1 dX12_lobby_7 mvX12_isCoach mlX12_317 (by decide) (by decide) (Nat.le_of_ble_eq_true rfl) (Nat.le_of_ble_eq_true rfl) (T_X12_isCoach2 (z := 0) g4 x6 (by omega)) (?_ : RR _ _ _ _ 10 _ _ _ _)
        rw [if_neg y]
        refine R_if_eq (t := 25) dX12_lobby_10 rfl (fun c10 => ?_) (fun c10 => ?_)
        rotate_left
        · exfalso; omega
        refine R_iconst dX12_lobby_25 (?_ : RR _ _ _ _ 26 _ _ _ _)
        exact R_ireturn dX12_lobby_26 trivial hQ
end ML2
