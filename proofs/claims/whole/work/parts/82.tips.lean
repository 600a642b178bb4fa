/-- a vote, if one wished otherwise -/
def tpV (b V W : Int → Int) (p : Nat) (w : Int) : Int := chS (b 0 + ((if 0 = w then V p else 0) - (if W p = 0 then V p else 0))) (b 1 + ((if 1 = w then V p else 0) - (if W p = 1 then V p else 0))) (b 2 + ((if 2 = w then V p else 0) - (if W p = 2 then V p else 0)))
section TI
variable {k : Nat} {h h1 h2 h3 h4 : Nat → Int → Int} {sem : Sem} {H np nc len : Nat} {v : Int}
theorem wnV_1 {V W su b V' W' : Int → Int} {c w : Int} {p : Nat} (hp : p < 12) (hW : W p ≠ -1) (hV : V p = V' p ∧ W p = W' p) (hb : ∀ j : Int, 0 ≤ j → j < 3 → su (3 * c + j) = b j) : wnV V W su c w (2 ^ p) = tpV b V' W' p w := by
  have key : ∀ j : Int, 0 ≤ j → j < 3 → wnG V W su c w (2 ^ p) 12 j = b j + ((if j = w then V' p else 0) - (if W' p = j then V' p else 0)) := fun j j0 j1 => by
    unfold wnG
    rw [hb j j0 j1, sm_ptv (c0 := p) (v := (if j = w then V' p else 0) - (if W' p = j then V' p else 0)) hp (fun q _ => ?_)]
    rw [Nat.testBit_two_pow]
    by_cases z : q = p
    · subst z
      rw [if_pos ⟨by simp, hW⟩, if_pos rfl, hV.1, hV.2]
    · rw [if_neg (fun y => by simp at y; omega), if_neg z]
  unfold wnV tpV
  rw [key 0 (by omega) (by omega), key 1 (by omega) (by omega), key 2 (by omega) (by omega)]
theorem poS_ge {P : Nat → Bool} {V W : Int → Int} {j : Int} (hV : ∀ p : Nat, 0 ≤ V p) : ∀ {n : Nat} {p : Nat}, p < n → P p = true → W p = j → V p ≤ poS P V W n j
  | 0, p, hp, _, _ => by omega
  | n + 1, p, hp, hP, hW => by
    show V p ≤ sm _ n + (if P n = true ∧ W n = j then V n else 0)
    have h0 : ∀ m : Nat, 0 ≤ poS P V W m j := fun m => by
      induction m with
      | zero => exact Int.le_refl _
      | succ m ih =>
        show 0 ≤ sm _ m + (if P m = true ∧ W m = j then V m else 0)
        have := hV m
        have ih : 0 ≤ sm (fun p => if P p = true ∧ W p = j then V p else 0) m := ih
        split <;> omega
    by_cases q : p = n
    · subst q
      rw [if_pos ⟨hP, hW⟩]
      have : 0 ≤ sm (fun p => if P p = true ∧ W p = j then V p else 0) p := h0 p
      omega
    · have : V p ≤ sm (fun p => if P p = true ∧ W p = j then V p else 0) n := poS_ge hV (n := n) (by omega) hP hW
      have := hV n
      split <;> omega
theorem C_isTipping {c : Int} {p : Nat} {b V W : Int → Int} {as : Int} (hc : 0 ≤ c ∧ c < 6) (hp : p < 12) (hV : h 37 p = V p) (hW : h 38 p = W p) (hVb : 0 ≤ V p ∧ V p ≤ 99) (hWb : 0 ≤ W p ∧ W p < 3) (hb : ∀ j : Int, 0 ≤ j → j < 3 → h 39 (3 * c + j) = b j ∧ 0 ≤ b j ∧ b j ≤ 2000) (has : as = chS (b 0) (b 1) (b 2)) : RR mX10_isTipping 2 0 0 0 (pm_ent [pR 36, pI c, pI p] 5) [] (shp0, rf0, h) (fun r' g' => r' = some (pI (if tpV b V W p 0 ≠ as ∨ tpV b V W p 1 ≠ as ∨ tpV b V W p 2 ≠ as then 1 else 0)) ∧ ∃ s, g' = (shp0, rf0, rup h 42 s)) := by
  suffices hS : ∀ Q : Option PV → PH → Prop, (∀ s, Q (some (pI (if tpV b V W p 0 ≠ as ∨ tpV b V W p 1 ≠ as ∨ tpV b V W p 2 ≠ as then 1 else 0))) (shp0, rf0, rup h 42 s)) → RR mX10_isTipping 2 0 0 0 [pR 36, pI c, pI p, pU, pU] [] (shp0, rf0, h) Q from hS _ (fun s => ⟨rfl, s, rfl⟩)
  intro Q hQ
  have hvo : vcS (h 39) c = as := by
    rw [has]
    unfold vcS
    rw [← (hb 0 (by omega) (by omega)).1, ← (hb 1 (by omega) (by omega)).1, ← (hb 2 (by omega) (by omega)).1, Int.add_zero]
  have hasb : 0 ≤ as ∧ as ≤ 2 := by rw [has]; exact chS_b
  have hsh := iShl_one p (by omega)
  have hpw : 2 ^ p < 2 ^ 12 := Nat.pow_lt_pow_right (by omega) hp
  have hwon : ∀ (s : Int → Int) (w : Int), 0 ≤ w → w < 3 → ∃ s', MT mX10_voteIfWon 1 [pR 36, pI c, pI (2 ^ p : Nat), pI w] (rup h 42 s) (some (pI (tpV b V W p w))) (rup h 42 s') := fun s w w0 w1 => by
    have hT := T_X10_voteIfWon (h := rup h 42 s) (c := c) (w := w) (S := 2 ^ p) hpw hc ⟨w0, w1⟩ (fun q hq => by
      rw [Nat.testBit_two_pow] at hq
      have : p = q := of_decide_eq_true hq
      subst this
      rw [rup_n (by omega), hV]
      exact hVb) (fun q hq => by
      rw [Nat.testBit_two_pow] at hq
      have : p = q := of_decide_eq_true hq
      subst this
      rw [rup_n (by omega), hW]
      exact Or.inr hWb) (fun j j0 j1 => by
      rw [rup_n (by omega)]
      have := hb j j0 j1
      omega)
    rw [rup_n (by omega), rup_n (by omega), rup_n (by omega), rup_rup, wnV_1 (V' := V) (W' := W) (b := b) hp (by rw [hW]; omega) ⟨hV, hW⟩ (fun j j0 j1 => (hb j j0 j1).1)] at hT
    exact ⟨_, hT⟩
  have htb : ∀ w : Int, 0 ≤ tpV b V W p w ∧ tpV b V W p w ≤ 2 := fun w => chS_b
  have t0 := htb 0
  have t1 := htb 1
  have t2 := htb 2
  have K3 : ∀ s : Int → Int, tpV b V W p 0 = as → tpV b V W p 1 = as → RR mX10_isTipping 2 0 0 9 [pR 36, pI c, pI p, pI as, pI 2] [] (shp0, rf0, rup h 42 s) Q := by
    intro s e0 e1
    obtain ⟨s2, hT⟩ := hwon s 2 (by omega) (by omega)
    by_cases y : tpV b V W p 2 = as
    · have hq := hQ s2
      rw [if_neg (fun z => z.elim (fun z => z e0) (fun z => z.elim (fun z => z e1) (fun z => z y)))] at hq
      have K4 : RR mX10_isTipping 2 0 0 9 [pR 36, pI c, pI p, pI as, pI 3] [] (shp0, rf0, rup h 42 s2) Q := by
        refine R_iload dX10_isTipping_9 rfl (?_ : RR _ _ _ _ 11 _ _ _ _)
        refine R_iconst dX10_isTipping_11 (?_ : RR _ _ _ _ 12 _ _ _ _)
        refine R_icmp_gt (t := 37) dX10_isTipping_12 rfl (fun c12 => ?_) (fun c12 => ?_)
        rotate_left
        · exfalso; omega
        refine R_iconst dX10_isTipping_37 (?_ : RR _ _ _ _ 38 _ _ _ _)
        exact R_ireturn dX10_isTipping_38 (by first | exact Or.inl rfl | exact Or.inr rfl | exact ok_ite | omega) hq
      refine R_iload dX10_isTipping_9 rfl (?_ : RR _ _ _ _ 11 _ _ _ _)
      refine R_iconst dX10_isTipping_11 (?_ : RR _ _ _ _ 12 _ _ _ _)
      refine R_icmp_gt (t := 37) dX10_isTipping_12 rfl (fun c12 => ?_) (fun c12 => ?_)
      · exfalso; omega
      refine R_aload_n dX10_isTipping_15 rfl (?_ : RR _ _ _ _ 16 _ _ _ _)
      refine R_iload_n dX10_isTipping_16 rfl (?_ : RR _ _ _ _ 17 _ _ _ _)
      refine R_iconst dX10_isTipping_17 (?_ : RR _ _ _ _ 18 _ _ _ _)
      refine R_iload_n dX10_isTipping_18 rfl (?_ : RR _ _ _ _ 19 _ _ _ _)
      refine R_ishl dX10_isTipping_19 (?_ : RR _ _ _ _ 20 _ _ _ _)
      rw [hsh]
      refine R_iload dX10_isTipping_20 rfl (?_ : RR _ _ _ _ 22 _ _ _ _)
      refine R_cVi3 dX10_isTipping_22 mvX10_voteIfWon mlX10_96 (by decide) (by decide) (Nat.le_of_ble_eq_true rfl) (Nat.le_of_ble_eq_true rfl) (hT) (?_ : RR _ _ _ _ 25 _ _ _ _)
      refine R_iload_n dX10_isTipping_25 rfl (?_ : RR _ _ _ _ 26 _ _ _ _)
      refine R_icmp_eq (t := 31) dX10_isTipping_26 rfl (fun c26 => ?_) (fun c26 => ?_)
      rotate_left
      · exfalso; omega
      refine R_iinc dX10_isTipping_31 rfl (Nat.le_of_ble_eq_true rfl) (?_ : RR _ _ _ _ 34 [_, _, _, _, _] _ _ _)
      refine R_goto (t := 9) dX10_isTipping_34 rfl (?_ : RR _ _ _ _ 9 _ _ _ _)
      exact K4
    · have hq := hQ s2
      rw [if_pos (Or.inr (Or.inr y))] at hq
      refine R_iload dX10_isTipping_9 rfl (?_ : RR _ _ _ _ 11 _ _ _ _)
      refine R_iconst dX10_isTipping_11 (?_ : RR _ _ _ _ 12 _ _ _ _)
      refine R_icmp_gt (t := 37) dX10_isTipping_12 rfl (fun c12 => ?_) (fun c12 => ?_)
      · exfalso; omega
      refine R_aload_n dX10_isTipping_15 rfl (?_ : RR _ _ _ _ 16 _ _ _ _)
      refine R_iload_n dX10_isTipping_16 rfl (?_ : RR _ _ _ _ 17 _ _ _ _)
      refine R_iconst dX10_isTipping_17 (?_ : RR _ _ _ _ 18 _ _ _ _)
      refine R_iload_n dX10_isTipping_18 rfl (?_ : RR _ _ _ _ 19 _ _ _ _)
      refine R_ishl dX10_isTipping_19 (?_ : RR _ _ _ _ 20 _ _ _ _)
      rw [hsh]
      refine R_iload dX10_isTipping_20 rfl (?_ : RR _ _ _ _ 22 _ _ _ _)
      refine R_cVi3 dX10_isTipping_22 mvX10_voteIfWon mlX10_96 (by decide) (by decide) (Nat.le_of_ble_eq_true rfl) (Nat.le_of_ble_eq_true rfl) (hT) (?_ : RR _ _ _ _ 25 _ _ _ _)
      refine R_iload_n dX10_isTipping_25 rfl (?_ : RR _ _ _ _ 26 _ _ _ _)
      refine R_icmp_eq (t := 31) dX10_isTipping_26 rfl (fun c26 => ?_) (fun c26 => ?_)
      · exfalso; omega
      refine R_iconst dX10_isTipping_29 (?_ : RR _ _ _ _ 30 _ _ _ _)
      exact R_ireturn dX10_isTipping_30 (by first | exact Or.inl rfl | exact Or.inr rfl | exact ok_ite | omega) hq
  have K2 : ∀ s : Int → Int, tpV b V W p 0 = as → RR mX10_isTipping 2 0 0 9 [pR 36, pI c, pI p, pI as, pI 1] [] (shp0, rf0, rup h 42 s) Q := by
    intro s e0
    obtain ⟨s2, hT⟩ := hwon s 1 (by omega) (by omega)
    by_cases y : tpV b V W p 1 = as
    · refine R_iload dX10_isTipping_9 rfl (?_ : RR _ _ _ _ 11 _ _ _ _)
      refine R_iconst dX10_isTipping_11 (?_ : RR _ _ _ _ 12 _ _ _ _)
      refine R_icmp_gt (t := 37) dX10_isTipping_12 rfl (fun c12 => ?_) (fun c12 => ?_)
      · exfalso; omega
      refine R_aload_n dX10_isTipping_15 rfl (?_ : RR _ _ _ _ 16 _ _ _ _)
      refine R_iload_n dX10_isTipping_16 rfl (?_ : RR _ _ _ _ 17 _ _ _ _)
      refine R_iconst dX10_isTipping_17 (?_ : RR _ _ _ _ 18 _ _ _ _)
      refine R_iload_n dX10_isTipping_18 rfl (?_ : RR _ _ _ _ 19 _ _ _ _)
      refine R_ishl dX10_isTipping_19 (?_ : RR _ _ _ _ 20 _ _ _ _)
      rw [hsh]
      refine R_iload dX10_isTipping_20 rfl (?_ : RR _ _ _ _ 22 _ _ _ _)
      refine R_cVi3 dX10_isTipping_22 mvX10_voteIfWon mlX10_96 (by decide) (by decide) (Nat.le_of_ble_eq_true rfl) (Nat.le_of_ble_eq_true rfl) (hT) (?_ : RR _ _ _ _ 25 _ _ _ _)
      refine R_iload_n dX10_isTipping_25 rfl (?_ : RR _ _ _ _ 26 _ _ _ _)
      refine R_icmp_eq (t := 31) dX10_isTipping_26 rfl (fun c26 => ?_) (fun c26 => ?_)
      rotate_left
      · exfalso; omega
      refine R_iinc dX10_isTipping_31 rfl (Nat.le_of_ble_eq_true rfl) (?_ : RR _ _ _ _ 34 [_, _, _, _, _] _ _ _)
      refine R_goto (t := 9) dX10_isTipping_34 rfl (?_ : RR _ _ _ _ 9 _ _ _ _)
      exact K3 s2 e0 y
    · have hq := hQ s2
      rw [if_pos (Or.inr (Or.inl y))] at hq
      refine R_iload dX10_isTipping_9 rfl (?_ : RR _ _ _ _ 11 _ _ _ _)
      refine R_iconst dX10_isTipping_11 (?_ : RR _ _ _ _ 12 _ _ _ _)
      refine R_icmp_gt (t := 37) dX10_isTipping_12 rfl (fun c12 => ?_) (fun c12 => ?_)
      · exfalso; omega
      refine R_aload_n dX10_isTipping_15 rfl (?_ : RR _ _ _ _ 16 _ _ _ _)
      refine R_iload_n dX10_isTipping_16 rfl (?_ : RR _ _ _ _ 17 _ _ _ _)
      refine R_iconst dX10_isTipping_17 (?_ : RR _ _ _ _ 18 _ _ _ _)
      refine R_iload_n dX10_isTipping_18 rfl (?_ : RR _ _ _ _ 19 _ _ _ _)
      refine R_ishl dX10_isTipping_19 (?_ : RR _ _ _ _ 20 _ _ _ _)
      rw [hsh]
      refine R_iload dX10_isTipping_20 rfl (?_ : RR _ _ _ _ 22 _ _ _ _)
      refine R_cVi3 dX10_isTipping_22 mvX10_voteIfWon mlX10_96 (by decide) (by decide) (Nat.le_of_ble_eq_true rfl) (Nat.le_of_ble_eq_true rfl) (hT) (?_ : RR _ _ _ _ 25 _ _ _ _)
      refine R_iload_n dX10_isTipping_25 rfl (?_ : RR _ _ _ _ 26 _ _ _ _)
      refine R_icmp_eq (t := 31) dX10_isTipping_26 rfl (fun c26 => ?_) (fun c26 => ?_)
      · exfalso; omega
      refine R_iconst dX10_isTipping_29 (?_ : RR _ _ _ _ 30 _ _ _ _)
      exact R_ireturn dX10_isTipping_30 (by first | exact Or.inl rfl | exact Or.inr rfl | exact ok_ite | omega) hq
  have K1 : RR mX10_isTipping 2 0 0 9 [pR 36, pI c, pI p, pI as, pI 0] [] (shp0, rf0, rup h 42 (h 42)) Q := by
    obtain ⟨s2, hT⟩ := hwon (h 42) 0 (by omega) (by omega)
    by_cases y : tpV b V W p 0 = as
    · refine R_iload dX10_isTipping_9 rfl (?_ : RR _ _ _ _ 11 _ _ _ _)
      refine R_iconst dX10_isTipping_11 (?_ : RR _ _ _ _ 12 _ _ _ _)
      refine R_icmp_gt (t := 37) dX10_isTipping_12 rfl (fun c12 => ?_) (fun c12 => ?_)
      · exfalso; omega
      refine R_aload_n dX10_isTipping_15 rfl (?_ : RR _ _ _ _ 16 _ _ _ _)
      refine R_iload_n dX10_isTipping_16 rfl (?_ : RR _ _ _ _ 17 _ _ _ _)
      refine R_iconst dX10_isTipping_17 (?_ : RR _ _ _ _ 18 _ _ _ _)
      refine R_iload_n dX10_isTipping_18 rfl (?_ : RR _ _ _ _ 19 _ _ _ _)
      refine R_ishl dX10_isTipping_19 (?_ : RR _ _ _ _ 20 _ _ _ _)
      rw [hsh]
      refine R_iload dX10_isTipping_20 rfl (?_ : RR _ _ _ _ 22 _ _ _ _)
      refine R_cVi3 dX10_isTipping_22 mvX10_voteIfWon mlX10_96 (by decide) (by decide) (Nat.le_of_ble_eq_true rfl) (Nat.le_of_ble_eq_true rfl) (hT) (?_ : RR _ _ _ _ 25 _ _ _ _)
      refine R_iload_n dX10_isTipping_25 rfl (?_ : RR _ _ _ _ 26 _ _ _ _)
      refine R_icmp_eq (t := 31) dX10_isTipping_26 rfl (fun c26 => ?_) (fun c26 => ?_)
      rotate_left
      · exfalso; omega
      refine R_iinc dX10_isTipping_31 rfl (Nat.le_of_ble_eq_true rfl) (?_ : RR _ _ _ _ 34 [_, _, _, _, _] _ _ _)
      refine R_goto (t := 9) dX10_isTipping_34 rfl (?_ : RR _ _ _ _ 9 _ _ _ _)
      exact K2 s2 y
    · have hq := hQ s2
      rw [if_pos (Or.inl y)] at hq
      refine R_iload dX10_isTipping_9 rfl (?_ : RR _ _ _ _ 11 _ _ _ _)
      refine R_iconst dX10_isTipping_11 (?_ : RR _ _ _ _ 12 _ _ _ _)
      refine R_icmp_gt (t := 37) dX10_isTipping_12 rfl (fun c12 => ?_) (fun c12 => ?_)
      · exfalso; omega
      refine R_aload_n dX10_isTipping_15 rfl (?_ : RR _ _ _ _ 16 _ _ _ _)
      refine R_iload_n dX10_isTipping_16 rfl (?_ : RR _ _ _ _ 17 _ _ _ _)
      refine R_iconst dX10_isTipping_17 (?_ : RR _ _ _ _ 18 _ _ _ _)
      refine R_iload_n dX10_isTipping_18 rfl (?_ : RR _ _ _ _ 19 _ _ _ _)
      refine R_ishl dX10_isTipping_19 (?_ : RR _ _ _ _ 20 _ _ _ _)
      rw [hsh]
      refine R_iload dX10_isTipping_20 rfl (?_ : RR _ _ _ _ 22 _ _ _ _)
      refine R_cVi3 dX10_isTipping_22 mvX10_voteIfWon mlX10_96 (by decide) (by decide) (Nat.le_of_ble_eq_true rfl) (Nat.le_of_ble_eq_true rfl) (hT) (?_ : RR _ _ _ _ 25 _ _ _ _)
      refine R_iload_n dX10_isTipping_25 rfl (?_ : RR _ _ _ _ 26 _ _ _ _)
      refine R_icmp_eq (t := 31) dX10_isTipping_26 rfl (fun c26 => ?_) (fun c26 => ?_)
      · exfalso; omega
      refine R_iconst dX10_isTipping_29 (?_ : RR _ _ _ _ 30 _ _ _ _)
      exact R_ireturn dX10_isTipping_30 (by first | exact Or.inl rfl | exact Or.inr rfl | exact ok_ite | omega) hq
  rw [rup_self] at K1
  refine R_aload_n dX10_isTipping_0 rfl (?_ : RR _ _ _ _ 1 _ _ _ _)
  refine R_iload_n dX10_isTipping_1 rfl (?_ : RR _ _ _ _ 2 _ _ _ _)
  refine R_cVi1 dX10_isTipping_2 mvX10_voteOf mlX10_93 (by decide) (by decide) (Nat.le_of_ble_eq_true rfl) (Nat.le_of_ble_eq_true rfl) (T_X10_voteOf2) (?_ : RR _ _ _ _ 5 _ _ _ _)
  rw [hvo]
  refine R_istore_n dX10_isTipping_5 (Nat.le_of_ble_eq_true rfl) (?_ : RR _ _ _ _ 6 [_, _, _, _, _] _ _ _)
  refine R_iconst dX10_isTipping_6 (?_ : RR _ _ _ _ 7 _ _ _ _)
  refine R_istore dX10_isTipping_7 (Nat.le_of_ble_eq_true rfl) (?_ : RR _ _ _ _ 9 [_, _, _, _, _] _ _ _)
  exact K1
end TI
