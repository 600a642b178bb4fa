section AL
variable {k : Nat} {h h' : Nat → Int → Int} {sem : Sem} {H np nc len : Nat}
theorem CO_f {X : Cx} {n t r : Nat} (hc : CO X H h n t r) (e : ∀ a, (a = n + 1 ∨ a = n + 2 ∨ a = n + 3 ∨ a = 11 ∨ a = 12 ∨ a = 13 ∨ a = r ∨ a = r + 1) → h' a = h a) : CO X H h' n t r := by
  obtain ⟨c1, c2, c3, c4, c5, c6, c7⟩ := hc
  unfold CO NetC RidC ruOK
  rw [e (n + 1) (by omega), e (n + 2) (by omega), e (n + 3) (by omega), e 11 (by omega), e 12 (by omega), e 13 (by omega), e r (by omega), e (r + 1) (by omega)]
  exact ⟨c1, c2, c3, c4, c5, c6, c7⟩
theorem isRw_154 : isRw 154 := rfl
theorem isRw_155 : isRw 155 := rfl
theorem MBk_of (hs : SRx k h sem H np nc len) (hk : k ≤ 1000) (e : ∀ a, (149 ≤ a ∧ a ≤ 154) ∨ a = 158 → h' a = h a) (e2 : ∀ j : Int, (j = 4 ∨ j = 5 ∨ j = 23) → h' 147 j = h 147 j) (e3 : 0 ≤ h' 147 30 ∧ h' 147 30 < 64) : MBk sem h' 154 H np nc ∧ cxM sem h' np nc = cxM sem h np nc := by
  have eX : cxM sem h' np nc = cxM sem h np nc := cxM_fr (fun a a1 a2 => e a (by omega))
  obtain ⟨⟨b1, b2, b3, b4, b5, b6, b7, b8, b9, b10, b11⟩, -, -, s4, -, -⟩ := hs
  have := s4.2.1
  refine ⟨⟨by rw [eX]; exact b5, by rw [eX, e 154 (by omega)]; exact okF_c s4.1, mrOK_fr b8 (e2 23 (by omega)) (e 158 (by omega)), by rw [e2 5 (by omega)]; exact b3, by rw [e2 4 (by omega)]; exact b2, by rw [e 154 (by omega)]; omega, e3, isRw_154, Or.inl rfl⟩, eX⟩
/-- what undo's numbers are -/
theorem sRU (hs : SRx k h sem H np nc len) : ∃ U x : Nat, h 44 3 = U ∧ h 44 4 = x ∧ x < 15 ∧ U ≤ 15 ∧ h 147 28 = U := by
  obtain ⟨U, x, u4, u5, u6, u7, u8, u9⟩ := SU_un hs.2.2.2.1
  exact ⟨U, x, u4, u7, u8, u6, u5⟩
theorem C_couple (hs : SRx k h sem H np nc len) {U x : Nat} (hU : h 44 3 = U) (hx : h 44 4 = x) (hx15 : x < 15) (hU15 : U ≤ 15) : RR mX11_couple 4 0 0 0 (pm_ent [pR 0] 1) [] (shp0, rf0, h) (cAct (cxM sem h np nc) H h x U len (aCo (cxM sem h np nc) (h 154)) (fun h3 => h3 145 = h 145 ∧ h3 146 = h 146)) := by
  have t14 := isTr_14
  have t19 := isTr_19
  have hc := hs.2.2.2.1.1
  have hX := hs.1.2.2.2.2.1
  have hc1 : Cpl (cxM sem h np nc) H (trC h 19 14) 14 (h 154) len := Cpl_fr hc (fun a a1 a2 => trC_n (by omega))
  show RR _ _ _ _ _ [pR 0] _ _ _
  generalize hw : aCo (cxM sem h np nc) (h 154) = w
  have hpo := C_takeStanding hX hc1
  rw [hw] at hpo
  have hwr : r32 w.1 := by
    rw [← hw]
    have hb := pop_bset (P := stB (h 154)) (n := nc) (by have := sR6 hs; omega)
    have hb2 := sm_b (g := fun p : Nat => if stB (h 154) p then 1 else 0) (B := 1) (by omega) (fun p => by split <;> omega) nc
    have := sR6 hs
    rw [← hb] at hb2
    unfold aCo
    show r32 (if bset (stB (h 154)) nc = 0 then -2 else (pop 12 (bset (stB (h 154)) nc) : Int))
    split <;> omega
  refine R_aload_n dX11_couple_0 rfl (?_ : RR _ _ _ _ 1 _ _ _ _)
  refine R_getr dX11_couple_1 flX11_40 cok_11 rfl (by decide) (?_ : RR _ _ _ _ 4 _ _ _ _)
  refine R_aload_n dX11_couple_4 rfl (?_ : RR _ _ _ _ 5 _ _ _ _)
  refine R_getr dX11_couple_5 flX11_36 cok_11 rfl (by decide) (?_ : RR _ _ _ _ 8 _ _ _ _)
  refine R_cVv1 dX11_couple_8 mvX9_copyFrom mlX11_231 (by decide) (by decide) (Nat.le_of_ble_eq_true rfl) (Nat.le_of_ble_eq_true rfl) (T_X9_copyFrom) (?_ : RR _ _ _ _ 11 _ _ _ _)
  refine R_aload_n dX11_couple_11 rfl (?_ : RR _ _ _ _ 12 _ _ _ _)
  refine R_aload_n dX11_couple_12 rfl (?_ : RR _ _ _ _ 13 _ _ _ _)
  refine R_qV0 dX11_couple_13 mvX11_takeStanding mlX11_260 (by decide) (by decide) (Nat.le_of_ble_eq_true rfl) (Nat.le_of_ble_eq_true rfl) (hpo) (fun r9 g9 hq9 => (?_ : RR _ _ _ _ 16 _ _ _ _))
  obtain ⟨h2, len2, rfl, hf2, rfl, hc2⟩ := hq9
  show RR _ _ _ _ _ _ [pI w.1, pR 0] _ _
  refine R_cVi1 dX11_couple_16 mvX11_noted mlX11_257 (by decide) (by decide) (Nat.le_of_ble_eq_true rfl) (Nat.le_of_ble_eq_true rfl) (T_X11_noted (x := x) (U := U) (by rw [hf2 44 (by omega), trC_n (by omega)]; exact hx) (by rw [hf2 44 (by omega), trC_n (by omega)]; exact hU) hx15 hU15 hwr) (?_ : RR _ _ _ _ 19 _ _ _ _)
  exact R_ireturn dX11_couple_19 trivial (cAct_noted (sR6 hs) (sR12 hs) hc hx15 hU hx hf2 hc2)
theorem C_cut {n : Int} (hs : SRx k h sem H np nc len) (hn : r32 n) {U x : Nat} (hU : h 44 3 = U) (hx : h 44 4 = x) (hx15 : x < 15) (hU15 : U ≤ 15) : RR mX11_cut 4 0 0 0 (pm_ent [pR 0, pI n] 2) [] (shp0, rf0, h) (cAct (cxM sem h np nc) H h x U len (aCu (cxM sem h np nc) (h 154) n) (fun h3 => h3 145 = h 145 ∧ h3 146 = h 146)) := by
  have t14 := isTr_14
  have t19 := isTr_19
  have hc := hs.2.2.2.1.1
  have hX := hs.1.2.2.2.2.1
  have hc1 : Cpl (cxM sem h np nc) H (trC h 19 14) 14 (h 154) len := Cpl_fr hc (fun a a1 a2 => trC_n (by omega))
  show RR _ _ _ _ _ [pR 0, pI n] _ _ _
  generalize hw : aCu (cxM sem h np nc) (h 154) n = w
  have hpo := C_uncouple hX hc1 hn
  rw [hw] at hpo
  have hwr : r32 w.1 := by
    rw [← hw]
    have h1 := (ok_len (okF_c hc)).2
    have h2 := sR6 hs
    have h1 : xLn (cxM sem h np nc) (h 154) ≤ nc := h1
    unfold aCu
    split
    · show r32 (-1); omega
    · show r32 ((xLn (cxM sem h np nc) (h 154) : Int) - n); omega
  refine R_aload_n dX11_cut_0 rfl (?_ : RR _ _ _ _ 1 _ _ _ _)
  refine R_getr dX11_cut_1 flX11_40 cok_11 rfl (by decide) (?_ : RR _ _ _ _ 4 _ _ _ _)
  refine R_aload_n dX11_cut_4 rfl (?_ : RR _ _ _ _ 5 _ _ _ _)
  refine R_getr dX11_cut_5 flX11_36 cok_11 rfl (by decide) (?_ : RR _ _ _ _ 8 _ _ _ _)
  refine R_cVv1 dX11_cut_8 mvX9_copyFrom mlX11_231 (by decide) (by decide) (Nat.le_of_ble_eq_true rfl) (Nat.le_of_ble_eq_true rfl) (T_X9_copyFrom) (?_ : RR _ _ _ _ 11 _ _ _ _)
  refine R_aload_n dX11_cut_11 rfl (?_ : RR _ _ _ _ 12 _ _ _ _)
  refine R_aload_n dX11_cut_12 rfl (?_ : RR _ _ _ _ 13 _ _ _ _)
  refine R_iload_n dX11_cut_13 rfl (?_ : RR _ _ _ _ 14 _ _ _ _)
  refine R_qV1 dX11_cut_14 mvX11_uncouple mlX11_263 (by decide) (by decide) (Nat.le_of_ble_eq_true rfl) (Nat.le_of_ble_eq_true rfl) (hpo) (fun r9 g9 hq9 => (?_ : RR _ _ _ _ 17 _ _ _ _))
  obtain ⟨h2, len2, rfl, hf2, rfl, hc2⟩ := hq9
  show RR _ _ _ _ _ _ [pI w.1, pR 0] _ _
  refine R_cVi1 dX11_cut_17 mvX11_noted mlX11_257 (by decide) (by decide) (Nat.le_of_ble_eq_true rfl) (Nat.le_of_ble_eq_true rfl) (T_X11_noted (x := x) (U := U) (by rw [hf2 44 (by omega), trC_n (by omega)]; exact hx) (by rw [hf2 44 (by omega), trC_n (by omega)]; exact hU) hx15 hU15 hwr) (?_ : RR _ _ _ _ 20 _ _ _ _)
  exact R_ireturn dX11_cut_20 trivial (cAct_noted (sR6 hs) (sR12 hs) hc hx15 hU hx hf2 hc2)
theorem C_walk {p c : Int} (hs : SRx k h sem H np nc len) (hk : k ≤ 1000) (hp : r32 p) (hcr : r32 c) {U x : Nat} (hU : h 44 3 = U) (hx : h 44 4 = x) (hx15 : x < 15) (hU15 : U ≤ 15) : RR mX11_walk 4 0 0 0 (pm_ent [pR 0, pI p, pI c] 3) [] (shp0, rf0, h) (cAct (cxM sem h np nc) H h x U len (aWa (cxM sem h np nc) (h 154) p c) (fun h3 => h3 145 = h 145 ∧ h3 146 = h 146)) := by
  have t14 := isTr_14
  have t19 := isTr_19
  have hc := hs.2.2.2.1.1
  have hX := hs.1.2.2.2.2.1
  have hnw := hs.2.2.2.1.2.1
  have hrd : RidC (cxM sem h np nc) (trC h 19 14) := by
    unfold RidC
    rw [trC_n (by omega), trC_n (by omega), trC_n (by omega)]
    exact hs.1.2.2.2.2.2.2.1.2.1
  have hc1 : Cpl (cxM sem h np nc) H (trC h 19 14) 14 (h 154) len := Cpl_fr hc (fun a a1 a2 => trC_n (by omega))
  show RR _ _ _ _ _ [pR 0, pI p, pI c] _ _ _
  generalize hw : aWa (cxM sem h np nc) (h 154) p c = w
  have hpo := C_changeCoach hX hrd hc1 (by omega) hp hcr
  rw [hw] at hpo
  have hwr : r32 w.1 := by
    rw [← hw]
    have h2 := sR6 hs
    unfold aWa
    split
    · show r32 (-1); omega
    · rename_i q
      have q : (0 ≤ p ∧ p < np) ∧ 0 ≤ c ∧ c < nc := Decidable.not_not.mp q
      split
      · show r32 (-2); omega
      · split
        · show r32 (-3); omega
        · show r32 (mS (h 154) p)
          have h3 := hc.1.2.2.2.2.2 p.toNat (show p.toNat < np by omega)
          rw [show ((p.toNat : Nat) : Int) = p by omega] at h3
          have h3 : mS (h 154) p = -1 ∨ (0 ≤ mS (h 154) p ∧ mS (h 154) p < nc ∧ _) := h3
          omega
  refine R_aload_n dX11_walk_0 rfl (?_ : RR _ _ _ _ 1 _ _ _ _)
  refine R_getr dX11_walk_1 flX11_40 cok_11 rfl (by decide) (?_ : RR _ _ _ _ 4 _ _ _ _)
  refine R_aload_n dX11_walk_4 rfl (?_ : RR _ _ _ _ 5 _ _ _ _)
  refine R_getr dX11_walk_5 flX11_36 cok_11 rfl (by decide) (?_ : RR _ _ _ _ 8 _ _ _ _)
  refine R_cVv1 dX11_walk_8 mvX9_copyFrom mlX11_231 (by decide) (by decide) (Nat.le_of_ble_eq_true rfl) (Nat.le_of_ble_eq_true rfl) (T_X9_copyFrom) (?_ : RR _ _ _ _ 11 _ _ _ _)
  refine R_aload_n dX11_walk_11 rfl (?_ : RR _ _ _ _ 12 _ _ _ _)
  refine R_aload_n dX11_walk_12 rfl (?_ : RR _ _ _ _ 13 _ _ _ _)
  refine R_iload_n dX11_walk_13 rfl (?_ : RR _ _ _ _ 14 _ _ _ _)
  refine R_iload_n dX11_walk_14 rfl (?_ : RR _ _ _ _ 15 _ _ _ _)
  refine R_qV2 dX11_walk_15 mvX11_changeCoach mlX11_266 (by decide) (by decide) (Nat.le_of_ble_eq_true rfl) (Nat.le_of_ble_eq_true rfl) (hpo) (fun r9 g9 hq9 => (?_ : RR _ _ _ _ 18 _ _ _ _))
  obtain ⟨h2, len2, rfl, hf2, rfl, hc2⟩ := hq9
  show RR _ _ _ _ _ _ [pI w.1, pR 0] _ _
  refine R_cVi1 dX11_walk_18 mvX11_noted mlX11_257 (by decide) (by decide) (Nat.le_of_ble_eq_true rfl) (Nat.le_of_ble_eq_true rfl) (T_X11_noted (x := x) (U := U) (by rw [hf2 44 (by omega), trC_n (by omega)]; exact hx) (by rw [hf2 44 (by omega), trC_n (by omega)]; exact hU) hx15 hU15 hwr) (?_ : RR _ _ _ _ 21 _ _ _ _)
  exact R_ireturn dX11_walk_21 trivial (cAct_noted (sR6 hs) (sR12 hs) hc hx15 hU hx hf2 hc2)
theorem C_stand {n : Int} (hs : SRx k h sem H np nc len) (hk : k ≤ 1000) (hn : r32 n) {U x : Nat} (hU : h 44 3 = U) (hx : h 44 4 = x) (hx15 : x < 15) (hU15 : U ≤ 15) : RR mX11_stand 4 0 0 0 (pm_ent [pR 0, pI n] 2) [] (shp0, rf0, h) (cAct (cxM sem h np nc) H h x U len (aSt (h 154) n) (fun h3 => h3 145 = h 145 ∧ h3 146 = h 146)) := by
  have t14 := isTr_14
  have t19 := isTr_19
  have hc := hs.2.2.2.1.1
  have hX := hs.1.2.2.2.2.1
  have hnw := hs.2.2.2.1.2.1
  have hc1 : Cpl (cxM sem h np nc) H (trC h 19 14) 14 (h 154) len := Cpl_fr hc (fun a a1 a2 => trC_n (by omega))
  show RR _ _ _ _ _ [pR 0, pI n] _ _ _
  generalize hw : aSt (h 154) n = w
  have hpo := C_letPass hc1 (by omega) hn
  rw [hw] at hpo
  have hwr : r32 w.1 := by
    rw [← hw]
    have h1 := hc.1.2.1
    unfold aSt
    split
    · show r32 (-1); omega
    · show r32 (h 154 1 + n); omega
  refine R_aload_n dX11_stand_0 rfl (?_ : RR _ _ _ _ 1 _ _ _ _)
  refine R_getr dX11_stand_1 flX11_40 cok_11 rfl (by decide) (?_ : RR _ _ _ _ 4 _ _ _ _)
  refine R_aload_n dX11_stand_4 rfl (?_ : RR _ _ _ _ 5 _ _ _ _)
  refine R_getr dX11_stand_5 flX11_36 cok_11 rfl (by decide) (?_ : RR _ _ _ _ 8 _ _ _ _)
  refine R_cVv1 dX11_stand_8 mvX9_copyFrom mlX11_231 (by decide) (by decide) (Nat.le_of_ble_eq_true rfl) (Nat.le_of_ble_eq_true rfl) (T_X9_copyFrom) (?_ : RR _ _ _ _ 11 _ _ _ _)
  refine R_aload_n dX11_stand_11 rfl (?_ : RR _ _ _ _ 12 _ _ _ _)
  refine R_aload_n dX11_stand_12 rfl (?_ : RR _ _ _ _ 13 _ _ _ _)
  refine R_iload_n dX11_stand_13 rfl (?_ : RR _ _ _ _ 14 _ _ _ _)
  refine R_qV1 dX11_stand_14 mvX11_letPass mlX11_269 (by decide) (by decide) (Nat.le_of_ble_eq_true rfl) (Nat.le_of_ble_eq_true rfl) (hpo) (fun r9 g9 hq9 => (?_ : RR _ _ _ _ 17 _ _ _ _))
  obtain ⟨h2, len2, rfl, hf2, rfl, hc2⟩ := hq9
  show RR _ _ _ _ _ _ [pI w.1, pR 0] _ _
  refine R_cVi1 dX11_stand_17 mvX11_noted mlX11_257 (by decide) (by decide) (Nat.le_of_ble_eq_true rfl) (Nat.le_of_ble_eq_true rfl) (T_X11_noted (x := x) (U := U) (by rw [hf2 44 (by omega), trC_n (by omega)]; exact hx) (by rw [hf2 44 (by omega), trC_n (by omega)]; exact hU) hx15 hU15 hwr) (?_ : RR _ _ _ _ 20 _ _ _ _)
  exact R_ireturn dX11_stand_20 trivial (cAct_noted (sR6 hs) (sR12 hs) hc hx15 hU hx hf2 hc2)
end AL
