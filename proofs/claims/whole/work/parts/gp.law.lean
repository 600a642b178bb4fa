/-! the law's first rows: both systems are made -/
def fCh : List (Nat × Nat × Nat) → Nat → Nat → Option Nat
  | [], _, _ => none
  | t :: ts, a, k => if a = t.1 ∧ k = t.2.1 then some t.2.2 else fCh ts a k
theorem fCh_mem {a k b : Nat} : ∀ {l : List (Nat × Nat × Nat)}, fCh l a k = some b → (a, k, b) ∈ l := by
  intro l
  induction l with
  | nil => intro h; cases h
  | cons t ts ih =>
    intro h
    unfold fCh at h
    split at h
    · rename_i q
      obtain ⟨rfl, rfl⟩ := q
      cases h
      exact List.mem_cons_self
    · exact List.mem_cons_of_mem _ (ih h)
def trip : List (Nat × Nat × Nat) := [(147, 49, 177), (147, 48, 176), (147, 47, 175), (147, 45, 174), (147, 44, 173), (147, 43, 172), (147, 42, 171), (147, 41, 170), (147, 39, 169), (147, 36, 168), (147, 35, 167), (147, 33, 166), (147, 32, 165), (147, 31, 164), (147, 29, 163), (147, 27, 162), (147, 26, 161), (147, 25, 160), (147, 22, 159), (147, 21, 158), (147, 19, 157), (147, 14, 156), (147, 13, 155), (147, 12, 154), (147, 11, 153), (147, 10, 152), (147, 9, 151), (147, 8, 150), (147, 7, 149), (147, 2, 148), (0, 13, 145), (145, 0, 146), (0, 12, 142), (142, 2, 144), (142, 0, 143), (0, 11, 138), (138, 4, 141), (138, 3, 140), (138, 2, 139), (0, 10, 44), (46, 2, 133), (133, 7, 137), (133, 6, 136), (133, 5, 135), (133, 4, 134), (46, 1, 128), (128, 7, 132), (128, 6, 131), (128, 5, 130), (128, 4, 129), (46, 0, 123), (123, 7, 127), (123, 6, 126), (123, 5, 125), (123, 4, 124), (45, 14, 118), (118, 7, 122), (118, 6, 121), (118, 5, 120), (118, 4, 119), (45, 13, 113), (113, 7, 117), (113, 6, 116), (113, 5, 115), (113, 4, 114), (45, 12, 108), (108, 7, 112), (108, 6, 111), (108, 5, 110), (108, 4, 109), (45, 11, 103), (103, 7, 107), (103, 6, 106), (103, 5, 105), (103, 4, 104), (45, 10, 98), (98, 7, 102), (98, 6, 101), (98, 5, 100), (98, 4, 99), (45, 9, 93), (93, 7, 97), (93, 6, 96), (93, 5, 95), (93, 4, 94), (45, 8, 88), (88, 7, 92), (88, 6, 91), (88, 5, 90), (88, 4, 89), (45, 7, 83), (83, 7, 87), (83, 6, 86), (83, 5, 85), (83, 4, 84), (45, 6, 78), (78, 7, 82), (78, 6, 81), (78, 5, 80), (78, 4, 79), (45, 5, 73), (73, 7, 77), (73, 6, 76), (73, 5, 75), (73, 4, 74), (45, 4, 68), (68, 7, 72), (68, 6, 71), (68, 5, 70), (68, 4, 69), (45, 3, 63), (63, 7, 67), (63, 6, 66), (63, 5, 65), (63, 4, 64), (45, 2, 58), (58, 7, 62), (58, 6, 61), (58, 5, 60), (58, 4, 59), (45, 1, 53), (53, 7, 57), (53, 6, 56), (53, 5, 55), (53, 4, 54), (45, 0, 48), (48, 7, 52), (48, 6, 51), (48, 5, 50), (48, 4, 49), (44, 2, 47), (44, 1, 46), (44, 0, 45), (0, 9, 35), (35, 0, 36), (36, 6, 43), (36, 5, 42), (36, 4, 41), (36, 3, 40), (36, 2, 39), (36, 1, 38), (36, 0, 37), (0, 8, 32), (32, 1, 34), (32, 0, 33), (0, 7, 29), (29, 1, 31), (29, 0, 30), (0, 6, 24), (24, 7, 28), (24, 6, 27), (24, 5, 26), (24, 4, 25), (0, 5, 19), (19, 7, 23), (19, 6, 22), (19, 5, 21), (19, 4, 20), (0, 4, 14), (14, 7, 18), (14, 6, 17), (14, 5, 16), (14, 4, 15), (0, 3, 11), (11, 2, 13), (11, 1, 12), (0, 2, 7), (7, 3, 10), (7, 2, 9), (7, 1, 8), (0, 1, 3), (3, 3, 6), (3, 2, 5), (3, 1, 4), (0, 0, 1), (1, 0, 2)]
set_option maxRecDepth 100000 in
theorem wf_trip : wf_12 (wf_11 (fun _ _ => none)) = fCh trip := rfl
set_option maxRecDepth 100000 in
theorem trip_1 : ∀ t ∈ trip, rf0 t.1 t.2.1 = some t.2.2 := by decide +kernel
set_option maxRecDepth 100000 in
theorem trip_2 : ∀ a, a < 179 → ∀ k, k < (rfL.getD a []).length → fCh trip a k = rf0 a k := by decide +kernel
set_option maxRecDepth 100000 in
theorem rfL_len : rfL.length = 179 := by decide +kernel
theorem rf_eq : wf_12 (wf_11 (fun _ _ => none)) = rf0 := by
  rw [wf_trip]
  funext a k
  by_cases hk : k < (rfL.getD a []).length
  · by_cases ha : a < 179
    · exact trip_2 a ha k hk
    · rw [List.getD_eq_getElem?_getD, List.getElem?_eq_none (by rw [rfL_len]; omega)] at hk
      exact absurd hk (Nat.not_lt_zero _)
  · have e : rf0 a k = none := by
      unfold rf0
      rw [List.getD_eq_getElem?_getD (l := rfL.getD a []), List.getElem?_eq_none (by omega)]
      rfl
    rw [e]
    cases h : fCh trip a k with
    | none => rfl
    | some b =>
      have := trip_1 _ (fCh_mem h)
      rw [e] at this
      cases this
set_option maxRecDepth 100000 in
theorem sh_eq : sS_12 (sS_11 ([] ++ [(11, 0)]) ++ [(12, 0)]) ++ [(102, 1)] = shp0 := by decide +kernel
theorem fst_of {h1 h2 : Nat → Int → Int} (p1 : pr_11 (fun _ _ => 0) h1) (p2 : pr_12 h1 h2) : hFst h2 := by
  obtain ⟨a1, a2, a3, a4, a5, a6, a7, a8⟩ := p1
  obtain ⟨b1, b2, b3, b4⟩ := p2
  refine ⟨fun a i ha => ?_, ?_, fun e e0 e1 => ⟨?_, ?_, b3 e e0 e1⟩, ?_, ?_, ?_, ?_, fun k hk => ?_, b1, fun j hj => ?_⟩
  · rw [b4 a (by omega) (by omega), a1 a (by omega)]
  · rw [b4 3 (by omega) (by omega)]; exact a2
  · rw [b4 4 (by omega) (by omega)]; exact (a3 e e0 e1).1
  · rw [b4 8 (by omega) (by omega)]; exact (a3 e e0 e1).2
  · rw [b4 29 (by omega) (by omega)]; exact a4
  · rw [b4 29 (by omega) (by omega)]; exact a5
  · rw [b4 32 (by omega) (by omega)]; exact a6
  · rw [b4 30 (by omega) (by omega)]; exact a7
  · rw [b4 139 (by omega) (by omega)]; exact a8 k (by omega) (by omega)
  · rw [b2 j hj, a1 147 (by omega)]
theorem law0 : RK mL_law 762 179 3727 0 (pm_ent [pR 1300] 8) [] ([], fun _ _ => none, fun _ _ => 0) (fun r g' => r = some (pR 5023) ∧ ∃ h', g' = (shp0, rf0, h') ∧ hFst h') := by
  have k0 : hk 0 [] (fun _ _ => none) (fun _ _ => 0) := ⟨rfl, by decide, fun a k b ha hF => (by cases hF), fun _ _ _ => rfl, fun _ _ _ => rfl⟩
  have k1 : hk 1 ([] ++ [(11, 0)]) (fun _ _ => none) (fun _ _ => 0) := k0.app (by decide)
  have big : ∀ n, pm_lt n (pR 1300) := fun n => Or.inr (by decide)
  show RK mL_law 762 179 3727 0 [pR 1300, pU, pU, pU, pU, pU, pU, pU] [] _ _
  refine K_new (kc := 178) (ks := 3712) RX11 TX11 15 nwL_8.1 dL_law_0 nwL_8.2.1 nwL_8.2.2.1 nwL_8.2.2.2.1 nwL_8.2.2.2.2.1 nwL_8.2.2.2.2.2.1 (fun j hj => pdef (nwL_8.2.2.2.2.2.2 j hj)) k0.2 (plc (big _) (plu (plu (plu (plu (plu (plu (plu pl0)))))))) pl0 (?_ : RK _ _ _ _ 3 _ [pR 0] _ _)
  refine K_dup dL_law_3 (fun _ => rfl) (?_ : RK _ _ _ _ 4 _ _ _ _)
  refine K_callI (kc2 := 146) (ks2 := 2037) (kc := 32) (ks := 1675) (g := ([] ++ [(11, 0)], fun _ _ => none, fun _ _ => 0)) dL_law_4 miX11 (Or.inl mlL_25) (by decide) (by decide) (plc (big _) (plu (plu (plu (plu (plu (plu (plu pl0)))))))) (plr (by decide) pl0) (C_X11 k1 rfl) (fun g' z => by cases z.1) (fun g' z => ?_)
  obtain ⟨-, h1, rfl, k2, p1⟩ := z
  refine K_astore_n dL_law_7 (by decide) (?_ : RK _ _ _ _ 8 [pR 1300, pR 0, pU, pU, pU, pU, pU, pU] _ _ _)
  have hl2 := k2.1
  have k3 := k2.app (x := (12, 0)) (by decide)
  refine K_new (kc := 31) (ks := 1625) RX12 TX12 50 nwL_26.1 dL_law_8 nwL_26.2.1 nwL_26.2.2.1 nwL_26.2.2.2.1 nwL_26.2.2.2.2.1 nwL_26.2.2.2.2.2.1 (fun j hj => pdef (nwL_26.2.2.2.2.2.2 j hj)) k2.2 (plc (big _) (plr (by rw [hl2]; decide) (plu (plu (plu (plu (plu (plu pl0)))))))) pl0 (?_ : RK _ _ _ _ 11 _ _ _ _)
  rw [hl2]
  refine K_dup dL_law_11 (fun _ => rfl) (?_ : RK _ _ _ _ 12 _ _ _ _)
  refine K_callI (kc2 := 30) (ks2 := 1624) (kc := 1) (ks := 1) (g := (sS_11 ([] ++ [(11, 0)]) ++ [(12, 0)], wf_11 (fun _ _ => none), h1)) dL_law_12 miX12 (Or.inl mlL_28) (by decide) (by decide) (plc (big _) (plr (by show 0 < (sS_11 ([] ++ [(11, 0)]) ++ [(12, 0)]).length; rw [k3.1]; decide) (plu (plu (plu (plu (plu (plu pl0)))))))) (plr (by show 147 < (sS_11 ([] ++ [(11, 0)]) ++ [(12, 0)]).length; rw [k3.1]; decide) pl0) (C_X12 k3 (at_new hl2)) (fun g' z => by cases z.1) (fun g' z => ?_)
  obtain ⟨-, h2, rfl, k4, p2⟩ := z
  refine K_astore_n dL_law_15 (by decide) (?_ : RK _ _ _ _ 16 [pR 1300, pR 0, pR 147, pU, pU, pU, pU, pU] _ _ _)
  have hl4 := k4.1
  refine K_iconst dL_law_16 (?_ : RK _ _ _ _ 17 _ _ _ _)
  refine K_newl (N := 1) (kc := 0) (ks := 0) rfl (by decide) dL_law_17 ac_l k4.2 (plc (big _) (plr (by rw [hl4]; decide) (plr (by rw [hl4]; decide) (plu (plu (plu (plu (plu pl0)))))))) pl0 (?_ : RK _ _ _ _ 19 _ _ _ _)
  rw [hl4]
  refine K_astore_n dL_law_19 (by decide) (?_ : RK _ _ _ _ 20 [pR 1300, pR 0, pR 147, pR 178, pU, pU, pU, pU] _ _ _)
  refine K_iconst dL_law_20 (?_ : RK _ _ _ _ 21 _ _ _ _)
  refine K_istore dL_law_21 (by decide) (?_ : RK _ _ _ _ 23 lawLs _ _ _)
  exact K_stop ⟨rfl, h2, by rw [sh_eq, rf_eq], fst_of p1 p2⟩
