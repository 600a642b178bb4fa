/-! the law's cases that may throw -/
section TCS
variable {sc : SC} {kc ks i k H np nc len : Nat} {sem : Sem} {h h1 h4 : Nat → Int → Int} {x5 x6 x7 : PV} {Q : Option PV → PH → Prop}
theorem G_callV0 {M M2 : PMt} {d d2 pc idx : Nat} {ls st : List PV} {Q2 : Option PV → PH → Prop} {g : PH} {a ci n n0 : Nat} {As st0 : List PV} (hd : decode M.2.1 pc = .ok (.invokevirtual idx, 3)) (hm : pm_mv M2 ci n) (hlk : Cond.methodLink M.1.cls idx M2.1 ∈ tblG) (hst : st0 = As.reverse ++ pR a :: st) (hn : As.length = n) (hcat : pm_cat st ≤ 8) (hlen : (pm_sl (pR a :: As)).length ≤ M2.2.2.1) (hdd : d2 + 1 ≤ d) (hl : ci < 50)
    (hc : g.1[a]? = some (ci, n0)) (hcall : RR M2 d2 0 0 0 (pm_ent (pR a :: As) M2.2.2.1) [] g Q2) (kk : ∀ r g', Q2 r g' → pm_ok M2.2.2.2 r → RG sc M d kc ks (pc + 3) ls (r.toList ++ st) g' Q) : RG sc M d kc ks pc ls st0 g Q := by
  have h9 := G_callV (kc2 := 0) (ks2 := 0) hd hm hlk hst hn hcat hlen hdd hl hc hcall kk
  rw [Nat.zero_add, Nat.zero_add] at h9
  exact h9
theorem wq_no {v : Int} {ok : Prop} : ∀ t g', ¬ wq h v ok (some (pR (5000 + t))) g' := fun t g' q => by
  obtain ⟨h1, -, ⟨-, e, -⟩ | ⟨-, e, -⟩⟩ := q <;> cases e
theorem wq_fr {v : Int} {ok : Prop} {r : Option PV} (q : (ok ∧ r = some (pI 0) ∧ ∃ h0, cqF h h0 ∧ h0 145 = h 145 ∧ h0 146 = h 146 ∧ h1 = rup h0 178 (fup (h0 178) 0 v)) ∨ (¬ ok ∧ r = some (pI 1) ∧ h1 = h)) : (∀ a, 147 ≤ a → a ≠ 178 → h1 a = h a) ∧ h1 145 = h 145 ∧ h1 146 = h 146 ∧ gF (fun a => a = 178) h h1 := by
  rcases q with ⟨-, -, h0, f1, f2, f3, rfl⟩ | ⟨-, -, rfl⟩
  · refine ⟨fun a a1 a2 => by rw [rup_n a2]; exact f1 a (by omega), by rw [rup_n (by decide)]; exact f2, by rw [rup_n (by decide)]; exact f3, gF_tr (gF_c f1) ⟨fun a _ q => rup_n q, fun j _ _ => by rw [rup_n (by decide)], fun q => by rw [rup_n (by decide)]; exact q, fun j _ => by rw [rup_n (by decide)]⟩⟩
  · exact ⟨fun _ _ _ => rfl, rfl, rfl, gF_c cqF_rf⟩
theorem SR_end (hs : SRx k h sem H np nc len) (fr : ∀ a, 147 ≤ a → a ≠ 178 → h1 a = h a) (e145 : h1 145 = h 145) (e146 : h1 146 = h 146) (hF : gF (fun a => a = 178) h h1) (m : mqF h1 h4) (e1 : h4 147 1 = h1 147 1) (e2 : h4 148 = h1 148) : SR (k + 1) h4 :=
  SR_178 hs (gF_tr hF (gF_m m)) (SD_same hs.2.2.1 (by rw [m.1 145 (by omega), e145]) (by rw [e1, fr 147 (by omega) (by omega)]) (by rw [m.1 146 (by omega), e146]) (by rw [e2, fr 148 (by omega) (by omega)]))
theorem iniL : Cond.initialized RL ∈ tblG := by decide +kernel
theorem wcL_halt : Cond.codeWith yL_halt cL_halt 5 (some .int) [(0, 10, 13, 13)] ∈ tblG ∧ Cond.static yL_halt ∈ tblG := by decide +kernel
theorem wcL_coach : Cond.codeWith yL_coach cL_coach 5 (some .int) [(0, 10, 13, 13)] ∈ tblG ∧ Cond.static yL_coach ∈ tblG := by decide +kernel
theorem wcL_passenger : Cond.codeWith yL_passenger cL_passenger 5 (some .int) [(0, 10, 13, 13)] ∈ tblG ∧ Cond.static yL_passenger ∈ tblG := by decide +kernel
theorem wcL_row : Cond.codeWith yL_row cL_row 4 (some .int) [(0, 8, 11, 13)] ∈ tblG ∧ Cond.static yL_row ∈ tblG := by decide +kernel
theorem LC_6 (hsc : sc.1 ≤ 2560) (hv : ∀ j, r32 (sc.2.1 j)) (hi : i + 5 ≤ sc.1) (hs : SR k h) (next : ∀ x5 x6 x7 h4, SR (k + 1) h4 → RG sc mL_law 762 kc ks 1446 [pR 1300, pR 0, pR 147, pR 178, pI i, x5, x6, x7] [] (shp0, rf0, h4) Q) : RG sc mL_law 762 (1 + kc) (6 + ks) 326 [pR 1300, pR 0, pR 147, pR 178, pI i, x5, x6, x7] [] (shp0, rf0, h) Q := by
  obtain ⟨sem, H, np, nc, len, hs⟩ := hs
  refine G_aload_n dL_law_326 rfl (?_ : RG _ _ _ _ _ 327 _ _ _ _)
  refine G_aload_n dL_law_327 rfl (?_ : RG _ _ _ _ _ 328 _ _ _ _)
  refine G_iload dL_law_328 rfl (?_ : RG _ _ _ _ _ 330 _ _ _ _)
  refine G_iconst dL_law_330 (?_ : RG _ _ _ _ _ 331 _ _ _ _)
  refine G_iadd dL_law_331 (?_ : RG _ _ _ _ _ 332 _ _ _ _)
  refine G_sld (j := i + 1) dL_law_332 (by omega) hsc (by omega) (?_ : RG _ _ _ _ _ 333 _ _ _ _)
  refine G_aload_n dL_law_333 rfl (?_ : RG _ _ _ _ _ 334 _ _ _ _)
  refine G_iload dL_law_334 rfl (?_ : RG _ _ _ _ _ 336 _ _ _ _)
  refine G_iconst dL_law_336 (?_ : RG _ _ _ _ _ 337 _ _ _ _)
  refine G_iadd dL_law_337 (?_ : RG _ _ _ _ _ 338 _ _ _ _)
  refine G_sld (j := i + 2) dL_law_338 (by omega) hsc (by omega) (?_ : RG _ _ _ _ _ 339 _ _ _ _)
  refine G_aload_n dL_law_339 rfl (?_ : RG _ _ _ _ _ 340 _ _ _ _)
  refine G_callW (M2 := mL_halt) (kc2 := 1) (ks2 := 6) (d2 := 8) (n := 4) (As := [pR 0, pI (sc.2.1 (i + 1)), pI (sc.2.1 (i + 2)), pR 178]) (st := []) (hh := [(0, 10, 13, 13)]) dL_law_340 mlL_56 wcL_halt.1 wcL_halt.2 iniL (by decide +kernel) (by decide) rfl ⟨by decide, by decide, by decide +kernel⟩ rfl rfl (by decide) (Nat.le_of_ble_eq_true rfl) (by decide) (W_halt hs (hv _) (hv _)) wq_no (fun r g' q _ => ?_)
  obtain ⟨h1, rfl, q⟩ := q
  obtain ⟨fr, e145, e146, hgF⟩ := wq_fr q
  have hs1 : SRx k (rup h 178 (h1 178)) sem H np nc len := SRx_178 hs (fun a ha => rup_n ha)
  have hM := M_haltA (h3 := h1) hs1 (fun a ha => if e : a = 178 then (by rw [e, rup_s]) else (by rw [rup_n e]; exact fr a ha e)) (hv (i + 1)) (hv (i + 2))
  have eZ : hlZ (rup h 178 (h1 178)) nc (sc.2.1 (i + 1)) (sc.2.1 (i + 2)) = hlZ h nc (sc.2.1 (i + 1)) (sc.2.1 (i + 2)) := by
    simp only [hlZ, rup_n (show (149 : Nat) ≠ 178 by decide), rup_n (show (150 : Nat) ≠ 178 by decide), rup_n (show (151 : Nat) ≠ 178 by decide), rup_n (show (152 : Nat) ≠ 178 by decide), rup_n (show (153 : Nat) ≠ 178 by decide), rup_n (show (154 : Nat) ≠ 178 by decide)]
  rw [eZ] at hM
  rcases q with ⟨ok, rfl, h0, f1, f2, f3, e1⟩ | ⟨ok, rfl, e1⟩
  · rw [if_pos ok] at hM
    show RG _ _ _ _ _ 343 _ (pI 0 :: []) _ _
    refine G_istore dL_law_343 (Nat.le_of_ble_eq_true rfl) (?_ : RG _ _ _ _ _ 345 [_, _, _, _, _, _, _, _] _ _ _)
    refine G_aload_n dL_law_345 rfl (?_ : RG _ _ _ _ _ 346 _ _ _ _)
    refine G_aload_n dL_law_346 rfl (?_ : RG _ _ _ _ _ 347 _ _ _ _)
    refine G_iload dL_law_347 rfl (?_ : RG _ _ _ _ _ 349 _ _ _ _)
    refine G_iconst dL_law_349 (?_ : RG _ _ _ _ _ 350 _ _ _ _)
    refine G_iadd dL_law_350 (?_ : RG _ _ _ _ _ 351 _ _ _ _)
    refine G_sld (j := i + 1) dL_law_351 (by omega) hsc (by omega) (?_ : RG _ _ _ _ _ 352 _ _ _ _)
    refine G_aload_n dL_law_352 rfl (?_ : RG _ _ _ _ _ 353 _ _ _ _)
    refine G_iload dL_law_353 rfl (?_ : RG _ _ _ _ _ 355 _ _ _ _)
    refine G_iconst dL_law_355 (?_ : RG _ _ _ _ _ 356 _ _ _ _)
    refine G_iadd dL_law_356 (?_ : RG _ _ _ _ _ 357 _ _ _ _)
    refine G_sld (j := i + 2) dL_law_357 (by omega) hsc (by omega) (?_ : RG _ _ _ _ _ 358 _ _ _ _)
    refine G_callV0 (n := 2) (As := [pI (sc.2.1 (i + 1)), pI (sc.2.1 (i + 2))]) (st := []) dL_law_358 mvX12_halt mlL_61 rfl rfl (by decide) (Nat.le_of_ble_eq_true rfl) (by decide) (by decide) (rfl : shp0[147]? = some (12, _)) hM (fun r2 g2 q2 _ => ?_)
    obtain ⟨h4, rfl, rfl, m, t0, t1, t2⟩ := q2
    have hnext := SR_end hs fr e145 e146 hgF m t1 t2
    show RG _ _ _ _ _ 361 _ (pI _ :: []) _ _
    refine G_istore dL_law_361 (Nat.le_of_ble_eq_true rfl) (?_ : RG _ _ _ _ _ 363 [_, _, _, _, _, _, _, _] _ _ _)
    refine G_aload_n dL_law_363 rfl (?_ : RG _ _ _ _ _ 364 _ _ _ _)
    refine G_callV0 (n := 0) (As := []) (st := []) dL_law_364 mvX12_thrown mlL_62 rfl rfl (by decide) (Nat.le_of_ble_eq_true rfl) (by decide) (by decide) (rfl : shp0[147]? = some (12, _)) T_X12_thrown (fun r3 g3 q3 _ => ?_)
    obtain ⟨rfl, rfl⟩ := q3
    rw [t0]
    show RG _ _ _ _ _ 367 _ (pI 0 :: []) _ _
    refine G_iload dL_law_367 rfl (?_ : RG _ _ _ _ _ 369 _ _ _ _)
    refine G_icmp_eq2 (t := 374) dL_law_369 rfl (?_ : RG _ _ _ _ _ 374 _ _ _ _)
    refine G_iload dL_law_374 rfl (?_ : RG _ _ _ _ _ 376 _ _ _ _)
    refine G_if_ne (t := 391) dL_law_376 rfl (fun c9 => ?_) (fun c9 => ?_)
    · exact absurd rfl c9
    · refine G_aload_n dL_law_379 rfl (?_ : RG _ _ _ _ _ 380 _ _ _ _)
      refine G_iconst dL_law_380 (?_ : RG _ _ _ _ _ 381 _ _ _ _)
      refine G_lald dL_law_381 (fun q9 => (?_ : RG _ _ _ _ _ 382 _ _ _ _))
      have e9 : h4 178 0 = wr (hlZ h nc (sc.2.1 (i + 1)) (sc.2.1 (i + 2))) := by rw [m.1 178 (by omega), e1, rup_s, fup_s]
      rw [e9] at q9 ⊢
      refine G_iload dL_law_382 rfl (?_ : RG _ _ _ _ _ 384 _ _ _ _)
      refine G_i2lw dL_law_384 (?_ : RG _ _ _ _ _ 385 _ _ _ _)
      refine G_lcmp dL_law_385 (wr64 _) (wr64 _) (?_ : RG _ _ _ _ _ 386 _ _ _ _)
      rw [if_neg (by omega), if_pos rfl]
      refine G_if_eq (t := 391) dL_law_386 rfl (fun c8 => ?_) (fun c8 => ?_)
      · exact G_goto (t := 1446) dL_law_391 rfl (next _ _ _ h4 hnext)
      · exact absurd rfl c8
  · rw [if_neg ok] at hM
    show RG _ _ _ _ _ 343 _ (pI 1 :: []) _ _
    refine G_istore dL_law_343 (Nat.le_of_ble_eq_true rfl) (?_ : RG _ _ _ _ _ 345 [_, _, _, _, _, _, _, _] _ _ _)
    refine G_aload_n dL_law_345 rfl (?_ : RG _ _ _ _ _ 346 _ _ _ _)
    refine G_aload_n dL_law_346 rfl (?_ : RG _ _ _ _ _ 347 _ _ _ _)
    refine G_iload dL_law_347 rfl (?_ : RG _ _ _ _ _ 349 _ _ _ _)
    refine G_iconst dL_law_349 (?_ : RG _ _ _ _ _ 350 _ _ _ _)
    refine G_iadd dL_law_350 (?_ : RG _ _ _ _ _ 351 _ _ _ _)
    refine G_sld (j := i + 1) dL_law_351 (by omega) hsc (by omega) (?_ : RG _ _ _ _ _ 352 _ _ _ _)
    refine G_aload_n dL_law_352 rfl (?_ : RG _ _ _ _ _ 353 _ _ _ _)
    refine G_iload dL_law_353 rfl (?_ : RG _ _ _ _ _ 355 _ _ _ _)
    refine G_iconst dL_law_355 (?_ : RG _ _ _ _ _ 356 _ _ _ _)
    refine G_iadd dL_law_356 (?_ : RG _ _ _ _ _ 357 _ _ _ _)
    refine G_sld (j := i + 2) dL_law_357 (by omega) hsc (by omega) (?_ : RG _ _ _ _ _ 358 _ _ _ _)
    refine G_callV0 (n := 2) (As := [pI (sc.2.1 (i + 1)), pI (sc.2.1 (i + 2))]) (st := []) dL_law_358 mvX12_halt mlL_61 rfl rfl (by decide) (Nat.le_of_ble_eq_true rfl) (by decide) (by decide) (rfl : shp0[147]? = some (12, _)) hM (fun r2 g2 q2 _ => ?_)
    obtain ⟨h4, rfl, rfl, m, t0, t1, t2⟩ := q2
    have hnext := SR_end hs fr e145 e146 hgF m t1 t2
    show RG _ _ _ _ _ 361 _ (pI _ :: []) _ _
    refine G_istore dL_law_361 (Nat.le_of_ble_eq_true rfl) (?_ : RG _ _ _ _ _ 363 [_, _, _, _, _, _, _, _] _ _ _)
    refine G_aload_n dL_law_363 rfl (?_ : RG _ _ _ _ _ 364 _ _ _ _)
    refine G_callV0 (n := 0) (As := []) (st := []) dL_law_364 mvX12_thrown mlL_62 rfl rfl (by decide) (Nat.le_of_ble_eq_true rfl) (by decide) (by decide) (rfl : shp0[147]? = some (12, _)) T_X12_thrown (fun r3 g3 q3 _ => ?_)
    obtain ⟨rfl, rfl⟩ := q3
    rw [t0]
    show RG _ _ _ _ _ 367 _ (pI 1 :: []) _ _
    refine G_iload dL_law_367 rfl (?_ : RG _ _ _ _ _ 369 _ _ _ _)
    refine G_icmp_eq2 (t := 374) dL_law_369 rfl (?_ : RG _ _ _ _ _ 374 _ _ _ _)
    refine G_iload dL_law_374 rfl (?_ : RG _ _ _ _ _ 376 _ _ _ _)
    refine G_if_ne (t := 391) dL_law_376 rfl (fun c9 => ?_) (fun c9 => ?_)
    · exact G_goto (t := 1446) dL_law_391 rfl (next _ _ _ h4 hnext)
    · exact absurd c9 (by decide)
theorem LC_7 (hsc : sc.1 ≤ 2560) (hv : ∀ j, r32 (sc.2.1 j)) (hi : i + 5 ≤ sc.1) (hs : SR k h) (next : ∀ x5 x6 x7 h4, SR (k + 1) h4 → RG sc mL_law 762 kc ks 1446 [pR 1300, pR 0, pR 147, pR 178, pI i, x5, x6, x7] [] (shp0, rf0, h4) Q) : RG sc mL_law 762 (1 + kc) (6 + ks) 394 [pR 1300, pR 0, pR 147, pR 178, pI i, x5, x6, x7] [] (shp0, rf0, h) Q := by
  obtain ⟨sem, H, np, nc, len, hs⟩ := hs
  refine G_aload_n dL_law_394 rfl (?_ : RG _ _ _ _ _ 395 _ _ _ _)
  refine G_aload_n dL_law_395 rfl (?_ : RG _ _ _ _ _ 396 _ _ _ _)
  refine G_iload dL_law_396 rfl (?_ : RG _ _ _ _ _ 398 _ _ _ _)
  refine G_iconst dL_law_398 (?_ : RG _ _ _ _ _ 399 _ _ _ _)
  refine G_iadd dL_law_399 (?_ : RG _ _ _ _ _ 400 _ _ _ _)
  refine G_sld (j := i + 1) dL_law_400 (by omega) hsc (by omega) (?_ : RG _ _ _ _ _ 401 _ _ _ _)
  refine G_aload_n dL_law_401 rfl (?_ : RG _ _ _ _ _ 402 _ _ _ _)
  refine G_iload dL_law_402 rfl (?_ : RG _ _ _ _ _ 404 _ _ _ _)
  refine G_iconst dL_law_404 (?_ : RG _ _ _ _ _ 405 _ _ _ _)
  refine G_iadd dL_law_405 (?_ : RG _ _ _ _ _ 406 _ _ _ _)
  refine G_sld (j := i + 2) dL_law_406 (by omega) hsc (by omega) (?_ : RG _ _ _ _ _ 407 _ _ _ _)
  refine G_aload_n dL_law_407 rfl (?_ : RG _ _ _ _ _ 408 _ _ _ _)
  refine G_callW (M2 := mL_coach) (kc2 := 1) (ks2 := 6) (d2 := 8) (n := 4) (As := [pR 0, pI (sc.2.1 (i + 1)), pI (sc.2.1 (i + 2)), pR 178]) (st := []) (hh := [(0, 10, 13, 13)]) dL_law_408 mlL_65 wcL_coach.1 wcL_coach.2 iniL (by decide +kernel) (by decide) rfl ⟨by decide, by decide, by decide +kernel⟩ rfl rfl (by decide) (Nat.le_of_ble_eq_true rfl) (by decide) (W_coach hs (hv _) (hv _)) wq_no (fun r g' q _ => ?_)
  obtain ⟨h1, rfl, q⟩ := q
  obtain ⟨fr, e145, e146, hgF⟩ := wq_fr q
  have hs1 : SRx k (rup h 178 (h1 178)) sem H np nc len := SRx_178 hs (fun a ha => rup_n ha)
  have hM := M_coachA (h3 := h1) hs1 (fun a ha => if e : a = 178 then (by rw [e, rup_s]) else (by rw [rup_n e]; exact fr a ha e)) (hv (i + 1)) (hv (i + 2))
  have eZ : coZZ (cxM sem (rup h 178 (h1 178)) np nc) ((rup h 178 (h1 178)) 154) (sc.2.1 (i + 1)).toNat (sc.2.1 (i + 2)) = coZZ (cxM sem h np nc) (h 154) (sc.2.1 (i + 1)).toNat (sc.2.1 (i + 2)) := by
    simp only [cxM, rup_n (show (149 : Nat) ≠ 178 by decide), rup_n (show (150 : Nat) ≠ 178 by decide), rup_n (show (151 : Nat) ≠ 178 by decide), rup_n (show (152 : Nat) ≠ 178 by decide), rup_n (show (153 : Nat) ≠ 178 by decide), rup_n (show (154 : Nat) ≠ 178 by decide)]
  rw [eZ] at hM
  rcases q with ⟨ok, rfl, h0, f1, f2, f3, e1⟩ | ⟨ok, rfl, e1⟩
  · rw [if_pos ok] at hM
    show RG _ _ _ _ _ 411 _ (pI 0 :: []) _ _
    refine G_istore dL_law_411 (Nat.le_of_ble_eq_true rfl) (?_ : RG _ _ _ _ _ 413 [_, _, _, _, _, _, _, _] _ _ _)
    refine G_aload_n dL_law_413 rfl (?_ : RG _ _ _ _ _ 414 _ _ _ _)
    refine G_aload_n dL_law_414 rfl (?_ : RG _ _ _ _ _ 415 _ _ _ _)
    refine G_iload dL_law_415 rfl (?_ : RG _ _ _ _ _ 417 _ _ _ _)
    refine G_iconst dL_law_417 (?_ : RG _ _ _ _ _ 418 _ _ _ _)
    refine G_iadd dL_law_418 (?_ : RG _ _ _ _ _ 419 _ _ _ _)
    refine G_sld (j := i + 1) dL_law_419 (by omega) hsc (by omega) (?_ : RG _ _ _ _ _ 420 _ _ _ _)
    refine G_aload_n dL_law_420 rfl (?_ : RG _ _ _ _ _ 421 _ _ _ _)
    refine G_iload dL_law_421 rfl (?_ : RG _ _ _ _ _ 423 _ _ _ _)
    refine G_iconst dL_law_423 (?_ : RG _ _ _ _ _ 424 _ _ _ _)
    refine G_iadd dL_law_424 (?_ : RG _ _ _ _ _ 425 _ _ _ _)
    refine G_sld (j := i + 2) dL_law_425 (by omega) hsc (by omega) (?_ : RG _ _ _ _ _ 426 _ _ _ _)
    refine G_callV0 (n := 2) (As := [pI (sc.2.1 (i + 1)), pI (sc.2.1 (i + 2))]) (st := []) dL_law_426 mvX12_coach mlL_67 rfl rfl (by decide) (Nat.le_of_ble_eq_true rfl) (by decide) (by decide) (rfl : shp0[147]? = some (12, _)) hM (fun r2 g2 q2 _ => ?_)
    obtain ⟨h4, rfl, rfl, m, t0, t1, t2⟩ := q2
    have hnext := SR_end hs fr e145 e146 hgF m t1 t2
    show RG _ _ _ _ _ 429 _ (pI _ :: []) _ _
    refine G_istore dL_law_429 (Nat.le_of_ble_eq_true rfl) (?_ : RG _ _ _ _ _ 431 [_, _, _, _, _, _, _, _] _ _ _)
    refine G_aload_n dL_law_431 rfl (?_ : RG _ _ _ _ _ 432 _ _ _ _)
    refine G_callV0 (n := 0) (As := []) (st := []) dL_law_432 mvX12_thrown mlL_62 rfl rfl (by decide) (Nat.le_of_ble_eq_true rfl) (by decide) (by decide) (rfl : shp0[147]? = some (12, _)) T_X12_thrown (fun r3 g3 q3 _ => ?_)
    obtain ⟨rfl, rfl⟩ := q3
    rw [t0]
    show RG _ _ _ _ _ 435 _ (pI 0 :: []) _ _
    refine G_iload dL_law_435 rfl (?_ : RG _ _ _ _ _ 437 _ _ _ _)
    refine G_icmp_eq2 (t := 442) dL_law_437 rfl (?_ : RG _ _ _ _ _ 442 _ _ _ _)
    refine G_iload dL_law_442 rfl (?_ : RG _ _ _ _ _ 444 _ _ _ _)
    refine G_if_ne (t := 459) dL_law_444 rfl (fun c9 => ?_) (fun c9 => ?_)
    · exact absurd rfl c9
    · refine G_aload_n dL_law_447 rfl (?_ : RG _ _ _ _ _ 448 _ _ _ _)
      refine G_iconst dL_law_448 (?_ : RG _ _ _ _ _ 449 _ _ _ _)
      refine G_lald dL_law_449 (fun q9 => (?_ : RG _ _ _ _ _ 450 _ _ _ _))
      have e9 : h4 178 0 = wr (coZZ (cxM sem h np nc) (h 154) (sc.2.1 (i + 1)).toNat (sc.2.1 (i + 2))) := by rw [m.1 178 (by omega), e1, rup_s, fup_s]
      rw [e9] at q9 ⊢
      refine G_iload dL_law_450 rfl (?_ : RG _ _ _ _ _ 452 _ _ _ _)
      refine G_i2lw dL_law_452 (?_ : RG _ _ _ _ _ 453 _ _ _ _)
      refine G_lcmp dL_law_453 (wr64 _) (wr64 _) (?_ : RG _ _ _ _ _ 454 _ _ _ _)
      rw [if_neg (by omega), if_pos rfl]
      refine G_if_eq (t := 459) dL_law_454 rfl (fun c8 => ?_) (fun c8 => ?_)
      · exact G_goto (t := 1446) dL_law_459 rfl (next _ _ _ h4 hnext)
      · exact absurd rfl c8
  · rw [if_neg ok] at hM
    show RG _ _ _ _ _ 411 _ (pI 1 :: []) _ _
    refine G_istore dL_law_411 (Nat.le_of_ble_eq_true rfl) (?_ : RG _ _ _ _ _ 413 [_, _, _, _, _, _, _, _] _ _ _)
    refine G_aload_n dL_law_413 rfl (?_ : RG _ _ _ _ _ 414 _ _ _ _)
    refine G_aload_n dL_law_414 rfl (?_ : RG _ _ _ _ _ 415 _ _ _ _)
    refine G_iload dL_law_415 rfl (?_ : RG _ _ _ _ _ 417 _ _ _ _)
    refine G_iconst dL_law_417 (?_ : RG _ _ _ _ _ 418 _ _ _ _)
    refine G_iadd dL_law_418 (?_ : RG _ _ _ _ _ 419 _ _ _ _)
    refine G_sld (j := i + 1) dL_law_419 (by omega) hsc (by omega) (?_ : RG _ _ _ _ _ 420 _ _ _ _)
    refine G_aload_n dL_law_420 rfl (?_ : RG _ _ _ _ _ 421 _ _ _ _)
    refine G_iload dL_law_421 rfl (?_ : RG _ _ _ _ _ 423 _ _ _ _)
    refine G_iconst dL_law_423 (?_ : RG _ _ _ _ _ 424 _ _ _ _)
    refine G_iadd dL_law_424 (?_ : RG _ _ _ _ _ 425 _ _ _ _)
    refine G_sld (j := i + 2) dL_law_425 (by omega) hsc (by omega) (?_ : RG _ _ _ _ _ 426 _ _ _ _)
    refine G_callV0 (n := 2) (As := [pI (sc.2.1 (i + 1)), pI (sc.2.1 (i + 2))]) (st := []) dL_law_426 mvX12_coach mlL_67 rfl rfl (by decide) (Nat.le_of_ble_eq_true rfl) (by decide) (by decide) (rfl : shp0[147]? = some (12, _)) hM (fun r2 g2 q2 _ => ?_)
    obtain ⟨h4, rfl, rfl, m, t0, t1, t2⟩ := q2
    have hnext := SR_end hs fr e145 e146 hgF m t1 t2
    show RG _ _ _ _ _ 429 _ (pI _ :: []) _ _
    refine G_istore dL_law_429 (Nat.le_of_ble_eq_true rfl) (?_ : RG _ _ _ _ _ 431 [_, _, _, _, _, _, _, _] _ _ _)
    refine G_aload_n dL_law_431 rfl (?_ : RG _ _ _ _ _ 432 _ _ _ _)
    refine G_callV0 (n := 0) (As := []) (st := []) dL_law_432 mvX12_thrown mlL_62 rfl rfl (by decide) (Nat.le_of_ble_eq_true rfl) (by decide) (by decide) (rfl : shp0[147]? = some (12, _)) T_X12_thrown (fun r3 g3 q3 _ => ?_)
    obtain ⟨rfl, rfl⟩ := q3
    rw [t0]
    show RG _ _ _ _ _ 435 _ (pI 1 :: []) _ _
    refine G_iload dL_law_435 rfl (?_ : RG _ _ _ _ _ 437 _ _ _ _)
    refine G_icmp_eq2 (t := 442) dL_law_437 rfl (?_ : RG _ _ _ _ _ 442 _ _ _ _)
    refine G_iload dL_law_442 rfl (?_ : RG _ _ _ _ _ 444 _ _ _ _)
    refine G_if_ne (t := 459) dL_law_444 rfl (fun c9 => ?_) (fun c9 => ?_)
    · exact G_goto (t := 1446) dL_law_459 rfl (next _ _ _ h4 hnext)
    · exact absurd c9 (by decide)
theorem LC_8 (hsc : sc.1 ≤ 2560) (hv : ∀ j, r32 (sc.2.1 j)) (hi : i + 5 ≤ sc.1) (hs : SR k h) (next : ∀ x5 x6 x7 h4, SR (k + 1) h4 → RG sc mL_law 762 kc ks 1446 [pR 1300, pR 0, pR 147, pR 178, pI i, x5, x6, x7] [] (shp0, rf0, h4) Q) : RG sc mL_law 762 (1 + kc) (6 + ks) 462 [pR 1300, pR 0, pR 147, pR 178, pI i, x5, x6, x7] [] (shp0, rf0, h) Q := by
  obtain ⟨sem, H, np, nc, len, hs⟩ := hs
  refine G_aload_n dL_law_462 rfl (?_ : RG _ _ _ _ _ 463 _ _ _ _)
  refine G_aload_n dL_law_463 rfl (?_ : RG _ _ _ _ _ 464 _ _ _ _)
  refine G_iload dL_law_464 rfl (?_ : RG _ _ _ _ _ 466 _ _ _ _)
  refine G_iconst dL_law_466 (?_ : RG _ _ _ _ _ 467 _ _ _ _)
  refine G_iadd dL_law_467 (?_ : RG _ _ _ _ _ 468 _ _ _ _)
  refine G_sld (j := i + 1) dL_law_468 (by omega) hsc (by omega) (?_ : RG _ _ _ _ _ 469 _ _ _ _)
  refine G_aload_n dL_law_469 rfl (?_ : RG _ _ _ _ _ 470 _ _ _ _)
  refine G_iload dL_law_470 rfl (?_ : RG _ _ _ _ _ 472 _ _ _ _)
  refine G_iconst dL_law_472 (?_ : RG _ _ _ _ _ 473 _ _ _ _)
  refine G_iadd dL_law_473 (?_ : RG _ _ _ _ _ 474 _ _ _ _)
  refine G_sld (j := i + 2) dL_law_474 (by omega) hsc (by omega) (?_ : RG _ _ _ _ _ 475 _ _ _ _)
  refine G_aload_n dL_law_475 rfl (?_ : RG _ _ _ _ _ 476 _ _ _ _)
  refine G_callW (M2 := mL_passenger) (kc2 := 1) (ks2 := 6) (d2 := 8) (n := 4) (As := [pR 0, pI (sc.2.1 (i + 1)), pI (sc.2.1 (i + 2)), pR 178]) (st := []) (hh := [(0, 10, 13, 13)]) dL_law_476 mlL_68 wcL_passenger.1 wcL_passenger.2 iniL (by decide +kernel) (by decide) rfl ⟨by decide, by decide, by decide +kernel⟩ rfl rfl (by decide) (Nat.le_of_ble_eq_true rfl) (by decide) (W_passenger hs (hv _) (hv _)) wq_no (fun r g' q _ => ?_)
  obtain ⟨h1, rfl, q⟩ := q
  obtain ⟨fr, e145, e146, hgF⟩ := wq_fr q
  have hs1 : SRx k (rup h 178 (h1 178)) sem H np nc len := SRx_178 hs (fun a ha => rup_n ha)
  have hM := M_passA (h3 := h1) hs1 (fun a ha => if e : a = 178 then (by rw [e, rup_s]) else (by rw [rup_n e]; exact fr a ha e)) (hv (i + 1)) (hv (i + 2))
  have eZ : paZZ (cxM sem (rup h 178 (h1 178)) np nc) ((rup h 178 (h1 178)) 154) (sc.2.1 (i + 1)).toNat (sc.2.1 (i + 2)) = paZZ (cxM sem h np nc) (h 154) (sc.2.1 (i + 1)).toNat (sc.2.1 (i + 2)) := by
    simp only [cxM, rup_n (show (149 : Nat) ≠ 178 by decide), rup_n (show (150 : Nat) ≠ 178 by decide), rup_n (show (151 : Nat) ≠ 178 by decide), rup_n (show (152 : Nat) ≠ 178 by decide), rup_n (show (153 : Nat) ≠ 178 by decide), rup_n (show (154 : Nat) ≠ 178 by decide)]
  rw [eZ] at hM
  rcases q with ⟨ok, rfl, h0, f1, f2, f3, e1⟩ | ⟨ok, rfl, e1⟩
  · rw [if_pos ok] at hM
    show RG _ _ _ _ _ 479 _ (pI 0 :: []) _ _
    refine G_istore dL_law_479 (Nat.le_of_ble_eq_true rfl) (?_ : RG _ _ _ _ _ 481 [_, _, _, _, _, _, _, _] _ _ _)
    refine G_aload_n dL_law_481 rfl (?_ : RG _ _ _ _ _ 482 _ _ _ _)
    refine G_aload_n dL_law_482 rfl (?_ : RG _ _ _ _ _ 483 _ _ _ _)
    refine G_iload dL_law_483 rfl (?_ : RG _ _ _ _ _ 485 _ _ _ _)
    refine G_iconst dL_law_485 (?_ : RG _ _ _ _ _ 486 _ _ _ _)
    refine G_iadd dL_law_486 (?_ : RG _ _ _ _ _ 487 _ _ _ _)
    refine G_sld (j := i + 1) dL_law_487 (by omega) hsc (by omega) (?_ : RG _ _ _ _ _ 488 _ _ _ _)
    refine G_aload_n dL_law_488 rfl (?_ : RG _ _ _ _ _ 489 _ _ _ _)
    refine G_iload dL_law_489 rfl (?_ : RG _ _ _ _ _ 491 _ _ _ _)
    refine G_iconst dL_law_491 (?_ : RG _ _ _ _ _ 492 _ _ _ _)
    refine G_iadd dL_law_492 (?_ : RG _ _ _ _ _ 493 _ _ _ _)
    refine G_sld (j := i + 2) dL_law_493 (by omega) hsc (by omega) (?_ : RG _ _ _ _ _ 494 _ _ _ _)
    refine G_callV0 (n := 2) (As := [pI (sc.2.1 (i + 1)), pI (sc.2.1 (i + 2))]) (st := []) dL_law_494 mvX12_passenger mlL_70 rfl rfl (by decide) (Nat.le_of_ble_eq_true rfl) (by decide) (by decide) (rfl : shp0[147]? = some (12, _)) hM (fun r2 g2 q2 _ => ?_)
    obtain ⟨h4, rfl, rfl, m, t0, t1, t2⟩ := q2
    have hnext := SR_end hs fr e145 e146 hgF m t1 t2
    show RG _ _ _ _ _ 497 _ (pI _ :: []) _ _
    refine G_istore dL_law_497 (Nat.le_of_ble_eq_true rfl) (?_ : RG _ _ _ _ _ 499 [_, _, _, _, _, _, _, _] _ _ _)
    refine G_aload_n dL_law_499 rfl (?_ : RG _ _ _ _ _ 500 _ _ _ _)
    refine G_callV0 (n := 0) (As := []) (st := []) dL_law_500 mvX12_thrown mlL_62 rfl rfl (by decide) (Nat.le_of_ble_eq_true rfl) (by decide) (by decide) (rfl : shp0[147]? = some (12, _)) T_X12_thrown (fun r3 g3 q3 _ => ?_)
    obtain ⟨rfl, rfl⟩ := q3
    rw [t0]
    show RG _ _ _ _ _ 503 _ (pI 0 :: []) _ _
    refine G_iload dL_law_503 rfl (?_ : RG _ _ _ _ _ 505 _ _ _ _)
    refine G_icmp_eq2 (t := 510) dL_law_505 rfl (?_ : RG _ _ _ _ _ 510 _ _ _ _)
    refine G_iload dL_law_510 rfl (?_ : RG _ _ _ _ _ 512 _ _ _ _)
    refine G_if_ne (t := 527) dL_law_512 rfl (fun c9 => ?_) (fun c9 => ?_)
    · exact absurd rfl c9
    · refine G_aload_n dL_law_515 rfl (?_ : RG _ _ _ _ _ 516 _ _ _ _)
      refine G_iconst dL_law_516 (?_ : RG _ _ _ _ _ 517 _ _ _ _)
      refine G_lald dL_law_517 (fun q9 => (?_ : RG _ _ _ _ _ 518 _ _ _ _))
      have e9 : h4 178 0 = wr (paZZ (cxM sem h np nc) (h 154) (sc.2.1 (i + 1)).toNat (sc.2.1 (i + 2))) := by rw [m.1 178 (by omega), e1, rup_s, fup_s]
      rw [e9] at q9 ⊢
      refine G_iload dL_law_518 rfl (?_ : RG _ _ _ _ _ 520 _ _ _ _)
      refine G_i2lw dL_law_520 (?_ : RG _ _ _ _ _ 521 _ _ _ _)
      refine G_lcmp dL_law_521 (wr64 _) (wr64 _) (?_ : RG _ _ _ _ _ 522 _ _ _ _)
      rw [if_neg (by omega), if_pos rfl]
      refine G_if_eq (t := 527) dL_law_522 rfl (fun c8 => ?_) (fun c8 => ?_)
      · exact G_goto (t := 1446) dL_law_527 rfl (next _ _ _ h4 hnext)
      · exact absurd rfl c8
  · rw [if_neg ok] at hM
    show RG _ _ _ _ _ 479 _ (pI 1 :: []) _ _
    refine G_istore dL_law_479 (Nat.le_of_ble_eq_true rfl) (?_ : RG _ _ _ _ _ 481 [_, _, _, _, _, _, _, _] _ _ _)
    refine G_aload_n dL_law_481 rfl (?_ : RG _ _ _ _ _ 482 _ _ _ _)
    refine G_aload_n dL_law_482 rfl (?_ : RG _ _ _ _ _ 483 _ _ _ _)
    refine G_iload dL_law_483 rfl (?_ : RG _ _ _ _ _ 485 _ _ _ _)
    refine G_iconst dL_law_485 (?_ : RG _ _ _ _ _ 486 _ _ _ _)
    refine G_iadd dL_law_486 (?_ : RG _ _ _ _ _ 487 _ _ _ _)
    refine G_sld (j := i + 1) dL_law_487 (by omega) hsc (by omega) (?_ : RG _ _ _ _ _ 488 _ _ _ _)
    refine G_aload_n dL_law_488 rfl (?_ : RG _ _ _ _ _ 489 _ _ _ _)
    refine G_iload dL_law_489 rfl (?_ : RG _ _ _ _ _ 491 _ _ _ _)
    refine G_iconst dL_law_491 (?_ : RG _ _ _ _ _ 492 _ _ _ _)
    refine G_iadd dL_law_492 (?_ : RG _ _ _ _ _ 493 _ _ _ _)
    refine G_sld (j := i + 2) dL_law_493 (by omega) hsc (by omega) (?_ : RG _ _ _ _ _ 494 _ _ _ _)
    refine G_callV0 (n := 2) (As := [pI (sc.2.1 (i + 1)), pI (sc.2.1 (i + 2))]) (st := []) dL_law_494 mvX12_passenger mlL_70 rfl rfl (by decide) (Nat.le_of_ble_eq_true rfl) (by decide) (by decide) (rfl : shp0[147]? = some (12, _)) hM (fun r2 g2 q2 _ => ?_)
    obtain ⟨h4, rfl, rfl, m, t0, t1, t2⟩ := q2
    have hnext := SR_end hs fr e145 e146 hgF m t1 t2
    show RG _ _ _ _ _ 497 _ (pI _ :: []) _ _
    refine G_istore dL_law_497 (Nat.le_of_ble_eq_true rfl) (?_ : RG _ _ _ _ _ 499 [_, _, _, _, _, _, _, _] _ _ _)
    refine G_aload_n dL_law_499 rfl (?_ : RG _ _ _ _ _ 500 _ _ _ _)
    refine G_callV0 (n := 0) (As := []) (st := []) dL_law_500 mvX12_thrown mlL_62 rfl rfl (by decide) (Nat.le_of_ble_eq_true rfl) (by decide) (by decide) (rfl : shp0[147]? = some (12, _)) T_X12_thrown (fun r3 g3 q3 _ => ?_)
    obtain ⟨rfl, rfl⟩ := q3
    rw [t0]
    show RG _ _ _ _ _ 503 _ (pI 1 :: []) _ _
    refine G_iload dL_law_503 rfl (?_ : RG _ _ _ _ _ 505 _ _ _ _)
    refine G_icmp_eq2 (t := 510) dL_law_505 rfl (?_ : RG _ _ _ _ _ 510 _ _ _ _)
    refine G_iload dL_law_510 rfl (?_ : RG _ _ _ _ _ 512 _ _ _ _)
    refine G_if_ne (t := 527) dL_law_512 rfl (fun c9 => ?_) (fun c9 => ?_)
    · exact G_goto (t := 1446) dL_law_527 rfl (next _ _ _ h4 hnext)
    · exact absurd c9 (by decide)
theorem LC_42 (hsc : sc.1 ≤ 2560) (hv : ∀ j, r32 (sc.2.1 j)) (hi : i + 5 ≤ sc.1) (hs : SR k h) (h64 : ∀ j, r64 (h 146 j)) (next : ∀ x5 x6 x7 h4, SR (k + 1) h4 → RG sc mL_law 762 kc ks 1446 [pR 1300, pR 0, pR 147, pR 178, pI i, x5, x6, x7] [] (shp0, rf0, h4) Q) : RG sc mL_law 762 (1 + kc) (6 + ks) 1391 [pR 1300, pR 0, pR 147, pR 178, pI i, x5, x6, x7] [] (shp0, rf0, h) Q := by
  obtain ⟨sem, H, np, nc, len, hs⟩ := hs
  obtain ⟨nn, n1, n2, n3, n4⟩ := hs.2.2.1
  refine G_aload_n dL_law_1391 rfl (?_ : RG _ _ _ _ _ 1392 _ _ _ _)
  refine G_aload_n dL_law_1392 rfl (?_ : RG _ _ _ _ _ 1393 _ _ _ _)
  refine G_iload dL_law_1393 rfl (?_ : RG _ _ _ _ _ 1395 _ _ _ _)
  refine G_iconst dL_law_1395 (?_ : RG _ _ _ _ _ 1396 _ _ _ _)
  refine G_iadd dL_law_1396 (?_ : RG _ _ _ _ _ 1397 _ _ _ _)
  refine G_sld (j := i + 1) dL_law_1397 (by omega) hsc (by omega) (?_ : RG _ _ _ _ _ 1398 _ _ _ _)
  refine G_aload_n dL_law_1398 rfl (?_ : RG _ _ _ _ _ 1399 _ _ _ _)
  refine G_callW (M2 := mL_row) (kc2 := 1) (ks2 := 6) (d2 := 8) (n := 3) (As := [pR 0, pI (sc.2.1 (i + 1)), pR 178]) (st := []) (hh := [(0, 8, 11, 13)]) dL_law_1399 mlL_205 wcL_row.1 wcL_row.2 iniL (by decide +kernel) (by decide) rfl ⟨by decide, by decide, by decide +kernel⟩ rfl rfl (by decide) (Nat.le_of_ble_eq_true rfl) (by decide) (W_row n1 n3 (h64 _) (hv _)) wq_no (fun r g' q _ => ?_)
  obtain ⟨h1, rfl, q⟩ := q
  obtain ⟨fr, e145, e146, hgF⟩ := wq_fr q
  have hM := M_rowA (h3 := h1) (n := nn) (i := (sc.2.1 (i + 1))) (by rw [fr 147 (by omega) (by omega)]; exact n2) n3 (hv _)
  rcases q with ⟨ok, rfl, h0, f1, f2, f3, e1⟩ | ⟨ok, rfl, e1⟩
  · rw [if_pos ok] at hM
    show RG _ _ _ _ _ 1402 _ (pI 0 :: []) _ _
    refine G_istore dL_law_1402 (Nat.le_of_ble_eq_true rfl) (?_ : RG _ _ _ _ _ 1404 [_, _, _, _, _, _, _, _] _ _ _)
    refine G_aload_n dL_law_1404 rfl (?_ : RG _ _ _ _ _ 1405 _ _ _ _)
    refine G_aload_n dL_law_1405 rfl (?_ : RG _ _ _ _ _ 1406 _ _ _ _)
    refine G_iload dL_law_1406 rfl (?_ : RG _ _ _ _ _ 1408 _ _ _ _)
    refine G_iconst dL_law_1408 (?_ : RG _ _ _ _ _ 1409 _ _ _ _)
    refine G_iadd dL_law_1409 (?_ : RG _ _ _ _ _ 1410 _ _ _ _)
    refine G_sld (j := i + 1) dL_law_1410 (by omega) hsc (by omega) (?_ : RG _ _ _ _ _ 1411 _ _ _ _)
    refine G_callV0 (n := 1) (As := [pI (sc.2.1 (i + 1))]) (st := []) dL_law_1411 mvX12_row mlL_208 rfl rfl (by decide) (Nat.le_of_ble_eq_true rfl) (by decide) (by decide) (rfl : shp0[147]? = some (12, _)) hM (fun r2 g2 q2 _ => ?_)
    obtain ⟨h4, rfl, rfl, m, t0, t1, t2⟩ := q2
    have hnext := SR_end hs fr e145 e146 hgF m t1 t2
    show RG _ _ _ _ _ 1414 _ (pL _ :: []) _ _
    refine G_lstore dL_law_1414 (Nat.le_of_ble_eq_true rfl) (?_ : RG _ _ _ _ _ 1416 [_, _, _, _, _, _, _, _] _ _ _)
    refine G_aload_n dL_law_1416 rfl (?_ : RG _ _ _ _ _ 1417 _ _ _ _)
    refine G_callV0 (n := 0) (As := []) (st := []) dL_law_1417 mvX12_thrown mlL_62 rfl rfl (by decide) (Nat.le_of_ble_eq_true rfl) (by decide) (by decide) (rfl : shp0[147]? = some (12, _)) T_X12_thrown (fun r3 g3 q3 _ => ?_)
    obtain ⟨rfl, rfl⟩ := q3
    rw [t0]
    show RG _ _ _ _ _ 1420 _ (pI 0 :: []) _ _
    refine G_iload dL_law_1420 rfl (?_ : RG _ _ _ _ _ 1422 _ _ _ _)
    refine G_icmp_eq2 (t := 1427) dL_law_1422 rfl (?_ : RG _ _ _ _ _ 1427 _ _ _ _)
    refine G_iload dL_law_1427 rfl (?_ : RG _ _ _ _ _ 1429 _ _ _ _)
    refine G_if_ne (t := 1443) dL_law_1429 rfl (fun c9 => ?_) (fun c9 => ?_)
    · exact absurd rfl c9
    · refine G_aload_n dL_law_1432 rfl (?_ : RG _ _ _ _ _ 1433 _ _ _ _)
      refine G_iconst dL_law_1433 (?_ : RG _ _ _ _ _ 1434 _ _ _ _)
      refine G_lald dL_law_1434 (fun q9 => (?_ : RG _ _ _ _ _ 1435 _ _ _ _))
      have e9 : h4 178 0 = h1 148 (sc.2.1 (i + 1)) := by rw [m.1 178 (by omega), e1, rup_s, fup_s, rup_n (by decide), f1 148 (by omega)]; have := n4 (sc.2.1 (i + 1)).toNat (by omega); rwa [show (((sc.2.1 (i + 1)).toNat : Nat) : Int) = (sc.2.1 (i + 1)) by omega] at this
      rw [e9] at q9 ⊢
      refine G_lload dL_law_1435 rfl (?_ : RG _ _ _ _ _ 1437 _ _ _ _)
      refine G_lcmp dL_law_1437 q9 q9 (?_ : RG _ _ _ _ _ 1438 _ _ _ _)
      rw [if_neg (by omega), if_pos rfl]
      refine G_if_eq (t := 1443) dL_law_1438 rfl (fun c8 => ?_) (fun c8 => ?_)
      · exact G_goto (t := 1446) dL_law_1443 rfl (next _ _ _ h4 hnext)
      · exact absurd rfl c8
  · rw [if_neg ok] at hM
    show RG _ _ _ _ _ 1402 _ (pI 1 :: []) _ _
    refine G_istore dL_law_1402 (Nat.le_of_ble_eq_true rfl) (?_ : RG _ _ _ _ _ 1404 [_, _, _, _, _, _, _, _] _ _ _)
    refine G_aload_n dL_law_1404 rfl (?_ : RG _ _ _ _ _ 1405 _ _ _ _)
    refine G_aload_n dL_law_1405 rfl (?_ : RG _ _ _ _ _ 1406 _ _ _ _)
    refine G_iload dL_law_1406 rfl (?_ : RG _ _ _ _ _ 1408 _ _ _ _)
    refine G_iconst dL_law_1408 (?_ : RG _ _ _ _ _ 1409 _ _ _ _)
    refine G_iadd dL_law_1409 (?_ : RG _ _ _ _ _ 1410 _ _ _ _)
    refine G_sld (j := i + 1) dL_law_1410 (by omega) hsc (by omega) (?_ : RG _ _ _ _ _ 1411 _ _ _ _)
    refine G_callV0 (n := 1) (As := [pI (sc.2.1 (i + 1))]) (st := []) dL_law_1411 mvX12_row mlL_208 rfl rfl (by decide) (Nat.le_of_ble_eq_true rfl) (by decide) (by decide) (rfl : shp0[147]? = some (12, _)) hM (fun r2 g2 q2 _ => ?_)
    obtain ⟨h4, rfl, rfl, m, t0, t1, t2⟩ := q2
    have hnext := SR_end hs fr e145 e146 hgF m t1 t2
    show RG _ _ _ _ _ 1414 _ (pL _ :: []) _ _
    refine G_lstore dL_law_1414 (Nat.le_of_ble_eq_true rfl) (?_ : RG _ _ _ _ _ 1416 [_, _, _, _, _, _, _, _] _ _ _)
    refine G_aload_n dL_law_1416 rfl (?_ : RG _ _ _ _ _ 1417 _ _ _ _)
    refine G_callV0 (n := 0) (As := []) (st := []) dL_law_1417 mvX12_thrown mlL_62 rfl rfl (by decide) (Nat.le_of_ble_eq_true rfl) (by decide) (by decide) (rfl : shp0[147]? = some (12, _)) T_X12_thrown (fun r3 g3 q3 _ => ?_)
    obtain ⟨rfl, rfl⟩ := q3
    rw [t0]
    show RG _ _ _ _ _ 1420 _ (pI 1 :: []) _ _
    refine G_iload dL_law_1420 rfl (?_ : RG _ _ _ _ _ 1422 _ _ _ _)
    refine G_icmp_eq2 (t := 1427) dL_law_1422 rfl (?_ : RG _ _ _ _ _ 1427 _ _ _ _)
    refine G_iload dL_law_1427 rfl (?_ : RG _ _ _ _ _ 1429 _ _ _ _)
    refine G_if_ne (t := 1443) dL_law_1429 rfl (fun c9 => ?_) (fun c9 => ?_)
    · exact G_goto (t := 1446) dL_law_1443 rfl (next _ _ _ h4 hnext)
    · exact absurd c9 (by decide)
end TCS
