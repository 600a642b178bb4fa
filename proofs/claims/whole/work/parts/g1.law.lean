/-! the law, one call of both -/
theorem G_icmp_eq2 {sc : SC} {M : PMt} {d kc ks pc : Nat} {ls st : List PV} {g : PH} {Q : Option PV → PH → Prop} {a off : Int} {t : Nat} (hd : decode M.2.1 pc = .ok (.if_icmp .eq off, 3)) (ht : (pc : Int) + off = (t : Int)) (kt : RG sc M d kc ks t ls st g Q) : RG sc M d kc ks pc ls (pI a :: pI a :: st) g Q :=
  RG.of2 (pc3 := pc) (st3 := st) (P := True) (P2 := False) (fun hF k1 _ => lv_icmp_eq hF.1 hF.2.1 hd ht (fun _ => k1 trivial) (fun q => absurd rfl q)) (fun _ => kt) (fun q => q.elim)
section LCS
variable {sc : SC} {kc ks i k : Nat} {h : Nat → Int → Int} {x5 x6 x7 : PV} {Q : Option PV → PH → Prop}
theorem LC_0 (hsc : sc.1 ≤ 2560) (hv : ∀ j, r32 (sc.2.1 j)) (hi : i + 5 ≤ sc.1) (hk : k ≤ 1000) (hs : SR k h) (next : ∀ h4, SR (k + 1) h4 → RG sc mL_law 762 kc ks 1446 [pR 1300, pR 0, pR 147, pR 178, pI i, x5, x6, x7] [] (shp0, rf0, h4) Q) : RG sc mL_law 762 kc ks 224 [pR 1300, pR 0, pR 147, pR 178, pI i, x5, x6, x7] [] (shp0, rf0, h) Q := by
  obtain ⟨sem, H, np, nc, len, hs⟩ := hs
  refine G_aload_n dL_law_224 rfl (?_ : RG _ _ _ _ _ 225 _ _ _ _)
  refine G_aload_n dL_law_225 rfl (?_ : RG _ _ _ _ _ 226 _ _ _ _)
  refine G_iload dL_law_226 rfl (?_ : RG _ _ _ _ _ 228 _ _ _ _)
  refine G_iconst dL_law_228 (?_ : RG _ _ _ _ _ 229 _ _ _ _)
  refine G_iadd dL_law_229 (?_ : RG _ _ _ _ _ 230 _ _ _ _)
  refine G_sld (j := i + 1) dL_law_230 (by omega) hsc (by omega) (?_ : RG _ _ _ _ _ 231 _ _ _ _)
  refine G_ag (n := 1) (As := [pI (sc.2.1 (i + 1))]) (A_sign hs (hv (i + 1))) dL_law_231 dL_law_241 mvX11_sign mvX12_sign mlL_29 mlL_33 (Or.inl rfl) rfl (Nat.le_of_ble_eq_true rfl) (Nat.le_of_ble_eq_true rfl) (by decide) (by decide) rfl (fun z h3 kk => ?_) (fun z h4 hs4 => ?_)
  · refine G_aload_n dL_law_234 rfl (?_ : RG _ _ _ _ _ 235 _ _ _ _)
    refine G_aload_n dL_law_235 rfl (?_ : RG _ _ _ _ _ 236 _ _ _ _)
    refine G_iload dL_law_236 rfl (?_ : RG _ _ _ _ _ 238 _ _ _ _)
    refine G_iconst dL_law_238 (?_ : RG _ _ _ _ _ 239 _ _ _ _)
    refine G_iadd dL_law_239 (?_ : RG _ _ _ _ _ 240 _ _ _ _)
    refine G_sld (j := i + 1) dL_law_240 (by omega) hsc (by omega) (?_ : RG _ _ _ _ _ 241 _ _ _ _)
    exact kk
  · refine G_icmp_eq2 (t := 1446) dL_law_244 rfl (next h4 hs4)
theorem LC_1 (hsc : sc.1 ≤ 2560) (hv : ∀ j, r32 (sc.2.1 j)) (hi : i + 5 ≤ sc.1) (hk : k ≤ 1000) (hs : SR k h) (next : ∀ h4, SR (k + 1) h4 → RG sc mL_law 762 kc ks 1446 [pR 1300, pR 0, pR 147, pR 178, pI i, x5, x6, x7] [] (shp0, rf0, h4) Q) : RG sc mL_law 762 kc ks 249 [pR 1300, pR 0, pR 147, pR 178, pI i, x5, x6, x7] [] (shp0, rf0, h) Q := by
  obtain ⟨sem, H, np, nc, len, hs⟩ := hs
  refine G_aload_n dL_law_249 rfl (?_ : RG _ _ _ _ _ 250 _ _ _ _)
  refine G_aload_n dL_law_250 rfl (?_ : RG _ _ _ _ _ 251 _ _ _ _)
  refine G_iload dL_law_251 rfl (?_ : RG _ _ _ _ _ 253 _ _ _ _)
  refine G_iconst dL_law_253 (?_ : RG _ _ _ _ _ 254 _ _ _ _)
  refine G_iadd dL_law_254 (?_ : RG _ _ _ _ _ 255 _ _ _ _)
  refine G_sld (j := i + 1) dL_law_255 (by omega) hsc (by omega) (?_ : RG _ _ _ _ _ 256 _ _ _ _)
  refine G_ag (n := 1) (As := [pI (sc.2.1 (i + 1))]) (A_end hs (hv (i + 1))) dL_law_256 dL_law_266 mvX11_end mvX12_end mlL_34 mlL_38 (Or.inr rfl) rfl (Nat.le_of_ble_eq_true rfl) (Nat.le_of_ble_eq_true rfl) (by decide) (by decide) rfl (fun z h3 kk => ?_) (fun z h4 hs4 => ?_)
  · refine G_aload_n dL_law_259 rfl (?_ : RG _ _ _ _ _ 260 _ _ _ _)
    refine G_aload_n dL_law_260 rfl (?_ : RG _ _ _ _ _ 261 _ _ _ _)
    refine G_iload dL_law_261 rfl (?_ : RG _ _ _ _ _ 263 _ _ _ _)
    refine G_iconst dL_law_263 (?_ : RG _ _ _ _ _ 264 _ _ _ _)
    refine G_iadd dL_law_264 (?_ : RG _ _ _ _ _ 265 _ _ _ _)
    refine G_sld (j := i + 1) dL_law_265 (by omega) hsc (by omega) (?_ : RG _ _ _ _ _ 266 _ _ _ _)
    exact kk
  · refine G_icmp_eq2 (t := 1446) dL_law_269 rfl (next h4 hs4)
theorem LC_2 (hsc : sc.1 ≤ 2560) (hv : ∀ j, r32 (sc.2.1 j)) (hi : i + 5 ≤ sc.1) (hk : k ≤ 1000) (hs : SR k h) (next : ∀ h4, SR (k + 1) h4 → RG sc mL_law 762 kc ks 1446 [pR 1300, pR 0, pR 147, pR 178, pI i, x5, x6, x7] [] (shp0, rf0, h4) Q) : RG sc mL_law 762 kc ks 274 [pR 1300, pR 0, pR 147, pR 178, pI i, x5, x6, x7] [] (shp0, rf0, h) Q := by
  obtain ⟨sem, H, np, nc, len, hs⟩ := hs
  refine G_aload_n dL_law_274 rfl (?_ : RG _ _ _ _ _ 275 _ _ _ _)
  refine G_ag (n := 0) (As := []) (A_net hs hk) dL_law_275 dL_law_279 mvX11_net mvX12_net mlL_39 mlL_43 (Or.inl rfl) rfl (Nat.le_of_ble_eq_true rfl) (Nat.le_of_ble_eq_true rfl) (by decide) (by decide) rfl (fun z h3 kk => ?_) (fun z h4 hs4 => ?_)
  · refine G_aload_n dL_law_278 rfl (?_ : RG _ _ _ _ _ 279 _ _ _ _)
    exact kk
  · refine G_icmp_eq2 (t := 1446) dL_law_282 rfl (next h4 hs4)
theorem LC_3 (hsc : sc.1 ≤ 2560) (hv : ∀ j, r32 (sc.2.1 j)) (hi : i + 5 ≤ sc.1) (hk : k ≤ 1000) (hs : SR k h) (next : ∀ h4, SR (k + 1) h4 → RG sc mL_law 762 kc ks 1446 [pR 1300, pR 0, pR 147, pR 178, pI i, x5, x6, x7] [] (shp0, rf0, h4) Q) : RG sc mL_law 762 kc ks 287 [pR 1300, pR 0, pR 147, pR 178, pI i, x5, x6, x7] [] (shp0, rf0, h) Q := by
  obtain ⟨sem, H, np, nc, len, hs⟩ := hs
  refine G_aload_n dL_law_287 rfl (?_ : RG _ _ _ _ _ 288 _ _ _ _)
  refine G_ag (n := 0) (As := []) (A_coaches hs hk) dL_law_288 dL_law_292 mvX11_coaches mvX12_coaches mlL_44 mlL_47 (Or.inl rfl) rfl (Nat.le_of_ble_eq_true rfl) (Nat.le_of_ble_eq_true rfl) (by decide) (by decide) rfl (fun z h3 kk => ?_) (fun z h4 hs4 => ?_)
  · refine G_aload_n dL_law_291 rfl (?_ : RG _ _ _ _ _ 292 _ _ _ _)
    exact kk
  · refine G_icmp_eq2 (t := 1446) dL_law_295 rfl (next h4 hs4)
theorem LC_4 (hsc : sc.1 ≤ 2560) (hv : ∀ j, r32 (sc.2.1 j)) (hi : i + 5 ≤ sc.1) (hk : k ≤ 1000) (hs : SR k h) (next : ∀ h4, SR (k + 1) h4 → RG sc mL_law 762 kc ks 1446 [pR 1300, pR 0, pR 147, pR 178, pI i, x5, x6, x7] [] (shp0, rf0, h4) Q) : RG sc mL_law 762 kc ks 300 [pR 1300, pR 0, pR 147, pR 178, pI i, x5, x6, x7] [] (shp0, rf0, h) Q := by
  obtain ⟨sem, H, np, nc, len, hs⟩ := hs
  refine G_aload_n dL_law_300 rfl (?_ : RG _ _ _ _ _ 301 _ _ _ _)
  refine G_ag (n := 0) (As := []) (A_passengers hs hk) dL_law_301 dL_law_305 mvX11_passengers mvX12_passengers mlL_48 mlL_51 (Or.inl rfl) rfl (Nat.le_of_ble_eq_true rfl) (Nat.le_of_ble_eq_true rfl) (by decide) (by decide) rfl (fun z h3 kk => ?_) (fun z h4 hs4 => ?_)
  · refine G_aload_n dL_law_304 rfl (?_ : RG _ _ _ _ _ 305 _ _ _ _)
    exact kk
  · refine G_icmp_eq2 (t := 1446) dL_law_308 rfl (next h4 hs4)
theorem LC_5 (hsc : sc.1 ≤ 2560) (hv : ∀ j, r32 (sc.2.1 j)) (hi : i + 5 ≤ sc.1) (hk : k ≤ 1000) (hs : SR k h) (next : ∀ h4, SR (k + 1) h4 → RG sc mL_law 762 kc ks 1446 [pR 1300, pR 0, pR 147, pR 178, pI i, x5, x6, x7] [] (shp0, rf0, h4) Q) : RG sc mL_law 762 kc ks 313 [pR 1300, pR 0, pR 147, pR 178, pI i, x5, x6, x7] [] (shp0, rf0, h) Q := by
  obtain ⟨sem, H, np, nc, len, hs⟩ := hs
  refine G_aload_n dL_law_313 rfl (?_ : RG _ _ _ _ _ 314 _ _ _ _)
  refine G_ag (n := 0) (As := []) (A_rule hs hk) dL_law_314 dL_law_318 mvX11_rule mvX12_rule mlL_52 mlL_55 (Or.inl rfl) rfl (Nat.le_of_ble_eq_true rfl) (Nat.le_of_ble_eq_true rfl) (by decide) (by decide) rfl (fun z h3 kk => ?_) (fun z h4 hs4 => ?_)
  · refine G_aload_n dL_law_317 rfl (?_ : RG _ _ _ _ _ 318 _ _ _ _)
    exact kk
  · refine G_icmp_eq2 (t := 1446) dL_law_321 rfl (next h4 hs4)
theorem LC_9 (hsc : sc.1 ≤ 2560) (hv : ∀ j, r32 (sc.2.1 j)) (hi : i + 5 ≤ sc.1) (hk : k ≤ 1000) (hs : SR k h) (next : ∀ h4, SR (k + 1) h4 → RG sc mL_law 762 kc ks 1446 [pR 1300, pR 0, pR 147, pR 178, pI i, x5, x6, x7] [] (shp0, rf0, h4) Q) : RG sc mL_law 762 kc ks 530 [pR 1300, pR 0, pR 147, pR 178, pI i, x5, x6, x7] [] (shp0, rf0, h) Q := by
  obtain ⟨sem, H, np, nc, len, hs⟩ := hs
  refine G_aload_n dL_law_530 rfl (?_ : RG _ _ _ _ _ 531 _ _ _ _)
  refine G_aload_n dL_law_531 rfl (?_ : RG _ _ _ _ _ 532 _ _ _ _)
  refine G_iload dL_law_532 rfl (?_ : RG _ _ _ _ _ 534 _ _ _ _)
  refine G_iconst dL_law_534 (?_ : RG _ _ _ _ _ 535 _ _ _ _)
  refine G_iadd dL_law_535 (?_ : RG _ _ _ _ _ 536 _ _ _ _)
  refine G_sld (j := i + 1) dL_law_536 (by omega) hsc (by omega) (?_ : RG _ _ _ _ _ 537 _ _ _ _)
  refine G_aload_n dL_law_537 rfl (?_ : RG _ _ _ _ _ 538 _ _ _ _)
  refine G_iload dL_law_538 rfl (?_ : RG _ _ _ _ _ 540 _ _ _ _)
  refine G_iconst dL_law_540 (?_ : RG _ _ _ _ _ 541 _ _ _ _)
  refine G_iadd dL_law_541 (?_ : RG _ _ _ _ _ 542 _ _ _ _)
  refine G_sld (j := i + 2) dL_law_542 (by omega) hsc (by omega) (?_ : RG _ _ _ _ _ 543 _ _ _ _)
  refine G_aload_n dL_law_543 rfl (?_ : RG _ _ _ _ _ 544 _ _ _ _)
  refine G_iload dL_law_544 rfl (?_ : RG _ _ _ _ _ 546 _ _ _ _)
  refine G_iconst dL_law_546 (?_ : RG _ _ _ _ _ 547 _ _ _ _)
  refine G_iadd dL_law_547 (?_ : RG _ _ _ _ _ 548 _ _ _ _)
  refine G_sld (j := i + 3) dL_law_548 (by omega) hsc (by omega) (?_ : RG _ _ _ _ _ 549 _ _ _ _)
  refine G_aload_n dL_law_549 rfl (?_ : RG _ _ _ _ _ 550 _ _ _ _)
  refine G_iload dL_law_550 rfl (?_ : RG _ _ _ _ _ 552 _ _ _ _)
  refine G_iconst dL_law_552 (?_ : RG _ _ _ _ _ 553 _ _ _ _)
  refine G_iadd dL_law_553 (?_ : RG _ _ _ _ _ 554 _ _ _ _)
  refine G_sld (j := i + 4) dL_law_554 (by omega) hsc (by omega) (?_ : RG _ _ _ _ _ 555 _ _ _ _)
  refine G_ag (n := 4) (As := [pI (sc.2.1 (i + 1)), pI (sc.2.1 (i + 2)), pI (sc.2.1 (i + 3)), pI (sc.2.1 (i + 4))]) (A_sheet hs (hv (i + 1)) (hv (i + 2)) (hv (i + 3)) (hv (i + 4))) dL_law_555 dL_law_583 mvX11_sheet mvX12_sheet mlL_71 mlL_75 (Or.inl rfl) rfl (Nat.le_of_ble_eq_true rfl) (Nat.le_of_ble_eq_true rfl) (by decide) (by decide) rfl (fun z h3 kk => ?_) (fun z h4 hs4 => ?_)
  · refine G_aload_n dL_law_558 rfl (?_ : RG _ _ _ _ _ 559 _ _ _ _)
    refine G_aload_n dL_law_559 rfl (?_ : RG _ _ _ _ _ 560 _ _ _ _)
    refine G_iload dL_law_560 rfl (?_ : RG _ _ _ _ _ 562 _ _ _ _)
    refine G_iconst dL_law_562 (?_ : RG _ _ _ _ _ 563 _ _ _ _)
    refine G_iadd dL_law_563 (?_ : RG _ _ _ _ _ 564 _ _ _ _)
    refine G_sld (j := i + 1) dL_law_564 (by omega) hsc (by omega) (?_ : RG _ _ _ _ _ 565 _ _ _ _)
    refine G_aload_n dL_law_565 rfl (?_ : RG _ _ _ _ _ 566 _ _ _ _)
    refine G_iload dL_law_566 rfl (?_ : RG _ _ _ _ _ 568 _ _ _ _)
    refine G_iconst dL_law_568 (?_ : RG _ _ _ _ _ 569 _ _ _ _)
    refine G_iadd dL_law_569 (?_ : RG _ _ _ _ _ 570 _ _ _ _)
    refine G_sld (j := i + 2) dL_law_570 (by omega) hsc (by omega) (?_ : RG _ _ _ _ _ 571 _ _ _ _)
    refine G_aload_n dL_law_571 rfl (?_ : RG _ _ _ _ _ 572 _ _ _ _)
    refine G_iload dL_law_572 rfl (?_ : RG _ _ _ _ _ 574 _ _ _ _)
    refine G_iconst dL_law_574 (?_ : RG _ _ _ _ _ 575 _ _ _ _)
    refine G_iadd dL_law_575 (?_ : RG _ _ _ _ _ 576 _ _ _ _)
    refine G_sld (j := i + 3) dL_law_576 (by omega) hsc (by omega) (?_ : RG _ _ _ _ _ 577 _ _ _ _)
    refine G_aload_n dL_law_577 rfl (?_ : RG _ _ _ _ _ 578 _ _ _ _)
    refine G_iload dL_law_578 rfl (?_ : RG _ _ _ _ _ 580 _ _ _ _)
    refine G_iconst dL_law_580 (?_ : RG _ _ _ _ _ 581 _ _ _ _)
    refine G_iadd dL_law_581 (?_ : RG _ _ _ _ _ 582 _ _ _ _)
    refine G_sld (j := i + 4) dL_law_582 (by omega) hsc (by omega) (?_ : RG _ _ _ _ _ 583 _ _ _ _)
    exact kk
  · refine G_icmp_eq2 (t := 1446) dL_law_586 rfl (next h4 hs4)
theorem LC_10 (hsc : sc.1 ≤ 2560) (hv : ∀ j, r32 (sc.2.1 j)) (hi : i + 5 ≤ sc.1) (hk : k ≤ 1000) (hs : SR k h) (next : ∀ h4, SR (k + 1) h4 → RG sc mL_law 762 kc ks 1446 [pR 1300, pR 0, pR 147, pR 178, pI i, x5, x6, x7] [] (shp0, rf0, h4) Q) : RG sc mL_law 762 kc ks 591 [pR 1300, pR 0, pR 147, pR 178, pI i, x5, x6, x7] [] (shp0, rf0, h) Q := by
  obtain ⟨sem, H, np, nc, len, hs⟩ := hs
  refine G_aload_n dL_law_591 rfl (?_ : RG _ _ _ _ _ 592 _ _ _ _)
  refine G_ag (n := 0) (As := []) (A_run hs hk) dL_law_592 dL_law_596 mvX11_run mvX12_run mlL_76 mlL_79 (Or.inl rfl) rfl (Nat.le_of_ble_eq_true rfl) (Nat.le_of_ble_eq_true rfl) (by decide) (by decide) rfl (fun z h3 kk => ?_) (fun z h4 hs4 => ?_)
  · refine G_aload_n dL_law_595 rfl (?_ : RG _ _ _ _ _ 596 _ _ _ _)
    exact kk
  · refine G_icmp_eq2 (t := 1446) dL_law_599 rfl (next h4 hs4)
theorem LC_11 (hsc : sc.1 ≤ 2560) (hv : ∀ j, r32 (sc.2.1 j)) (hi : i + 5 ≤ sc.1) (hk : k ≤ 1000) (hs : SR k h) (next : ∀ h4, SR (k + 1) h4 → RG sc mL_law 762 kc ks 1446 [pR 1300, pR 0, pR 147, pR 178, pI i, x5, x6, x7] [] (shp0, rf0, h4) Q) : RG sc mL_law 762 kc ks 604 [pR 1300, pR 0, pR 147, pR 178, pI i, x5, x6, x7] [] (shp0, rf0, h) Q := by
  obtain ⟨sem, H, np, nc, len, hs⟩ := hs
  refine G_aload_n dL_law_604 rfl (?_ : RG _ _ _ _ _ 605 _ _ _ _)
  refine G_aload_n dL_law_605 rfl (?_ : RG _ _ _ _ _ 606 _ _ _ _)
  refine G_iload dL_law_606 rfl (?_ : RG _ _ _ _ _ 608 _ _ _ _)
  refine G_iconst dL_law_608 (?_ : RG _ _ _ _ _ 609 _ _ _ _)
  refine G_iadd dL_law_609 (?_ : RG _ _ _ _ _ 610 _ _ _ _)
  refine G_sld (j := i + 1) dL_law_610 (by omega) hsc (by omega) (?_ : RG _ _ _ _ _ 611 _ _ _ _)
  refine G_aload_n dL_law_611 rfl (?_ : RG _ _ _ _ _ 612 _ _ _ _)
  refine G_iload dL_law_612 rfl (?_ : RG _ _ _ _ _ 614 _ _ _ _)
  refine G_iconst dL_law_614 (?_ : RG _ _ _ _ _ 615 _ _ _ _)
  refine G_iadd dL_law_615 (?_ : RG _ _ _ _ _ 616 _ _ _ _)
  refine G_sld (j := i + 2) dL_law_616 (by omega) hsc (by omega) (?_ : RG _ _ _ _ _ 617 _ _ _ _)
  refine G_ag (n := 2) (As := [pI (sc.2.1 (i + 1)), pI (sc.2.1 (i + 2))]) (A_go hs hk (hv (i + 1)) (hv (i + 2))) dL_law_617 dL_law_633 mvX11_go mvX12_go mlL_80 mlL_83 (Or.inl rfl) rfl (Nat.le_of_ble_eq_true rfl) (Nat.le_of_ble_eq_true rfl) (by decide) (by decide) rfl (fun z h3 kk => ?_) (fun z h4 hs4 => ?_)
  · refine G_aload_n dL_law_620 rfl (?_ : RG _ _ _ _ _ 621 _ _ _ _)
    refine G_aload_n dL_law_621 rfl (?_ : RG _ _ _ _ _ 622 _ _ _ _)
    refine G_iload dL_law_622 rfl (?_ : RG _ _ _ _ _ 624 _ _ _ _)
    refine G_iconst dL_law_624 (?_ : RG _ _ _ _ _ 625 _ _ _ _)
    refine G_iadd dL_law_625 (?_ : RG _ _ _ _ _ 626 _ _ _ _)
    refine G_sld (j := i + 1) dL_law_626 (by omega) hsc (by omega) (?_ : RG _ _ _ _ _ 627 _ _ _ _)
    refine G_aload_n dL_law_627 rfl (?_ : RG _ _ _ _ _ 628 _ _ _ _)
    refine G_iload dL_law_628 rfl (?_ : RG _ _ _ _ _ 630 _ _ _ _)
    refine G_iconst dL_law_630 (?_ : RG _ _ _ _ _ 631 _ _ _ _)
    refine G_iadd dL_law_631 (?_ : RG _ _ _ _ _ 632 _ _ _ _)
    refine G_sld (j := i + 2) dL_law_632 (by omega) hsc (by omega) (?_ : RG _ _ _ _ _ 633 _ _ _ _)
    exact kk
  · refine G_icmp_eq2 (t := 1446) dL_law_636 rfl (next h4 hs4)
theorem LC_12 (hsc : sc.1 ≤ 2560) (hv : ∀ j, r32 (sc.2.1 j)) (hi : i + 5 ≤ sc.1) (hk : k ≤ 1000) (hs : SR k h) (next : ∀ h4, SR (k + 1) h4 → RG sc mL_law 762 kc ks 1446 [pR 1300, pR 0, pR 147, pR 178, pI i, x5, x6, x7] [] (shp0, rf0, h4) Q) : RG sc mL_law 762 kc ks 641 [pR 1300, pR 0, pR 147, pR 178, pI i, x5, x6, x7] [] (shp0, rf0, h) Q := by
  obtain ⟨sem, H, np, nc, len, hs⟩ := hs
  refine G_aload_n dL_law_641 rfl (?_ : RG _ _ _ _ _ 642 _ _ _ _)
  refine G_ag (n := 0) (As := []) (A_couple hs hk) dL_law_642 dL_law_646 mvX11_couple mvX12_couple mlL_84 mlL_87 (Or.inl rfl) rfl (Nat.le_of_ble_eq_true rfl) (Nat.le_of_ble_eq_true rfl) (by decide) (by decide) rfl (fun z h3 kk => ?_) (fun z h4 hs4 => ?_)
  · refine G_aload_n dL_law_645 rfl (?_ : RG _ _ _ _ _ 646 _ _ _ _)
    exact kk
  · refine G_icmp_eq2 (t := 1446) dL_law_649 rfl (next h4 hs4)
theorem LC_13 (hsc : sc.1 ≤ 2560) (hv : ∀ j, r32 (sc.2.1 j)) (hi : i + 5 ≤ sc.1) (hk : k ≤ 1000) (hs : SR k h) (next : ∀ h4, SR (k + 1) h4 → RG sc mL_law 762 kc ks 1446 [pR 1300, pR 0, pR 147, pR 178, pI i, x5, x6, x7] [] (shp0, rf0, h4) Q) : RG sc mL_law 762 kc ks 654 [pR 1300, pR 0, pR 147, pR 178, pI i, x5, x6, x7] [] (shp0, rf0, h) Q := by
  obtain ⟨sem, H, np, nc, len, hs⟩ := hs
  refine G_aload_n dL_law_654 rfl (?_ : RG _ _ _ _ _ 655 _ _ _ _)
  refine G_aload_n dL_law_655 rfl (?_ : RG _ _ _ _ _ 656 _ _ _ _)
  refine G_iload dL_law_656 rfl (?_ : RG _ _ _ _ _ 658 _ _ _ _)
  refine G_iconst dL_law_658 (?_ : RG _ _ _ _ _ 659 _ _ _ _)
  refine G_iadd dL_law_659 (?_ : RG _ _ _ _ _ 660 _ _ _ _)
  refine G_sld (j := i + 1) dL_law_660 (by omega) hsc (by omega) (?_ : RG _ _ _ _ _ 661 _ _ _ _)
  refine G_ag (n := 1) (As := [pI (sc.2.1 (i + 1))]) (A_cut hs hk (hv (i + 1))) dL_law_661 dL_law_671 mvX11_cut mvX12_cut mlL_88 mlL_91 (Or.inl rfl) rfl (Nat.le_of_ble_eq_true rfl) (Nat.le_of_ble_eq_true rfl) (by decide) (by decide) rfl (fun z h3 kk => ?_) (fun z h4 hs4 => ?_)
  · refine G_aload_n dL_law_664 rfl (?_ : RG _ _ _ _ _ 665 _ _ _ _)
    refine G_aload_n dL_law_665 rfl (?_ : RG _ _ _ _ _ 666 _ _ _ _)
    refine G_iload dL_law_666 rfl (?_ : RG _ _ _ _ _ 668 _ _ _ _)
    refine G_iconst dL_law_668 (?_ : RG _ _ _ _ _ 669 _ _ _ _)
    refine G_iadd dL_law_669 (?_ : RG _ _ _ _ _ 670 _ _ _ _)
    refine G_sld (j := i + 1) dL_law_670 (by omega) hsc (by omega) (?_ : RG _ _ _ _ _ 671 _ _ _ _)
    exact kk
  · refine G_icmp_eq2 (t := 1446) dL_law_674 rfl (next h4 hs4)
theorem LC_14 (hsc : sc.1 ≤ 2560) (hv : ∀ j, r32 (sc.2.1 j)) (hi : i + 5 ≤ sc.1) (hk : k ≤ 1000) (hs : SR k h) (next : ∀ h4, SR (k + 1) h4 → RG sc mL_law 762 kc ks 1446 [pR 1300, pR 0, pR 147, pR 178, pI i, x5, x6, x7] [] (shp0, rf0, h4) Q) : RG sc mL_law 762 kc ks 679 [pR 1300, pR 0, pR 147, pR 178, pI i, x5, x6, x7] [] (shp0, rf0, h) Q := by
  obtain ⟨sem, H, np, nc, len, hs⟩ := hs
  refine G_aload_n dL_law_679 rfl (?_ : RG _ _ _ _ _ 680 _ _ _ _)
  refine G_aload_n dL_law_680 rfl (?_ : RG _ _ _ _ _ 681 _ _ _ _)
  refine G_iload dL_law_681 rfl (?_ : RG _ _ _ _ _ 683 _ _ _ _)
  refine G_iconst dL_law_683 (?_ : RG _ _ _ _ _ 684 _ _ _ _)
  refine G_iadd dL_law_684 (?_ : RG _ _ _ _ _ 685 _ _ _ _)
  refine G_sld (j := i + 1) dL_law_685 (by omega) hsc (by omega) (?_ : RG _ _ _ _ _ 686 _ _ _ _)
  refine G_aload_n dL_law_686 rfl (?_ : RG _ _ _ _ _ 687 _ _ _ _)
  refine G_iload dL_law_687 rfl (?_ : RG _ _ _ _ _ 689 _ _ _ _)
  refine G_iconst dL_law_689 (?_ : RG _ _ _ _ _ 690 _ _ _ _)
  refine G_iadd dL_law_690 (?_ : RG _ _ _ _ _ 691 _ _ _ _)
  refine G_sld (j := i + 2) dL_law_691 (by omega) hsc (by omega) (?_ : RG _ _ _ _ _ 692 _ _ _ _)
  refine G_ag (n := 2) (As := [pI (sc.2.1 (i + 1)), pI (sc.2.1 (i + 2))]) (A_walk hs hk (hv (i + 1)) (hv (i + 2))) dL_law_692 dL_law_708 mvX11_walk mvX12_walk mlL_92 mlL_95 (Or.inl rfl) rfl (Nat.le_of_ble_eq_true rfl) (Nat.le_of_ble_eq_true rfl) (by decide) (by decide) rfl (fun z h3 kk => ?_) (fun z h4 hs4 => ?_)
  · refine G_aload_n dL_law_695 rfl (?_ : RG _ _ _ _ _ 696 _ _ _ _)
    refine G_aload_n dL_law_696 rfl (?_ : RG _ _ _ _ _ 697 _ _ _ _)
    refine G_iload dL_law_697 rfl (?_ : RG _ _ _ _ _ 699 _ _ _ _)
    refine G_iconst dL_law_699 (?_ : RG _ _ _ _ _ 700 _ _ _ _)
    refine G_iadd dL_law_700 (?_ : RG _ _ _ _ _ 701 _ _ _ _)
    refine G_sld (j := i + 1) dL_law_701 (by omega) hsc (by omega) (?_ : RG _ _ _ _ _ 702 _ _ _ _)
    refine G_aload_n dL_law_702 rfl (?_ : RG _ _ _ _ _ 703 _ _ _ _)
    refine G_iload dL_law_703 rfl (?_ : RG _ _ _ _ _ 705 _ _ _ _)
    refine G_iconst dL_law_705 (?_ : RG _ _ _ _ _ 706 _ _ _ _)
    refine G_iadd dL_law_706 (?_ : RG _ _ _ _ _ 707 _ _ _ _)
    refine G_sld (j := i + 2) dL_law_707 (by omega) hsc (by omega) (?_ : RG _ _ _ _ _ 708 _ _ _ _)
    exact kk
  · refine G_icmp_eq2 (t := 1446) dL_law_711 rfl (next h4 hs4)
theorem LC_15 (hsc : sc.1 ≤ 2560) (hv : ∀ j, r32 (sc.2.1 j)) (hi : i + 5 ≤ sc.1) (hk : k ≤ 1000) (hs : SR k h) (next : ∀ h4, SR (k + 1) h4 → RG sc mL_law 762 kc ks 1446 [pR 1300, pR 0, pR 147, pR 178, pI i, x5, x6, x7] [] (shp0, rf0, h4) Q) : RG sc mL_law 762 kc ks 716 [pR 1300, pR 0, pR 147, pR 178, pI i, x5, x6, x7] [] (shp0, rf0, h) Q := by
  obtain ⟨sem, H, np, nc, len, hs⟩ := hs
  refine G_aload_n dL_law_716 rfl (?_ : RG _ _ _ _ _ 717 _ _ _ _)
  refine G_aload_n dL_law_717 rfl (?_ : RG _ _ _ _ _ 718 _ _ _ _)
  refine G_iload dL_law_718 rfl (?_ : RG _ _ _ _ _ 720 _ _ _ _)
  refine G_iconst dL_law_720 (?_ : RG _ _ _ _ _ 721 _ _ _ _)
  refine G_iadd dL_law_721 (?_ : RG _ _ _ _ _ 722 _ _ _ _)
  refine G_sld (j := i + 1) dL_law_722 (by omega) hsc (by omega) (?_ : RG _ _ _ _ _ 723 _ _ _ _)
  refine G_ag (n := 1) (As := [pI (sc.2.1 (i + 1))]) (A_stand hs hk (hv (i + 1))) dL_law_723 dL_law_733 mvX11_stand mvX12_stand mlL_96 mlL_99 (Or.inl rfl) rfl (Nat.le_of_ble_eq_true rfl) (Nat.le_of_ble_eq_true rfl) (by decide) (by decide) rfl (fun z h3 kk => ?_) (fun z h4 hs4 => ?_)
  · refine G_aload_n dL_law_726 rfl (?_ : RG _ _ _ _ _ 727 _ _ _ _)
    refine G_aload_n dL_law_727 rfl (?_ : RG _ _ _ _ _ 728 _ _ _ _)
    refine G_iload dL_law_728 rfl (?_ : RG _ _ _ _ _ 730 _ _ _ _)
    refine G_iconst dL_law_730 (?_ : RG _ _ _ _ _ 731 _ _ _ _)
    refine G_iadd dL_law_731 (?_ : RG _ _ _ _ _ 732 _ _ _ _)
    refine G_sld (j := i + 1) dL_law_732 (by omega) hsc (by omega) (?_ : RG _ _ _ _ _ 733 _ _ _ _)
    exact kk
  · refine G_icmp_eq2 (t := 1446) dL_law_736 rfl (next h4 hs4)
end LCS
