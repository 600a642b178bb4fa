/-- a number as the machine holds it -/
def w32 (z : Int) : Int := (Int32.ofInt z).toInt
theorem w32_r (z : Int) : r32 (w32 z) := ⟨Int32.le_toInt _, by have := Int32.toInt_lt (Int32.ofInt z); unfold w32; omega⟩
theorem w32_id {z : Int} (h : r32 z) : w32 z = z := r32_i h
theorem R_wrap {M : PMt} {d kc ks pc : Nat} {ls st : List PV} {g : PH} {Q : Option PV → PH → Prop} {z : Int} (k : RR M d kc ks pc ls (pI (w32 z) :: st) g Q) : RR M d kc ks pc ls (pI z :: st) g Q :=
  fun E p l e R s m args below meth c H locs cells slots Qf L hF h1 h2 h3 h4 hR hS hL hq => by
    have := k E p l e R s m args below meth c H locs cells slots Qf L hF h1 h2 h3 h4 hR hS hL hq
    have e1 : tv E (pI (w32 z)) = tv E (pI z) := by
      show Value.int (Int32.ofInt (Int32.ofInt z).toInt) = Value.int (Int32.ofInt z)
      rw [Int32.ofInt_toInt]
    simp only [List.map_cons, e1] at this ⊢
    exact this
section PMQ
variable {M M2 : PMt} {d d2 pc idx : Nat} {ls st : List PV} {Q Q2 : Option PV → PH → Prop} {h : Nat → Int → Int}
theorem R_qV0 {a ci n0 : Nat} (hd : decode M.2.1 pc = .ok (.invokevirtual idx, 3)) (hm : pm_mv M2 ci 0) (hlk : Cond.methodLink M.1.cls idx M2.1 ∈ tblG) (hl : ci < 50) (hdd : d2 + 1 ≤ d) (hcat : pm_cat st ≤ 8) (hlen : (pm_sl (pR a :: [])).length ≤ M2.2.2.1) (hcall : RR M2 d2 0 0 0 (pm_ent (pR a :: []) M2.2.2.1) [] (shp0, rf0, h) Q2) (kk : ∀ r g', Q2 r g' → RR M d 0 0 (pc + 3) ls (r.toList ++ st) g' Q) (hc : shp0[a]? = some (ci, n0) := by first | assumption | rfl) : RR M d 0 0 pc ls (pR a :: st) (shp0, rf0, h) Q :=
  R_callV (kc := 0) (ks := 0) (kc2 := 0) (ks2 := 0) (As := []) hd hm hlk rfl rfl hcat hlen hdd hl hc hcall (fun r g' q _ => kk r g' q)
theorem R_qV1 {x1 : PV} {a ci n0 : Nat} (hd : decode M.2.1 pc = .ok (.invokevirtual idx, 3)) (hm : pm_mv M2 ci 1) (hlk : Cond.methodLink M.1.cls idx M2.1 ∈ tblG) (hl : ci < 50) (hdd : d2 + 1 ≤ d) (hcat : pm_cat st ≤ 8) (hlen : (pm_sl (pR a :: [x1])).length ≤ M2.2.2.1) (hcall : RR M2 d2 0 0 0 (pm_ent (pR a :: [x1]) M2.2.2.1) [] (shp0, rf0, h) Q2) (kk : ∀ r g', Q2 r g' → RR M d 0 0 (pc + 3) ls (r.toList ++ st) g' Q) (hc : shp0[a]? = some (ci, n0) := by first | assumption | rfl) : RR M d 0 0 pc ls (x1 :: pR a :: st) (shp0, rf0, h) Q :=
  R_callV (kc := 0) (ks := 0) (kc2 := 0) (ks2 := 0) (As := [x1]) hd hm hlk rfl rfl hcat hlen hdd hl hc hcall (fun r g' q _ => kk r g' q)
theorem R_qS1 {x1 : PV} (hd : decode M.2.1 pc = .ok (.invokestatic idx, 3)) (hm : pm_ms M2 1) (hlk : Cond.methodLink M.1.cls idx M2.1 ∈ tblG) (hdd : d2 + 1 ≤ d) (hcat : pm_cat st ≤ 8) (hlen : (pm_sl [x1]).length ≤ M2.2.2.1) (hcall : RR M2 d2 0 0 0 (pm_ent [x1] M2.2.2.1) [] (shp0, rf0, h) Q2) (kk : ∀ r g', Q2 r g' → RR M d 0 0 (pc + 3) ls (r.toList ++ st) g' Q) : RR M d 0 0 pc ls (x1 :: st) (shp0, rf0, h) Q :=
  R_callS (kc := 0) (ks := 0) (kc2 := 0) (ks2 := 0) (As := [x1]) hd hm hlk rfl rfl hcat hlen hdd hcall (fun r g' q _ => kk r g' q)
theorem R_qV2 {x1 x2 : PV} {a ci n0 : Nat} (hd : decode M.2.1 pc = .ok (.invokevirtual idx, 3)) (hm : pm_mv M2 ci 2) (hlk : Cond.methodLink M.1.cls idx M2.1 ∈ tblG) (hl : ci < 50) (hdd : d2 + 1 ≤ d) (hcat : pm_cat st ≤ 8) (hlen : (pm_sl (pR a :: [x1, x2])).length ≤ M2.2.2.1) (hcall : RR M2 d2 0 0 0 (pm_ent (pR a :: [x1, x2]) M2.2.2.1) [] (shp0, rf0, h) Q2) (kk : ∀ r g', Q2 r g' → RR M d 0 0 (pc + 3) ls (r.toList ++ st) g' Q) (hc : shp0[a]? = some (ci, n0) := by first | assumption | rfl) : RR M d 0 0 pc ls (x2 :: x1 :: pR a :: st) (shp0, rf0, h) Q :=
  R_callV (kc := 0) (ks := 0) (kc2 := 0) (ks2 := 0) (As := [x1, x2]) hd hm hlk rfl rfl hcat hlen hdd hl hc hcall (fun r g' q _ => kk r g' q)
theorem R_qS2 {x1 x2 : PV} (hd : decode M.2.1 pc = .ok (.invokestatic idx, 3)) (hm : pm_ms M2 2) (hlk : Cond.methodLink M.1.cls idx M2.1 ∈ tblG) (hdd : d2 + 1 ≤ d) (hcat : pm_cat st ≤ 8) (hlen : (pm_sl [x1, x2]).length ≤ M2.2.2.1) (hcall : RR M2 d2 0 0 0 (pm_ent [x1, x2] M2.2.2.1) [] (shp0, rf0, h) Q2) (kk : ∀ r g', Q2 r g' → RR M d 0 0 (pc + 3) ls (r.toList ++ st) g' Q) : RR M d 0 0 pc ls (x2 :: x1 :: st) (shp0, rf0, h) Q :=
  R_callS (kc := 0) (ks := 0) (kc2 := 0) (ks2 := 0) (As := [x1, x2]) hd hm hlk rfl rfl hcat hlen hdd hcall (fun r g' q _ => kk r g' q)
theorem R_qV3 {x1 x2 x3 : PV} {a ci n0 : Nat} (hd : decode M.2.1 pc = .ok (.invokevirtual idx, 3)) (hm : pm_mv M2 ci 3) (hlk : Cond.methodLink M.1.cls idx M2.1 ∈ tblG) (hl : ci < 50) (hdd : d2 + 1 ≤ d) (hcat : pm_cat st ≤ 8) (hlen : (pm_sl (pR a :: [x1, x2, x3])).length ≤ M2.2.2.1) (hcall : RR M2 d2 0 0 0 (pm_ent (pR a :: [x1, x2, x3]) M2.2.2.1) [] (shp0, rf0, h) Q2) (kk : ∀ r g', Q2 r g' → RR M d 0 0 (pc + 3) ls (r.toList ++ st) g' Q) (hc : shp0[a]? = some (ci, n0) := by first | assumption | rfl) : RR M d 0 0 pc ls (x3 :: x2 :: x1 :: pR a :: st) (shp0, rf0, h) Q :=
  R_callV (kc := 0) (ks := 0) (kc2 := 0) (ks2 := 0) (As := [x1, x2, x3]) hd hm hlk rfl rfl hcat hlen hdd hl hc hcall (fun r g' q _ => kk r g' q)
theorem R_qS3 {x1 x2 x3 : PV} (hd : decode M.2.1 pc = .ok (.invokestatic idx, 3)) (hm : pm_ms M2 3) (hlk : Cond.methodLink M.1.cls idx M2.1 ∈ tblG) (hdd : d2 + 1 ≤ d) (hcat : pm_cat st ≤ 8) (hlen : (pm_sl [x1, x2, x3]).length ≤ M2.2.2.1) (hcall : RR M2 d2 0 0 0 (pm_ent [x1, x2, x3] M2.2.2.1) [] (shp0, rf0, h) Q2) (kk : ∀ r g', Q2 r g' → RR M d 0 0 (pc + 3) ls (r.toList ++ st) g' Q) : RR M d 0 0 pc ls (x3 :: x2 :: x1 :: st) (shp0, rf0, h) Q :=
  R_callS (kc := 0) (ks := 0) (kc2 := 0) (ks2 := 0) (As := [x1, x2, x3]) hd hm hlk rfl rfl hcat hlen hdd hcall (fun r g' q _ => kk r g' q)
theorem R_qV4 {x1 x2 x3 x4 : PV} {a ci n0 : Nat} (hd : decode M.2.1 pc = .ok (.invokevirtual idx, 3)) (hm : pm_mv M2 ci 4) (hlk : Cond.methodLink M.1.cls idx M2.1 ∈ tblG) (hl : ci < 50) (hdd : d2 + 1 ≤ d) (hcat : pm_cat st ≤ 8) (hlen : (pm_sl (pR a :: [x1, x2, x3, x4])).length ≤ M2.2.2.1) (hcall : RR M2 d2 0 0 0 (pm_ent (pR a :: [x1, x2, x3, x4]) M2.2.2.1) [] (shp0, rf0, h) Q2) (kk : ∀ r g', Q2 r g' → RR M d 0 0 (pc + 3) ls (r.toList ++ st) g' Q) (hc : shp0[a]? = some (ci, n0) := by first | assumption | rfl) : RR M d 0 0 pc ls (x4 :: x3 :: x2 :: x1 :: pR a :: st) (shp0, rf0, h) Q :=
  R_callV (kc := 0) (ks := 0) (kc2 := 0) (ks2 := 0) (As := [x1, x2, x3, x4]) hd hm hlk rfl rfl hcat hlen hdd hl hc hcall (fun r g' q _ => kk r g' q)
theorem R_qS4 {x1 x2 x3 x4 : PV} (hd : decode M.2.1 pc = .ok (.invokestatic idx, 3)) (hm : pm_ms M2 4) (hlk : Cond.methodLink M.1.cls idx M2.1 ∈ tblG) (hdd : d2 + 1 ≤ d) (hcat : pm_cat st ≤ 8) (hlen : (pm_sl [x1, x2, x3, x4]).length ≤ M2.2.2.1) (hcall : RR M2 d2 0 0 0 (pm_ent [x1, x2, x3, x4] M2.2.2.1) [] (shp0, rf0, h) Q2) (kk : ∀ r g', Q2 r g' → RR M d 0 0 (pc + 3) ls (r.toList ++ st) g' Q) : RR M d 0 0 pc ls (x4 :: x3 :: x2 :: x1 :: st) (shp0, rf0, h) Q :=
  R_callS (kc := 0) (ks := 0) (kc2 := 0) (ks2 := 0) (As := [x1, x2, x3, x4]) hd hm hlk rfl rfl hcat hlen hdd hcall (fun r g' q _ => kk r g' q)
theorem R_qV5 {x1 x2 x3 x4 x5 : PV} {a ci n0 : Nat} (hd : decode M.2.1 pc = .ok (.invokevirtual idx, 3)) (hm : pm_mv M2 ci 5) (hlk : Cond.methodLink M.1.cls idx M2.1 ∈ tblG) (hl : ci < 50) (hdd : d2 + 1 ≤ d) (hcat : pm_cat st ≤ 8) (hlen : (pm_sl (pR a :: [x1, x2, x3, x4, x5])).length ≤ M2.2.2.1) (hcall : RR M2 d2 0 0 0 (pm_ent (pR a :: [x1, x2, x3, x4, x5]) M2.2.2.1) [] (shp0, rf0, h) Q2) (kk : ∀ r g', Q2 r g' → RR M d 0 0 (pc + 3) ls (r.toList ++ st) g' Q) (hc : shp0[a]? = some (ci, n0) := by first | assumption | rfl) : RR M d 0 0 pc ls (x5 :: x4 :: x3 :: x2 :: x1 :: pR a :: st) (shp0, rf0, h) Q :=
  R_callV (kc := 0) (ks := 0) (kc2 := 0) (ks2 := 0) (As := [x1, x2, x3, x4, x5]) hd hm hlk rfl rfl hcat hlen hdd hl hc hcall (fun r g' q _ => kk r g' q)
theorem R_qS5 {x1 x2 x3 x4 x5 : PV} (hd : decode M.2.1 pc = .ok (.invokestatic idx, 3)) (hm : pm_ms M2 5) (hlk : Cond.methodLink M.1.cls idx M2.1 ∈ tblG) (hdd : d2 + 1 ≤ d) (hcat : pm_cat st ≤ 8) (hlen : (pm_sl [x1, x2, x3, x4, x5]).length ≤ M2.2.2.1) (hcall : RR M2 d2 0 0 0 (pm_ent [x1, x2, x3, x4, x5] M2.2.2.1) [] (shp0, rf0, h) Q2) (kk : ∀ r g', Q2 r g' → RR M d 0 0 (pc + 3) ls (r.toList ++ st) g' Q) : RR M d 0 0 pc ls (x5 :: x4 :: x3 :: x2 :: x1 :: st) (shp0, rf0, h) Q :=
  R_callS (kc := 0) (ks := 0) (kc2 := 0) (ks2 := 0) (As := [x1, x2, x3, x4, x5]) hd hm hlk rfl rfl hcat hlen hdd hcall (fun r g' q _ => kk r g' q)
end PMQ
/-! more of trains -/
theorem T_X9_trainBits {t n : Nat} {h : Nat → Int → Int} (hn : h t 3 = n) (hor : ∀ j : Nat, j < n → 0 ≤ h (t + 1) j ∧ h (t + 1) j < 6) (ht : isTr t := by assumption) (h6 : n ≤ 6 := by omega) : MT mX9_trainBits 0 [pR t] h (some (pI (shB (h (t + 1)) 0 n))) h := by
  obtain ⟨t0, t1, t2, t3, t4, t5, t6, t7, t8⟩ := ht
  refine MT.of (fun Q hQ => (?_ : RR mX9_trainBits _ _ _ _ [pR t, pU, pU] _ _ _))
  have L : ∀ k i : Nat, i + k = n → RR mX9_trainBits 0 0 0 4 [pR t, pI (shB (h (t + 1)) 0 i), pI i] [] (shp0, rf0, h) Q := by
    intro k
    induction k with
    | zero =>
      intro i hi 
      obtain rfl : i = n := by omega
      refine R_iload_n dX9_trainBits_4 rfl (?_ : RR _ _ _ _ 5 _ _ _ _)
      refine R_aload_n dX9_trainBits_5 rfl (?_ : RR _ _ _ _ 6 _ _ _ _)
      refine R_geti (z := 3) dX9_trainBits_6 flX9_34 cok_9 rfl (by decide) rfl (fun q6 => (?_ : RR _ _ _ _ 9 _ _ _ _))
      rw [hn] at q6 ⊢
      refine R_icmp_ge (t := 29) dX9_trainBits_9 rfl (fun c9 => ?_) (fun c9 => ?_)
      rotate_left
      · exfalso; omega
      refine R_iload_n dX9_trainBits_29 rfl (?_ : RR _ _ _ _ 30 _ _ _ _)
      exact R_ireturn dX9_trainBits_30 trivial hQ
    | succ k ih =>
      intro i hi 
      have hi6 := hor i (by omega)
      have e := shB_or (ord := h (t + 1)) (lo := 0) (k := i) (fun j hj => hor j (by omega))
      rw [Nat.zero_add] at e
      refine R_iload_n dX9_trainBits_4 rfl (?_ : RR _ _ _ _ 5 _ _ _ _)
      refine R_aload_n dX9_trainBits_5 rfl (?_ : RR _ _ _ _ 6 _ _ _ _)
      refine R_geti (z := 3) dX9_trainBits_6 flX9_34 cok_9 rfl (by decide) rfl (fun q6 => (?_ : RR _ _ _ _ 9 _ _ _ _))
      rw [hn] at q6 ⊢
      refine R_icmp_ge (t := 29) dX9_trainBits_9 rfl (fun c9 => ?_) (fun c9 => ?_)
      · exfalso; omega
      refine R_iload_n dX9_trainBits_12 rfl (?_ : RR _ _ _ _ 13 _ _ _ _)
      refine R_iconst dX9_trainBits_13 (?_ : RR _ _ _ _ 14 _ _ _ _)
      refine R_aload_n dX9_trainBits_14 rfl (?_ : RR _ _ _ _ 15 _ _ _ _)
      refine R_getr dX9_trainBits_15 flX9_9 cok_9 rfl (by decide) (?_ : RR _ _ _ _ 18 _ _ _ _)
      refine R_iload_n dX9_trainBits_18 rfl (?_ : RR _ _ _ _ 19 _ _ _ _)
      refine R_iald dX9_trainBits_19 (fun q19 => (?_ : RR _ _ _ _ 20 _ _ _ _))
      refine R_ishl dX9_trainBits_20 (?_ : RR _ _ _ _ 21 _ _ _ _)
      refine R_ior dX9_trainBits_21 (?_ : RR _ _ _ _ 22 _ _ _ _)
      rw [e]
      refine R_istore_n dX9_trainBits_22 (Nat.le_of_ble_eq_true rfl) (?_ : RR _ _ _ _ 23 [_, _, _] _ _ _)
      refine R_iinc dX9_trainBits_23 rfl (Nat.le_of_ble_eq_true rfl) (?_ : RR _ _ _ _ 26 [_, _, _] _ _ _)
      refine R_goto (t := 4) dX9_trainBits_26 rfl (?_ : RR _ _ _ _ 4 _ _ _ _)
      exact ih (i + 1) (by omega)
  refine R_iconst dX9_trainBits_0 (?_ : RR _ _ _ _ 1 _ _ _ _)
  refine R_istore_n dX9_trainBits_1 (Nat.le_of_ble_eq_true rfl) (?_ : RR _ _ _ _ 2 [_, _, _] _ _ _)
  refine R_iconst dX9_trainBits_2 (?_ : RR _ _ _ _ 3 _ _ _ _)
  refine R_istore_n dX9_trainBits_3 (Nat.le_of_ble_eq_true rfl) (?_ : RR _ _ _ _ 4 [_, _, _] _ _ _)
  exact L n 0 (by omega)
theorem T_X9_standingBits {t n m : Nat} {h : Nat → Int → Int} (hn : h t 3 = n) (hor : ∀ j : Nat, j < n → 0 ≤ h (t + 1) j ∧ h (t + 1) j < 6) (ht : isTr t := by assumption) (h6 : n ≤ 6 := by omega) : MT mX9_standingBits 1 [pR t] h (some (pI (iAnd (iShl 1 (h t 2) - 1) (iXor (shB (h (t + 1)) 0 n) (-1))))) h := by
  obtain ⟨t0, t1, t2, t3, t4, t5, t6, t7, t8⟩ := id ht
  refine MT.of (fun Q hQ => (?_ : RR mX9_standingBits _ _ _ _ [pR t] _ _ _))
  refine R_iconst dX9_standingBits_0 (?_ : RR _ _ _ _ 1 _ _ _ _)
  refine R_aload_n dX9_standingBits_1 rfl (?_ : RR _ _ _ _ 2 _ _ _ _)
  refine R_geti (z := 2) dX9_standingBits_2 flX9_31 cok_9 rfl (by decide) rfl (fun q2 => (?_ : RR _ _ _ _ 5 _ _ _ _))
  refine R_ishl dX9_standingBits_5 (?_ : RR _ _ _ _ 6 _ _ _ _)
  refine R_iconst dX9_standingBits_6 (?_ : RR _ _ _ _ 7 _ _ _ _)
  refine R_isub dX9_standingBits_7 (?_ : RR _ _ _ _ 8 _ _ _ _)
  refine R_aload_n dX9_standingBits_8 rfl (?_ : RR _ _ _ _ 9 _ _ _ _)
  refine R_cVi0 dX9_standingBits_9 mvX9_trainBits mlX9_47 (by decide) (by decide) (Nat.le_of_ble_eq_true rfl) (Nat.le_of_ble_eq_true rfl) (T_X9_trainBits hn hor) (?_ : RR _ _ _ _ 12 _ _ _ _)
  refine R_iconst dX9_standingBits_12 (?_ : RR _ _ _ _ 13 _ _ _ _)
  refine R_ixor dX9_standingBits_13 (?_ : RR _ _ _ _ 14 _ _ _ _)
  refine R_iand dX9_standingBits_14 (?_ : RR _ _ _ _ 15 _ _ _ _)
  exact R_ireturn dX9_standingBits_15 trivial hQ
theorem T_X9_add {t n l : Nat} {z : Int} {h : Nat → Int → Int} (hn : h t 2 = n) (hl : h t 3 = l) (ht : isTr t := by assumption) (h6 : n < 6 := by omega) (hl6 : l < 6 := by omega) (hz : -1 ≤ z ∧ z < 9 := by omega) : MT mX9_add 1 [pR t, pI z] h none (if z = -1 then rup (rup (rup h t (fup (fup (h t) 2 (n + 1)) 3 (l + 1))) (t + 1) (fup (h (t + 1)) l n)) (t + 2) (fup (h (t + 2)) n l) else rup (rup (rup h t (fup (h t) 2 (n + 1))) (t + 2) (fup (h (t + 2)) n (-1))) (t + 3) (fup (h (t + 3)) n z)) := by
  obtain ⟨t0, t1, t2, t3, t4, t5, t6, t7, t8⟩ := id ht
  refine MT.of (fun Q hQ => (?_ : RR mX9_add _ _ _ _ [pR t, pI z, pU] _ _ _))
  refine R_aload_n dX9_add_0 rfl (?_ : RR _ _ _ _ 1 _ _ _ _)
  refine R_geti (z := 2) dX9_add_1 flX9_31 cok_9 rfl (by decide) rfl (fun q1 => (?_ : RR _ _ _ _ 4 _ _ _ _))
  try simp (disch := omega) only [rup_rup, rup_sort, rupS_def, rup_s, rup_n, fup_fup, fup_s, fup_n] at q1 ⊢
  refine R_bipush dX9_add_4 rfl (?_ : RR _ _ _ _ 6 _ _ _ _)
  rw [hn] at q1
  rw [hn]
  refine R_icmp_lt (t := 10) dX9_add_6 rfl (fun c6 => ?_) (fun c6 => ?_)
  rotate_left
  · exfalso; omega
  refine R_aload_n dX9_add_10 rfl (?_ : RR _ _ _ _ 11 _ _ _ _)
  refine R_geti (z := 2) dX9_add_11 flX9_31 cok_9 rfl (by decide) rfl (fun q11 => (?_ : RR _ _ _ _ 14 _ _ _ _))
  try simp (disch := omega) only [rup_rup, rup_sort, rupS_def, rup_s, rup_n, fup_fup, fup_s, fup_n] at q11 ⊢
  rw [hn]
  refine R_istore_n dX9_add_14 (Nat.le_of_ble_eq_true rfl) (?_ : RR _ _ _ _ 15 [_, _, _] _ _ _)
  refine R_aload_n dX9_add_15 rfl (?_ : RR _ _ _ _ 16 _ _ _ _)
  refine R_dup dX9_add_16 (fun _ => rfl) (?_ : RR _ _ _ _ 17 _ _ _ _)
  refine R_geti (z := 2) dX9_add_17 flX9_31 cok_9 rfl (by decide) rfl (fun q17 => (?_ : RR _ _ _ _ 20 _ _ _ _))
  try simp (disch := omega) only [rup_rup, rup_sort, rupS_def, rup_s, rup_n, fup_fup, fup_s, fup_n] at q17 ⊢
  rw [hn]
  refine R_iconst dX9_add_20 (?_ : RR _ _ _ _ 21 _ _ _ _)
  refine R_iadd dX9_add_21 (?_ : RR _ _ _ _ 22 _ _ _ _)
  refine R_puti (zk := 2) dX9_add_22 flX9_31 cok_9 (by decide) (fun q hq => by cases hq; rfl) rfl (?_ : RR _ _ _ _ 25 _ _ _ _)
  try simp (disch := omega) only [rup_rup, rup_sort, rupS_def, rup_s, rup_n, fup_fup, fup_s, fup_n]
  refine R_iload_n dX9_add_25 rfl (?_ : RR _ _ _ _ 26 _ _ _ _)
  refine R_iconst dX9_add_26 (?_ : RR _ _ _ _ 27 _ _ _ _)
  refine R_icmp_ne (t := 38) dX9_add_27 rfl (fun c27 => ?_) (fun c27 => ?_)
  · rw [if_neg c27] at hQ
    refine R_aload_n dX9_add_38 rfl (?_ : RR _ _ _ _ 39 _ _ _ _)
    refine R_getr dX9_add_39 flX9_15 cok_9 rfl (by decide) (?_ : RR _ _ _ _ 42 _ _ _ _)
    refine R_iload_n dX9_add_42 rfl (?_ : RR _ _ _ _ 43 _ _ _ _)
    refine R_iconst dX9_add_43 (?_ : RR _ _ _ _ 44 _ _ _ _)
    refine R_iast dX9_add_44 (?_ : RR _ _ _ _ 45 _ _ _ _)
    try simp (disch := omega) only [rup_rup, rup_sort, rupS_def, rup_s, rup_n, fup_fup, fup_s, fup_n]
    refine R_aload_n dX9_add_45 rfl (?_ : RR _ _ _ _ 46 _ _ _ _)
    refine R_getr dX9_add_46 flX9_18 cok_9 rfl (by decide) (?_ : RR _ _ _ _ 49 _ _ _ _)
    refine R_iload_n dX9_add_49 rfl (?_ : RR _ _ _ _ 50 _ _ _ _)
    refine R_iload_n dX9_add_50 rfl (?_ : RR _ _ _ _ 51 _ _ _ _)
    refine R_iast dX9_add_51 (?_ : RR _ _ _ _ 52 _ _ _ _)
    try simp (disch := omega) only [rup_rup, rup_sort, rupS_def, rup_s, rup_n, fup_fup, fup_s, fup_n]
    exact R_return dX9_add_52 trivial hQ
  · rw [if_pos c27] at hQ
    refine R_aload_n dX9_add_30 rfl (?_ : RR _ _ _ _ 31 _ _ _ _)
    refine R_iload_n dX9_add_31 rfl (?_ : RR _ _ _ _ 32 _ _ _ _)
    refine R_cVv1 dX9_add_32 mvX9_append mlX9_43 (by decide) (by decide) (Nat.le_of_ble_eq_true rfl) (Nat.le_of_ble_eq_true rfl) (T_X9_append (n := l) (by simp (disch := omega) only [rup_s, fup_n]; exact hl)) (?_ : RR _ _ _ _ 35 _ _ _ _)
    try simp (disch := omega) only [rup_rup, rup_sort, rupS_def, rup_s, rup_n, fup_fup, fup_s, fup_n]
    refine R_goto (t := 52) dX9_add_35 rfl (?_ : RR _ _ _ _ 52 _ _ _ _)
    exact R_return dX9_add_52 trivial hQ
/-! riders, signs -/
theorem T_X2_add {n : Nat} {a b : Int} {h : Nat → Int → Int} (hn : h 11 0 = n) (h12 : n < 12 := by omega) (ha : r32 a := by omega) (hb : r32 b := by omega) : MT mX2_add 0 [pR 11, pI a, pI b] h none (rup (rup (rup h 11 (fup (h 11) 0 (n + 1))) 12 (fup (h 12) n a)) 13 (fup (h 13) n b)) := by
  refine MT.of (fun Q hQ => (?_ : RR mX2_add _ _ _ _ [pR 11, pI a, pI b] _ _ _))
  refine R_aload_n dX2_add_0 rfl (?_ : RR _ _ _ _ 1 _ _ _ _)
  refine R_geti (z := 0) dX2_add_1 flX2_18 cok_2 rfl (by decide) rfl (fun q1 => (?_ : RR _ _ _ _ 4 _ _ _ _))
  try simp (disch := omega) only [rup_rup, rup_sort, rupS_def, rup_s, rup_n, fup_fup, fup_s, fup_n] at q1 ⊢
  refine R_bipush dX2_add_4 rfl (?_ : RR _ _ _ _ 6 _ _ _ _)
  rw [hn] at q1
  rw [hn]
  refine R_icmp_ge (t := 39) dX2_add_6 rfl (fun c6 => ?_) (fun c6 => ?_)
  · exfalso; omega
  refine R_aload_n dX2_add_9 rfl (?_ : RR _ _ _ _ 10 _ _ _ _)
  refine R_getr dX2_add_10 flX2_9 cok_2 rfl (by decide) (?_ : RR _ _ _ _ 13 _ _ _ _)
  refine R_aload_n dX2_add_13 rfl (?_ : RR _ _ _ _ 14 _ _ _ _)
  refine R_geti (z := 0) dX2_add_14 flX2_18 cok_2 rfl (by decide) rfl (fun q14 => (?_ : RR _ _ _ _ 17 _ _ _ _))
  try simp (disch := omega) only [rup_rup, rup_sort, rupS_def, rup_s, rup_n, fup_fup, fup_s, fup_n] at q14 ⊢
  rw [hn]
  refine R_iload_n dX2_add_17 rfl (?_ : RR _ _ _ _ 18 _ _ _ _)
  refine R_iast dX2_add_18 (?_ : RR _ _ _ _ 19 _ _ _ _)
  try simp (disch := omega) only [rup_rup, rup_sort, rupS_def, rup_s, rup_n, fup_fup, fup_s, fup_n]
  refine R_aload_n dX2_add_19 rfl (?_ : RR _ _ _ _ 20 _ _ _ _)
  refine R_getr dX2_add_20 flX2_15 cok_2 rfl (by decide) (?_ : RR _ _ _ _ 23 _ _ _ _)
  refine R_aload_n dX2_add_23 rfl (?_ : RR _ _ _ _ 24 _ _ _ _)
  refine R_geti (z := 0) dX2_add_24 flX2_18 cok_2 rfl (by decide) rfl (fun q24 => (?_ : RR _ _ _ _ 27 _ _ _ _))
  try simp (disch := omega) only [rup_rup, rup_sort, rupS_def, rup_s, rup_n, fup_fup, fup_s, fup_n] at q24 ⊢
  rw [hn]
  refine R_iload_n dX2_add_27 rfl (?_ : RR _ _ _ _ 28 _ _ _ _)
  refine R_iast dX2_add_28 (?_ : RR _ _ _ _ 29 _ _ _ _)
  try simp (disch := omega) only [rup_rup, rup_sort, rupS_def, rup_s, rup_n, fup_fup, fup_s, fup_n]
  refine R_aload_n dX2_add_29 rfl (?_ : RR _ _ _ _ 30 _ _ _ _)
  refine R_dup dX2_add_30 (fun _ => rfl) (?_ : RR _ _ _ _ 31 _ _ _ _)
  refine R_geti (z := 0) dX2_add_31 flX2_18 cok_2 rfl (by decide) rfl (fun q31 => (?_ : RR _ _ _ _ 34 _ _ _ _))
  try simp (disch := omega) only [rup_rup, rup_sort, rupS_def, rup_s, rup_n, fup_fup, fup_s, fup_n] at q31 ⊢
  rw [hn]
  refine R_iconst dX2_add_34 (?_ : RR _ _ _ _ 35 _ _ _ _)
  refine R_iadd dX2_add_35 (?_ : RR _ _ _ _ 36 _ _ _ _)
  refine R_puti (zk := 0) dX2_add_36 flX2_18 cok_2 (by decide) (fun q hq => by cases hq; rfl) rfl (?_ : RR _ _ _ _ 39 _ _ _ _)
  try simp (disch := omega) only [rup_rup, rup_sort, rupS_def, rup_s, rup_n, fup_fup, fup_s, fup_n]
  exact R_return dX2_add_39 trivial hQ
/-! choices -/
def chS (l r s : Int) : Int := if l = 0 ∧ r = 0 then 2 else if r ≤ l ∧ s ≤ l then 0 else if s ≤ r then 1 else 2
theorem chS_b {l r s : Int} : 0 ≤ chS l r s ∧ chS l r s ≤ 2 := by
  unfold chS
  repeat' split
  all_goals omega
theorem T_X10_choice {l r s : Int} {h : Nat → Int → Int} (hl : r32 l := by omega) (hr : r32 r := by omega) (hs : r32 s := by omega) : MT mX10_choice 0 [pI l, pI r, pI s] h (some (pI (chS l r s))) h := by
  refine MT.of (fun Q hQ => (?_ : RR mX10_choice _ _ _ _ [pI l, pI r, pI s] _ _ _))
  refine R_iload_n dX10_choice_0 rfl (?_ : RR _ _ _ _ 1 _ _ _ _)
  refine R_if_ne (t := 10) dX10_choice_1 rfl (fun c1 => ?_) (fun c1 => ?_)
  · refine R_iload_n dX10_choice_10 rfl (?_ : RR _ _ _ _ 11 _ _ _ _)
    refine R_iload_n dX10_choice_11 rfl (?_ : RR _ _ _ _ 12 _ _ _ _)
    refine R_icmp_lt (t := 22) dX10_choice_12 rfl (fun c12 => ?_) (fun c12 => ?_)
    · refine R_iload_n dX10_choice_22 rfl (?_ : RR _ _ _ _ 23 _ _ _ _)
      refine R_iload_n dX10_choice_23 rfl (?_ : RR _ _ _ _ 24 _ _ _ _)
      refine R_icmp_lt (t := 31) dX10_choice_24 rfl (fun c24 => ?_) (fun c24 => ?_)
      · refine R_iconst dX10_choice_31 (?_ : RR _ _ _ _ 32 _ _ _ _)
        exact R_ireturn dX10_choice_32 trivial (by first | (rw [show chS l r s = 0 by unfold chS; (repeat' split) <;> omega] at hQ; exact hQ) | (rw [show chS l r s = 1 by unfold chS; (repeat' split) <;> omega] at hQ; exact hQ) | (rw [show chS l r s = 2 by unfold chS; (repeat' split) <;> omega] at hQ; exact hQ))
      · refine R_iconst dX10_choice_27 (?_ : RR _ _ _ _ 28 _ _ _ _)
        refine R_goto (t := 32) dX10_choice_28 rfl (?_ : RR _ _ _ _ 32 _ _ _ _)
        exact R_ireturn dX10_choice_32 trivial (by first | (rw [show chS l r s = 0 by unfold chS; (repeat' split) <;> omega] at hQ; exact hQ) | (rw [show chS l r s = 1 by unfold chS; (repeat' split) <;> omega] at hQ; exact hQ) | (rw [show chS l r s = 2 by unfold chS; (repeat' split) <;> omega] at hQ; exact hQ))
    · refine R_iload_n dX10_choice_15 rfl (?_ : RR _ _ _ _ 16 _ _ _ _)
      refine R_iload_n dX10_choice_16 rfl (?_ : RR _ _ _ _ 17 _ _ _ _)
      refine R_icmp_lt (t := 22) dX10_choice_17 rfl (fun c17 => ?_) (fun c17 => ?_)
      · refine R_iload_n dX10_choice_22 rfl (?_ : RR _ _ _ _ 23 _ _ _ _)
        refine R_iload_n dX10_choice_23 rfl (?_ : RR _ _ _ _ 24 _ _ _ _)
        refine R_icmp_lt (t := 31) dX10_choice_24 rfl (fun c24 => ?_) (fun c24 => ?_)
        · refine R_iconst dX10_choice_31 (?_ : RR _ _ _ _ 32 _ _ _ _)
          exact R_ireturn dX10_choice_32 trivial (by first | (rw [show chS l r s = 0 by unfold chS; (repeat' split) <;> omega] at hQ; exact hQ) | (rw [show chS l r s = 1 by unfold chS; (repeat' split) <;> omega] at hQ; exact hQ) | (rw [show chS l r s = 2 by unfold chS; (repeat' split) <;> omega] at hQ; exact hQ))
        · refine R_iconst dX10_choice_27 (?_ : RR _ _ _ _ 28 _ _ _ _)
          refine R_goto (t := 32) dX10_choice_28 rfl (?_ : RR _ _ _ _ 32 _ _ _ _)
          exact R_ireturn dX10_choice_32 trivial (by first | (rw [show chS l r s = 0 by unfold chS; (repeat' split) <;> omega] at hQ; exact hQ) | (rw [show chS l r s = 1 by unfold chS; (repeat' split) <;> omega] at hQ; exact hQ) | (rw [show chS l r s = 2 by unfold chS; (repeat' split) <;> omega] at hQ; exact hQ))
      · refine R_iconst dX10_choice_20 (?_ : RR _ _ _ _ 21 _ _ _ _)
        exact R_ireturn dX10_choice_21 trivial (by first | (rw [show chS l r s = 0 by unfold chS; (repeat' split) <;> omega] at hQ; exact hQ) | (rw [show chS l r s = 1 by unfold chS; (repeat' split) <;> omega] at hQ; exact hQ) | (rw [show chS l r s = 2 by unfold chS; (repeat' split) <;> omega] at hQ; exact hQ))
  · refine R_iload_n dX10_choice_4 rfl (?_ : RR _ _ _ _ 5 _ _ _ _)
    refine R_if_ne (t := 10) dX10_choice_5 rfl (fun c5 => ?_) (fun c5 => ?_)
    · refine R_iload_n dX10_choice_10 rfl (?_ : RR _ _ _ _ 11 _ _ _ _)
      refine R_iload_n dX10_choice_11 rfl (?_ : RR _ _ _ _ 12 _ _ _ _)
      refine R_icmp_lt (t := 22) dX10_choice_12 rfl (fun c12 => ?_) (fun c12 => ?_)
      · refine R_iload_n dX10_choice_22 rfl (?_ : RR _ _ _ _ 23 _ _ _ _)
        refine R_iload_n dX10_choice_23 rfl (?_ : RR _ _ _ _ 24 _ _ _ _)
        refine R_icmp_lt (t := 31) dX10_choice_24 rfl (fun c24 => ?_) (fun c24 => ?_)
        · refine R_iconst dX10_choice_31 (?_ : RR _ _ _ _ 32 _ _ _ _)
          exact R_ireturn dX10_choice_32 trivial (by first | (rw [show chS l r s = 0 by unfold chS; (repeat' split) <;> omega] at hQ; exact hQ) | (rw [show chS l r s = 1 by unfold chS; (repeat' split) <;> omega] at hQ; exact hQ) | (rw [show chS l r s = 2 by unfold chS; (repeat' split) <;> omega] at hQ; exact hQ))
        · refine R_iconst dX10_choice_27 (?_ : RR _ _ _ _ 28 _ _ _ _)
          refine R_goto (t := 32) dX10_choice_28 rfl (?_ : RR _ _ _ _ 32 _ _ _ _)
          exact R_ireturn dX10_choice_32 trivial (by first | (rw [show chS l r s = 0 by unfold chS; (repeat' split) <;> omega] at hQ; exact hQ) | (rw [show chS l r s = 1 by unfold chS; (repeat' split) <;> omega] at hQ; exact hQ) | (rw [show chS l r s = 2 by unfold chS; (repeat' split) <;> omega] at hQ; exact hQ))
      · refine R_iload_n dX10_choice_15 rfl (?_ : RR _ _ _ _ 16 _ _ _ _)
        refine R_iload_n dX10_choice_16 rfl (?_ : RR _ _ _ _ 17 _ _ _ _)
        refine R_icmp_lt (t := 22) dX10_choice_17 rfl (fun c17 => ?_) (fun c17 => ?_)
        · refine R_iload_n dX10_choice_22 rfl (?_ : RR _ _ _ _ 23 _ _ _ _)
          refine R_iload_n dX10_choice_23 rfl (?_ : RR _ _ _ _ 24 _ _ _ _)
          refine R_icmp_lt (t := 31) dX10_choice_24 rfl (fun c24 => ?_) (fun c24 => ?_)
          · refine R_iconst dX10_choice_31 (?_ : RR _ _ _ _ 32 _ _ _ _)
            exact R_ireturn dX10_choice_32 trivial (by first | (rw [show chS l r s = 0 by unfold chS; (repeat' split) <;> omega] at hQ; exact hQ) | (rw [show chS l r s = 1 by unfold chS; (repeat' split) <;> omega] at hQ; exact hQ) | (rw [show chS l r s = 2 by unfold chS; (repeat' split) <;> omega] at hQ; exact hQ))
          · refine R_iconst dX10_choice_27 (?_ : RR _ _ _ _ 28 _ _ _ _)
            refine R_goto (t := 32) dX10_choice_28 rfl (?_ : RR _ _ _ _ 32 _ _ _ _)
            exact R_ireturn dX10_choice_32 trivial (by first | (rw [show chS l r s = 0 by unfold chS; (repeat' split) <;> omega] at hQ; exact hQ) | (rw [show chS l r s = 1 by unfold chS; (repeat' split) <;> omega] at hQ; exact hQ) | (rw [show chS l r s = 2 by unfold chS; (repeat' split) <;> omega] at hQ; exact hQ))
        · refine R_iconst dX10_choice_20 (?_ : RR _ _ _ _ 21 _ _ _ _)
          exact R_ireturn dX10_choice_21 trivial (by first | (rw [show chS l r s = 0 by unfold chS; (repeat' split) <;> omega] at hQ; exact hQ) | (rw [show chS l r s = 1 by unfold chS; (repeat' split) <;> omega] at hQ; exact hQ) | (rw [show chS l r s = 2 by unfold chS; (repeat' split) <;> omega] at hQ; exact hQ))
    · refine R_iconst dX10_choice_8 (?_ : RR _ _ _ _ 9 _ _ _ _)
      exact R_ireturn dX10_choice_9 trivial (by first | (rw [show chS l r s = 0 by unfold chS; (repeat' split) <;> omega] at hQ; exact hQ) | (rw [show chS l r s = 1 by unfold chS; (repeat' split) <;> omega] at hQ; exact hQ) | (rw [show chS l r s = 2 by unfold chS; (repeat' split) <;> omega] at hQ; exact hQ))
theorem T_X10_voteOf {c : Int} {h : Nat → Int → Int} (hc : 0 ≤ c ∧ c < 6 := by omega) : MT mX10_voteOf 1 [pR 36, pI c] h (some (pI (chS (h 39 (3 * c)) (h 39 (3 * c + 1)) (h 39 (3 * c + 2))))) h := by
  refine MT.of (fun Q hQ => (?_ : RR mX10_voteOf _ _ _ _ [pR 36, pI c] _ _ _))
  refine R_aload_n dX10_voteOf_0 rfl (?_ : RR _ _ _ _ 1 _ _ _ _)
  refine R_getr dX10_voteOf_1 flX10_18 cok_10 rfl (by decide) (?_ : RR _ _ _ _ 4 _ _ _ _)
  refine R_iconst dX10_voteOf_4 (?_ : RR _ _ _ _ 5 _ _ _ _)
  refine R_iload_n dX10_voteOf_5 rfl (?_ : RR _ _ _ _ 6 _ _ _ _)
  refine R_imul dX10_voteOf_6 (?_ : RR _ _ _ _ 7 _ _ _ _)
  refine R_iald dX10_voteOf_7 (fun q7 => (?_ : RR _ _ _ _ 8 _ _ _ _))
  refine R_aload_n dX10_voteOf_8 rfl (?_ : RR _ _ _ _ 9 _ _ _ _)
  refine R_getr dX10_voteOf_9 flX10_18 cok_10 rfl (by decide) (?_ : RR _ _ _ _ 12 _ _ _ _)
  refine R_iconst dX10_voteOf_12 (?_ : RR _ _ _ _ 13 _ _ _ _)
  refine R_iload_n dX10_voteOf_13 rfl (?_ : RR _ _ _ _ 14 _ _ _ _)
  refine R_imul dX10_voteOf_14 (?_ : RR _ _ _ _ 15 _ _ _ _)
  refine R_iconst dX10_voteOf_15 (?_ : RR _ _ _ _ 16 _ _ _ _)
  refine R_iadd dX10_voteOf_16 (?_ : RR _ _ _ _ 17 _ _ _ _)
  refine R_iald dX10_voteOf_17 (fun q17 => (?_ : RR _ _ _ _ 18 _ _ _ _))
  refine R_aload_n dX10_voteOf_18 rfl (?_ : RR _ _ _ _ 19 _ _ _ _)
  refine R_getr dX10_voteOf_19 flX10_18 cok_10 rfl (by decide) (?_ : RR _ _ _ _ 22 _ _ _ _)
  refine R_iconst dX10_voteOf_22 (?_ : RR _ _ _ _ 23 _ _ _ _)
  refine R_iload_n dX10_voteOf_23 rfl (?_ : RR _ _ _ _ 24 _ _ _ _)
  refine R_imul dX10_voteOf_24 (?_ : RR _ _ _ _ 25 _ _ _ _)
  refine R_iconst dX10_voteOf_25 (?_ : RR _ _ _ _ 26 _ _ _ _)
  refine R_iadd dX10_voteOf_26 (?_ : RR _ _ _ _ 27 _ _ _ _)
  refine R_iald dX10_voteOf_27 (fun q27 => (?_ : RR _ _ _ _ 28 _ _ _ _))
  refine R_cSi3 dX10_voteOf_28 msX10_choice mlX10_80 (by decide) (Nat.le_of_ble_eq_true rfl) (Nat.le_of_ble_eq_true rfl) (T_X10_choice) (?_ : RR _ _ _ _ 31 _ _ _ _)
  exact R_ireturn dX10_voteOf_31 trivial hQ
theorem T_X10_voteOfAll {h : Nat → Int → Int} : MT mX10_voteOfAll 1 [pR 36] h (some (pI (chS (h 40 0) (h 40 1) (h 40 2)))) h := by
  refine MT.of (fun Q hQ => (?_ : RR mX10_voteOfAll _ _ _ _ [pR 36] _ _ _))
  refine R_aload_n dX10_voteOfAll_0 rfl (?_ : RR _ _ _ _ 1 _ _ _ _)
  refine R_getr dX10_voteOfAll_1 flX10_21 cok_10 rfl (by decide) (?_ : RR _ _ _ _ 4 _ _ _ _)
  refine R_iconst dX10_voteOfAll_4 (?_ : RR _ _ _ _ 5 _ _ _ _)
  refine R_iald dX10_voteOfAll_5 (fun q5 => (?_ : RR _ _ _ _ 6 _ _ _ _))
  refine R_aload_n dX10_voteOfAll_6 rfl (?_ : RR _ _ _ _ 7 _ _ _ _)
  refine R_getr dX10_voteOfAll_7 flX10_21 cok_10 rfl (by decide) (?_ : RR _ _ _ _ 10 _ _ _ _)
  refine R_iconst dX10_voteOfAll_10 (?_ : RR _ _ _ _ 11 _ _ _ _)
  refine R_iald dX10_voteOfAll_11 (fun q11 => (?_ : RR _ _ _ _ 12 _ _ _ _))
  refine R_aload_n dX10_voteOfAll_12 rfl (?_ : RR _ _ _ _ 13 _ _ _ _)
  refine R_getr dX10_voteOfAll_13 flX10_21 cok_10 rfl (by decide) (?_ : RR _ _ _ _ 16 _ _ _ _)
  refine R_iconst dX10_voteOfAll_16 (?_ : RR _ _ _ _ 17 _ _ _ _)
  refine R_iald dX10_voteOfAll_17 (fun q17 => (?_ : RR _ _ _ _ 18 _ _ _ _))
  refine R_cSi3 dX10_voteOfAll_18 msX10_choice mlX10_80 (by decide) (Nat.le_of_ble_eq_true rfl) (Nat.le_of_ble_eq_true rfl) (T_X10_choice) (?_ : RR _ _ _ _ 21 _ _ _ _)
  exact R_ireturn dX10_voteOfAll_21 trivial hQ
theorem T_X10_clearSome {h : Nat → Int → Int} : MT mX10_clearSome 0 [pR 36] h none (rup h 42 (fup (fup (fup (h 42) 0 0) 1 0) 2 0)) := by
  refine MT.of (fun Q hQ => (?_ : RR mX10_clearSome _ _ _ _ [pR 36, pU] _ _ _))
  refine R_iconst dX10_clearSome_0 (?_ : RR _ _ _ _ 1 _ _ _ _)
  refine R_istore_n dX10_clearSome_1 (Nat.le_of_ble_eq_true rfl) (?_ : RR _ _ _ _ 2 [_, _] _ _ _)
  refine R_iload_n dX10_clearSome_2 rfl (?_ : RR _ _ _ _ 3 _ _ _ _)
  refine R_iconst dX10_clearSome_3 (?_ : RR _ _ _ _ 4 _ _ _ _)
  refine R_icmp_gt (t := 20) dX10_clearSome_4 rfl (fun c4 => ?_) (fun c4 => ?_)
  · exfalso; omega
  refine R_aload_n dX10_clearSome_7 rfl (?_ : RR _ _ _ _ 8 _ _ _ _)
  refine R_getr dX10_clearSome_8 flX10_27 cok_10 rfl (by decide) (?_ : RR _ _ _ _ 11 _ _ _ _)
  refine R_iload_n dX10_clearSome_11 rfl (?_ : RR _ _ _ _ 12 _ _ _ _)
  refine R_iconst dX10_clearSome_12 (?_ : RR _ _ _ _ 13 _ _ _ _)
  refine R_iast dX10_clearSome_13 (?_ : RR _ _ _ _ 14 _ _ _ _)
  try simp (disch := omega) only [rup_rup, rup_sort, rupS_def, rup_s, rup_n, fup_fup, fup_s, fup_n]
  refine R_iinc dX10_clearSome_14 rfl (Nat.le_of_ble_eq_true rfl) (?_ : RR _ _ _ _ 17 [_, _] _ _ _)
  refine R_goto (t := 2) dX10_clearSome_17 rfl (?_ : RR _ _ _ _ 2 _ _ _ _)
  refine R_iload_n dX10_clearSome_2 rfl (?_ : RR _ _ _ _ 3 _ _ _ _)
  refine R_iconst dX10_clearSome_3 (?_ : RR _ _ _ _ 4 _ _ _ _)
  refine R_icmp_gt (t := 20) dX10_clearSome_4 rfl (fun c4 => ?_) (fun c4 => ?_)
  · exfalso; omega
  refine R_aload_n dX10_clearSome_7 rfl (?_ : RR _ _ _ _ 8 _ _ _ _)
  refine R_getr dX10_clearSome_8 flX10_27 cok_10 rfl (by decide) (?_ : RR _ _ _ _ 11 _ _ _ _)
  refine R_iload_n dX10_clearSome_11 rfl (?_ : RR _ _ _ _ 12 _ _ _ _)
  refine R_iconst dX10_clearSome_12 (?_ : RR _ _ _ _ 13 _ _ _ _)
  refine R_iast dX10_clearSome_13 (?_ : RR _ _ _ _ 14 _ _ _ _)
  try simp (disch := omega) only [rup_rup, rup_sort, rupS_def, rup_s, rup_n, fup_fup, fup_s, fup_n]
  refine R_iinc dX10_clearSome_14 rfl (Nat.le_of_ble_eq_true rfl) (?_ : RR _ _ _ _ 17 [_, _] _ _ _)
  refine R_goto (t := 2) dX10_clearSome_17 rfl (?_ : RR _ _ _ _ 2 _ _ _ _)
  refine R_iload_n dX10_clearSome_2 rfl (?_ : RR _ _ _ _ 3 _ _ _ _)
  refine R_iconst dX10_clearSome_3 (?_ : RR _ _ _ _ 4 _ _ _ _)
  refine R_icmp_gt (t := 20) dX10_clearSome_4 rfl (fun c4 => ?_) (fun c4 => ?_)
  · exfalso; omega
  refine R_aload_n dX10_clearSome_7 rfl (?_ : RR _ _ _ _ 8 _ _ _ _)
  refine R_getr dX10_clearSome_8 flX10_27 cok_10 rfl (by decide) (?_ : RR _ _ _ _ 11 _ _ _ _)
  refine R_iload_n dX10_clearSome_11 rfl (?_ : RR _ _ _ _ 12 _ _ _ _)
  refine R_iconst dX10_clearSome_12 (?_ : RR _ _ _ _ 13 _ _ _ _)
  refine R_iast dX10_clearSome_13 (?_ : RR _ _ _ _ 14 _ _ _ _)
  try simp (disch := omega) only [rup_rup, rup_sort, rupS_def, rup_s, rup_n, fup_fup, fup_s, fup_n]
  refine R_iinc dX10_clearSome_14 rfl (Nat.le_of_ble_eq_true rfl) (?_ : RR _ _ _ _ 17 [_, _] _ _ _)
  refine R_goto (t := 2) dX10_clearSome_17 rfl (?_ : RR _ _ _ _ 2 _ _ _ _)
  refine R_iload_n dX10_clearSome_2 rfl (?_ : RR _ _ _ _ 3 _ _ _ _)
  refine R_iconst dX10_clearSome_3 (?_ : RR _ _ _ _ 4 _ _ _ _)
  refine R_icmp_gt (t := 20) dX10_clearSome_4 rfl (fun c4 => ?_) (fun c4 => ?_)
  rotate_left
  · exfalso; omega
  exact R_return dX10_clearSome_20 trivial hQ
/-! the rule's votes -/
def rk (s a b : Int) : Int := if s = 42 then a * b else if s = 43 then a + b else if s = 45 then a - b else if s = 47 then (if b = 0 then 0 else iDiv a b) else if s = 60 then (if a < b then 1 else 0) else if s = 62 then (if b < a then 1 else 0) else (if a = b then 1 else 0)
theorem T_X4_reckon {s a b : Int} {h : Nat → Int → Int} (hs : r32 s := by omega) (ha : r32 a := by omega) (hb : r32 b := by omega) : MT mX4_reckon 0 [pI s, pI a, pI b] h (some (pI (rk s a b))) h := by
  refine MT.of (fun Q hQ => (?_ : RR mX4_reckon _ _ _ _ [pI s, pI a, pI b] _ _ _))
  unfold rk at hQ
  refine R_iload_n dX4_reckon_0 rfl (?_ : RR _ _ _ _ 1 _ _ _ _)
  by_cases s1 : s = 42
  · subst s1
    refine R_look (t := 68) (off := 67) dX4_reckon_1 (by decide) rfl rfl (?_ : RR _ _ _ _ 68 _ _ _ _)
    refine R_iload_n dX4_reckon_68 rfl (?_ : RR _ _ _ _ 69 _ _ _ _)
    refine R_iload_n dX4_reckon_69 rfl (?_ : RR _ _ _ _ 70 _ _ _ _)
    refine R_imul dX4_reckon_70 (?_ : RR _ _ _ _ 71 _ _ _ _)
    exact R_ireturn dX4_reckon_71 trivial hQ
  rw [if_neg s1] at hQ
  by_cases s2 : s = 43
  · subst s2
    refine R_look (t := 60) (off := 59) dX4_reckon_1 (by decide) rfl rfl (?_ : RR _ _ _ _ 60 _ _ _ _)
    refine R_iload_n dX4_reckon_60 rfl (?_ : RR _ _ _ _ 61 _ _ _ _)
    refine R_iload_n dX4_reckon_61 rfl (?_ : RR _ _ _ _ 62 _ _ _ _)
    refine R_iadd dX4_reckon_62 (?_ : RR _ _ _ _ 63 _ _ _ _)
    exact R_ireturn dX4_reckon_63 trivial hQ
  rw [if_neg s2] at hQ
  by_cases s3 : s = 45
  · subst s3
    refine R_look (t := 64) (off := 63) dX4_reckon_1 (by decide) rfl rfl (?_ : RR _ _ _ _ 64 _ _ _ _)
    refine R_iload_n dX4_reckon_64 rfl (?_ : RR _ _ _ _ 65 _ _ _ _)
    refine R_iload_n dX4_reckon_65 rfl (?_ : RR _ _ _ _ 66 _ _ _ _)
    refine R_isub dX4_reckon_66 (?_ : RR _ _ _ _ 67 _ _ _ _)
    exact R_ireturn dX4_reckon_67 trivial hQ
  rw [if_neg s3] at hQ
  by_cases s4 : s = 47
  · subst s4
    refine R_look (t := 72) (off := 71) dX4_reckon_1 (by decide) rfl rfl (?_ : RR _ _ _ _ 72 _ _ _ _)
    refine R_iload_n dX4_reckon_72 rfl (?_ : RR _ _ _ _ 73 _ _ _ _)
    refine R_if_ne (t := 80) dX4_reckon_73 rfl (fun c73 => ?_) (fun c73 => ?_)
    · refine R_iload_n dX4_reckon_80 rfl (?_ : RR _ _ _ _ 81 _ _ _ _)
      refine R_iload_n dX4_reckon_81 rfl (?_ : RR _ _ _ _ 82 _ _ _ _)
      refine R_idiv dX4_reckon_82 (by omega) (by omega) (?_ : RR _ _ _ _ 83 _ _ _ _)
      exact R_ireturn dX4_reckon_83 trivial (by first | rwa [if_pos rfl, if_pos c73] at hQ | rwa [if_pos rfl, if_neg c73] at hQ)
    · refine R_iconst dX4_reckon_76 (?_ : RR _ _ _ _ 77 _ _ _ _)
      refine R_goto (t := 83) dX4_reckon_77 rfl (?_ : RR _ _ _ _ 83 _ _ _ _)
      exact R_ireturn dX4_reckon_83 trivial (by first | rwa [if_pos rfl, if_pos c73] at hQ | rwa [if_pos rfl, if_neg c73] at hQ)
  rw [if_neg s4] at hQ
  by_cases s5 : s = 60
  · subst s5
    refine R_look (t := 84) (off := 83) dX4_reckon_1 (by decide) rfl rfl (?_ : RR _ _ _ _ 84 _ _ _ _)
    refine R_iload_n dX4_reckon_84 rfl (?_ : RR _ _ _ _ 85 _ _ _ _)
    refine R_iload_n dX4_reckon_85 rfl (?_ : RR _ _ _ _ 86 _ _ _ _)
    refine R_icmp_ge (t := 93) dX4_reckon_86 rfl (fun c86 => ?_) (fun c86 => ?_)
    · refine R_iconst dX4_reckon_93 (?_ : RR _ _ _ _ 94 _ _ _ _)
      exact R_ireturn dX4_reckon_94 trivial (by first | rwa [if_pos rfl, if_pos (by omega)] at hQ | rwa [if_pos rfl, if_neg (by omega)] at hQ)
    · refine R_iconst dX4_reckon_89 (?_ : RR _ _ _ _ 90 _ _ _ _)
      refine R_goto (t := 94) dX4_reckon_90 rfl (?_ : RR _ _ _ _ 94 _ _ _ _)
      exact R_ireturn dX4_reckon_94 trivial (by first | rwa [if_pos rfl, if_pos (by omega)] at hQ | rwa [if_pos rfl, if_neg (by omega)] at hQ)
  rw [if_neg s5] at hQ
  by_cases s6 : s = 62
  · subst s6
    refine R_look (t := 95) (off := 94) dX4_reckon_1 (by decide) rfl rfl (?_ : RR _ _ _ _ 95 _ _ _ _)
    refine R_iload_n dX4_reckon_95 rfl (?_ : RR _ _ _ _ 96 _ _ _ _)
    refine R_iload_n dX4_reckon_96 rfl (?_ : RR _ _ _ _ 97 _ _ _ _)
    refine R_icmp_le (t := 104) dX4_reckon_97 rfl (fun c97 => ?_) (fun c97 => ?_)
    · refine R_iconst dX4_reckon_104 (?_ : RR _ _ _ _ 105 _ _ _ _)
      exact R_ireturn dX4_reckon_105 trivial (by first | rwa [if_pos rfl, if_pos (by omega)] at hQ | rwa [if_pos rfl, if_neg (by omega)] at hQ)
    · refine R_iconst dX4_reckon_100 (?_ : RR _ _ _ _ 101 _ _ _ _)
      refine R_goto (t := 105) dX4_reckon_101 rfl (?_ : RR _ _ _ _ 105 _ _ _ _)
      exact R_ireturn dX4_reckon_105 trivial (by first | rwa [if_pos rfl, if_pos (by omega)] at hQ | rwa [if_pos rfl, if_neg (by omega)] at hQ)
  rw [if_neg s6] at hQ
  refine R_look (t := 106) (off := 105) dX4_reckon_1 (by decide) (by simp [Op.lookupswitch.offset, s1, s2, s3, s4, s5, s6, Ne.symm s1, Ne.symm s2, Ne.symm s3, Ne.symm s4, Ne.symm s5, Ne.symm s6]) rfl (?_ : RR _ _ _ _ 106 _ _ _ _)
  refine R_iload_n dX4_reckon_106 rfl (?_ : RR _ _ _ _ 107 _ _ _ _)
  refine R_iload_n dX4_reckon_107 rfl (?_ : RR _ _ _ _ 108 _ _ _ _)
  refine R_icmp_ne (t := 115) dX4_reckon_108 rfl (fun c108 => ?_) (fun c108 => ?_)
  · refine R_iconst dX4_reckon_115 (?_ : RR _ _ _ _ 116 _ _ _ _)
    exact R_ireturn dX4_reckon_116 trivial (by first | rwa [if_pos (by omega)] at hQ | rwa [if_neg (by omega)] at hQ)
  · refine R_iconst dX4_reckon_111 (?_ : RR _ _ _ _ 112 _ _ _ _)
    refine R_goto (t := 116) dX4_reckon_112 rfl (?_ : RR _ _ _ _ 116 _ _ _ _)
    exact R_ireturn dX4_reckon_116 trivial (by first | rwa [if_pos (by omega)] at hQ | rwa [if_neg (by omega)] at hQ)
