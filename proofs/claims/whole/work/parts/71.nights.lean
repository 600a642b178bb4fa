section NI
variable {k : Nat} {h h1 h2 h3 h4 : Nat → Int → Int} {sem : Sem} {H np nc len : Nat} {v : Int} {X : Cx} {f : Int → Int}
theorem C_tk {t : Nat} (hX : xOK X H) (hc : Cpl X H h t f len) (ht : isTr t) : RR mX9_takeStanding 1 0 0 0 (pm_ent [pR t] mX9_takeStanding.2.2.1) [] (shp0, rf0, h) (fun r' g' => ∃ z h' len', r' = some (pI z) ∧ g' = (shp0, rf0, h') ∧ (∀ a, a ≠ t → a ≠ t + 1 → a ≠ t + 2 → h' a = h a) ∧ Cpl X H h' t (aCo X f).2 len') := by
  obtain ⟨hf, e0, e1, e2, e3, ep, ea, es⟩ := id hc
  have hln := xLn_eq hf
  have fl := hf.2.2.1
  have x6 := hX.2.2.2.1
  have f0 := hf.1
  have x2 := hX.2.1
  have hB : ∀ j : Nat, j < xC X → decide (h (t + 2) j = -1 ∧ h (t + 3) j = h t 0) = stB f j := fun j hj => by
    unfold stB
    rw [ep j hj, e0]
    have := hf.2.2.2.2.1 j hj
    by_cases z : mP f j = -1
    · rw [ea j hj z]
      apply decide_eq_decide.mpr
      omega
    · rw [decide_eq_false (fun y => z y.1), decide_eq_false (by omega)]
  have tL : ∀ n : Nat, n ≤ xC X → tkL (fun j => decide (h (t + 2) j = -1 ∧ h (t + 3) j = h t 0)) len n = tkL (stB f) len n := by
    intro n
    induction n with
    | zero => intro _; rfl
    | succ n ih =>
      intro hn
      rw [tkL_s, tkL_s, ih (by omega), hB n (by omega)]
  have tO : ∀ n : Nat, n ≤ xC X → tkO (fun j => decide (h (t + 2) j = -1 ∧ h (t + 3) j = h t 0)) len (h (t + 1)) n = tkO (stB f) len (h (t + 1)) n := by
    intro n
    induction n with
    | zero => intro _; rfl
    | succ n ih =>
      intro hn
      rw [tkO_s, tkO_s, ih (by omega), hB n (by omega), tL n (by omega)]
  have tP : ∀ n : Nat, n ≤ xC X → tkP (fun j => decide (h (t + 2) j = -1 ∧ h (t + 3) j = h t 0)) len (h (t + 2)) n = tkP (stB f) len (h (t + 2)) n := by
    intro n
    induction n with
    | zero => intro _; rfl
    | succ n ih =>
      intro hn
      show (if decide (h (t + 2) n = -1 ∧ h (t + 3) n = h t 0) then _ else _) = (if stB f n then _ else _)
      rw [ih (by omega), hB n (by omega), tL n (by omega)]
  have hT := T_X9_takeStanding (t := t) (nc := xC X) (l := len) e2 e3 (fun k hk hb => by
    have h1 : stB f k = true := by rw [← hB k hk]; exact decide_eq_true hb
    rw [tL k (by omega)]
    have := tkL_6 hf hk h1
    omega) (by rw [e0]; omega) (ht := ht)
  rw [bset_congr hB, tL _ (Nat.le_refl _), tO _ (Nat.le_refl _), tP _ (Nat.le_refl _)] at hT
  refine RR.post hT (fun r' g' q => ?_)
  obtain ⟨rfl, rfl⟩ := q
  refine ⟨_, _, tkL (stB f) len (xC X), rfl, rfl, fun a a1 a2 a3 => by rw [rup_n a3, rup_n a2, rup_n a1], ?_⟩
  unfold aCo
  rw [hln]
  refine cpl_tk x6 hc ?_ ?_ ?_ ?_ ?_
  · simp (disch := omega) only [rup_n, rup_s]
  · simp (disch := omega) only [rup_n, rup_s]
  · simp (disch := omega) only [rup_s]
  · simp (disch := omega) only [rup_n]
  · simp (disch := omega) only [rup_n]
/-! draws -/
def dN (s : Int) : Int := w32 (s * 1103515245 + 12345)
def dR (s n : Int) : Int := iRem (iUshr s 16) n
theorem iUshr_b {a : Int} : 0 ≤ iUshr a 16 ∧ iUshr a 16 < 65536 := by
  unfold iUshr
  have e : ((Int32.ofInt 16).toUInt32 &&& Int32.toUInt32 31) = 16 := by decide +kernel
  rw [e]
  generalize (Int32.ofInt a).toUInt32 = u
  have h1 : (u >>> 16).toBitVec.toNat < 65536 := by
    show (u.toBitVec >>> (16 : Nat)).toNat < 65536
    rw [BitVec.toNat_ushiftRight, Nat.shiftRight_eq_div_pow]
    have := u.toBitVec.isLt
    omega
  show 0 ≤ (u >>> 16).toBitVec.toInt ∧ (u >>> 16).toBitVec.toInt < 65536
  rw [BitVec.toInt_eq_toNat_of_lt (by omega)]
  omega
theorem dR_b {s n : Int} (hn : 1 ≤ n ∧ n ≤ 100) : 0 ≤ dR s n ∧ dR s n < n := by
  unfold dR
  have h1 := iUshr_b (a := s)
  rw [iRem_pos (by omega) (by omega) (by omega) (by omega)]
  exact ⟨Int.emod_nonneg _ (by omega), Int.emod_lt_of_pos _ (by omega)⟩
theorem T_X11_draw {n : Nat} (hn : 1 ≤ n ∧ n ≤ 100) : MT mX11_draw 0 [pR 0, pI n] h (some (pI (dR (dN (h 0 14)) n))) (rup h 0 (fup (h 0) 14 (dN (h 0 14)))) := by
  refine MT.of (fun Q hQ => (?_ : RR mX11_draw _ _ _ _ [pR 0, pI n] _ _ _))
  unfold dR dN at hQ
  refine R_aload_n dX11_draw_0 rfl (?_ : RR _ _ _ _ 1 _ _ _ _)
  refine R_aload_n dX11_draw_1 rfl (?_ : RR _ _ _ _ 2 _ _ _ _)
  refine R_geti (z := 14) dX11_draw_2 flX11_401 cok_11 rfl (by decide) rfl (fun q2 => (?_ : RR _ _ _ _ 5 _ _ _ _))
  refine R_ldcw (z := 1103515245) dX11_draw_5 kwX11_473 (?_ : RR _ _ _ _ 8 _ _ _ _)
  refine R_imul dX11_draw_8 (?_ : RR _ _ _ _ 9 _ _ _ _)
  refine R_sipush dX11_draw_9 rfl (?_ : RR _ _ _ _ 12 _ _ _ _)
  refine R_iadd dX11_draw_12 (?_ : RR _ _ _ _ 13 _ _ _ _)
  refine R_wrap ?_
  refine R_puti (hr := w32_r _) (zk := 14) dX11_draw_13 flX11_401 cok_11 (by decide) (fun q hq => by cases hq; rfl) rfl (?_ : RR _ _ _ _ 16 _ _ _ _)
  refine R_iload_n dX11_draw_16 rfl (?_ : RR _ _ _ _ 17 _ _ _ _)
  refine R_iconst dX11_draw_17 (?_ : RR _ _ _ _ 18 _ _ _ _)
  refine R_icmp_ge (t := 25) dX11_draw_18 rfl (fun c18 => ?_) (fun c18 => ?_)
  rotate_left
  · exfalso; omega
  refine R_aload_n dX11_draw_25 rfl (?_ : RR _ _ _ _ 26 _ _ _ _)
  refine R_geti (z := 14) dX11_draw_26 flX11_401 cok_11 rfl (by decide) rfl (fun q26 => (?_ : RR _ _ _ _ 29 _ _ _ _))
  rw [rup_s, fup_s] at q26 ⊢
  refine R_bipush dX11_draw_29 rfl (?_ : RR _ _ _ _ 31 _ _ _ _)
  refine R_iushr dX11_draw_31 (?_ : RR _ _ _ _ 32 _ _ _ _)
  refine R_iload_n dX11_draw_32 rfl (?_ : RR _ _ _ _ 33 _ _ _ _)
  refine R_irem dX11_draw_33 (by omega) (by omega) (?_ : RR _ _ _ _ 34 _ _ _ _)
  exact R_ireturn dX11_draw_34 trivial hQ
theorem T_X12_draws {n : Nat} (hn : 1 ≤ n ∧ n ≤ 100) : MT mX12_draws 0 [pR 147, pI n] h (some (pI (dR (dN (h 147 46)) n))) (rup h 147 (fup (h 147) 46 (dN (h 147 46)))) := by
  refine MT.of (fun Q hQ => (?_ : RR mX12_draws _ _ _ _ [pR 147, pI n] _ _ _))
  unfold dR dN at hQ
  refine R_aload_n dX12_draws_0 rfl (?_ : RR _ _ _ _ 1 _ _ _ _)
  refine R_aload_n dX12_draws_1 rfl (?_ : RR _ _ _ _ 2 _ _ _ _)
  refine R_geti (z := 46) dX12_draws_2 flX12_470 cok_12 rfl (by decide) rfl (fun q2 => (?_ : RR _ _ _ _ 5 _ _ _ _))
  refine R_ldcw (z := 1103515245) dX12_draws_5 kwX12_473 (?_ : RR _ _ _ _ 8 _ _ _ _)
  refine R_imul dX12_draws_8 (?_ : RR _ _ _ _ 9 _ _ _ _)
  refine R_sipush dX12_draws_9 rfl (?_ : RR _ _ _ _ 12 _ _ _ _)
  refine R_iadd dX12_draws_12 (?_ : RR _ _ _ _ 13 _ _ _ _)
  refine R_wrap ?_
  refine R_puti (hr := w32_r _) (zk := 46) dX12_draws_13 flX12_470 cok_12 (by decide) (fun q hq => by cases hq; rfl) rfl (?_ : RR _ _ _ _ 16 _ _ _ _)
  refine R_aload_n dX12_draws_16 rfl (?_ : RR _ _ _ _ 17 _ _ _ _)
  refine R_geti (z := 46) dX12_draws_17 flX12_470 cok_12 rfl (by decide) rfl (fun q17 => (?_ : RR _ _ _ _ 20 _ _ _ _))
  rw [rup_s, fup_s] at q17 ⊢
  refine R_bipush dX12_draws_20 rfl (?_ : RR _ _ _ _ 22 _ _ _ _)
  refine R_iushr dX12_draws_22 (?_ : RR _ _ _ _ 23 _ _ _ _)
  refine R_iload_n dX12_draws_23 rfl (?_ : RR _ _ _ _ 24 _ _ _ _)
  refine R_irem dX12_draws_24 (by omega) (by omega) (?_ : RR _ _ _ _ 25 _ _ _ _)
  exact R_ireturn dX12_draws_25 trivial hQ
/-- one lot of a night -/
def nS (X : Cx) (w : (Int → Int) × Int) : (Int → Int) × Int :=
  if dR (dN w.2) 5 < 3 then (xStep X 0 w.1, dN w.2)
  else if dR (dN w.2) 5 = 3 then ((aCo X w.1).2, dN w.2)
  else if xP X = 0 then (w.1, dN w.2)
  else (if ridP w.1 (dR (dN (dN w.2)) (xP X)).toNat = true ∧ 0 ≤ mP w.1 (dR (dN (dN (dN w.2))) (xC X)) then fup w.1 (14 + dR (dN (dN w.2)) (xP X)) (dR (dN (dN (dN w.2))) (xC X)) else w.1, dN (dN (dN w.2)))
def nSi (X : Cx) (w : (Int → Int) × Int) : Nat → (Int → Int) × Int
  | 0 => w
  | n + 1 => nS X (nSi X w n)
theorem aCo_1 : (aCo X f).2 1 = f 1 := by
  unfold aCo
  exact mcF_0 (Or.inr rfl)
theorem nS_ok {w : (Int → Int) × Int} (hX : xOK X H) (hpc : 1 ≤ xP X → 1 ≤ xC X) (hf : okF X H w.1) : okF X H (nS X w).1 ∧ (nS X w).1 1 ≤ w.1 1 + 9 ∧ oor (nS X w).1 w.1 := by
  have x6 := hX.2.2.2.1
  have x12 := hX.2.2.1
  unfold nS
  split
  · obtain ⟨o, l, fo⟩ := id hf
    exact ⟨ok_run hX hf, (xStep_1 hX fo).2, xStep_oor x6 x12⟩
  · split
    · exact ⟨ok_tk hX hf, by show (aCo X w.1).2 1 ≤ _; rw [aCo_1]; omega, by show oor (aCo X w.1).2 w.1; unfold aCo; exact mcF_oor x6⟩
    · split
      · exact ⟨hf, by show w.1 1 ≤ w.1 1 + 9; omega, fun _ _ => rfl⟩
      · rename_i q
        have b1 := dR_b (s := dN (dN w.2)) (n := xP X) (by omega)
        have b2 := dR_b (s := dN (dN (dN w.2))) (n := xC X) (by omega)
        show okF X H (if _ then fup w.1 (14 + dR (dN (dN w.2)) (xP X)) (dR (dN (dN (dN w.2))) (xC X)) else w.1) ∧ (if _ then fup w.1 (14 + dR (dN (dN w.2)) (xP X)) (dR (dN (dN (dN w.2))) (xC X)) else w.1) 1 ≤ _ ∧ oor (if _ then fup w.1 (14 + dR (dN (dN w.2)) (xP X)) (dR (dN (dN (dN w.2))) (xC X)) else w.1) _
        split
        · rename_i y
          have yi := ridP_i y.1
          obtain ⟨p, hp⟩ := Int.eq_ofNat_of_zero_le b1.1
          obtain ⟨c, hc⟩ := Int.eq_ofNat_of_zero_le b2.1
          rw [hp, Int.toNat_natCast] at yi
          rw [hc] at y
          rw [hp, hc]
          refine ⟨ok_seat hX hf (by omega) (by omega) (by omega) yi.2 y.2, ?_, fup_oor (by omega)⟩
          rw [fup_n (by omega)]
          omega
        · exact ⟨hf, by omega, fun _ _ => rfl⟩
theorem nSi_ok {w : (Int → Int) × Int} (hX : xOK X H) (hpc : 1 ≤ xP X → 1 ≤ xC X) (hf : okF X H w.1) : ∀ n : Nat, okF X H (nSi X w n).1 ∧ (nSi X w n).1 1 ≤ w.1 1 + 9 * n ∧ oor (nSi X w n).1 w.1
  | 0 => ⟨hf, by show w.1 1 ≤ w.1 1 + 9 * 0; omega, fun _ _ => rfl⟩
  | n + 1 => by
    obtain ⟨a1, a2, a3⟩ := nSi_ok hX hpc hf n
    obtain ⟨b1, b2, b3⟩ := nS_ok hX hpc a1
    exact ⟨b1, by show (nS X (nSi X w n)).1 1 ≤ _; omega, oor_tr b3 a3⟩
/-- the other's frame, with its draws -/
def mlr (h3 h1 : Nat → Int → Int) : Prop := (∀ a, a ≠ 147 → a ≠ 155 → a ≠ 160 → a ≠ 161 → a ≠ 162 → h1 a = h3 a) ∧ (∀ j : Int, j ≠ 0 → j ≠ 30 → j ≠ 46 → h1 147 j = h3 147 j) ∧ (0 ≤ h1 147 30 ∧ h1 147 30 < 64) ∧ oor (h1 155) (h3 154)
theorem mlr_0 {z : Int} (hs : SRx k h sem H np nc len) (e : ∀ a, 147 ≤ a → h3 a = h a) : mlr h3 (rup h3 147 (fup (fup (h3 147) 0 0) 46 z)) := by
  refine ⟨fun a a1 a2 a3 a4 a5 => rup_n a1, fun j j1 j2 j3 => by rw [rup_s, fup_n j3, fup_n j1], ?_, ?_⟩
  · rw [rup_s, fup_n (by omega), fup_n (by omega), e 147 (by omega)]; exact hs.2.2.2.2.2.2.2
  · rw [rup_n (by omega), e 155 (by omega), e 154 (by omega)]; exact hs.2.2.2.1.2.2.1
theorem mlr_46 {z : Int} (hm : mlr h3 h1) : mlr h3 (rup h1 147 (fup (h1 147) 46 z)) :=
  ⟨fun a a1 a2 a3 a4 a5 => by rw [rup_n a1]; exact hm.1 a a1 a2 a3 a4 a5, fun j j1 j2 j3 => by rw [rup_s, fup_n j3]; exact hm.2.1 j j1 j2 j3, by rw [rup_s, fup_n (by omega)]; exact hm.2.2.1, by rw [rup_n (by omega)]; exact hm.2.2.2⟩
theorem mlr_155 {g : Int → Int} (hm : mlr h3 h1) (ho : oor g (h3 154)) : mlr h3 (rup h1 155 g) :=
  ⟨fun a a1 a2 a3 a4 a5 => by rw [rup_n a2]; exact hm.1 a a1 a2 a3 a4 a5, fun j j1 j2 j3 => by rw [rup_n (by omega)]; exact hm.2.1 j j1 j2 j3, by rw [rup_n (by omega)]; exact hm.2.2.1, by rw [rup_s]; exact ho⟩
theorem mlr_tn (hm : mlr h3 h1) (m1 : ∀ a, a ≠ 147 → a ≠ 155 → a ≠ 160 → a ≠ 161 → a ≠ 162 → h2 a = h1 a) (m3 : ∀ j : Int, j ≠ 30 → h2 147 j = h1 147 j) (m4 : 0 ≤ h2 147 30 ∧ h2 147 30 < 64) (ho : oor (h2 155) (h3 154)) : mlr h3 h2 :=
  ⟨fun a a1 a2 a3 a4 a5 => (m1 a a1 a2 a3 a4 a5).trans (hm.1 a a1 a2 a3 a4 a5), fun j j1 j2 j3 => (m3 j j2).trans (hm.2.1 j j1 j2 j3), m4, ho⟩
theorem mq_mlr (hs : SRx k h sem H np nc len) (e : ∀ a, 147 ≤ a → h3 a = h a) (hm : mlr h3 h1) : mqF h3 h1 :=
  ⟨fun a q => hm.1 a (by omega) (by omega) (by omega) (by omega) (by omega), fun j q => hm.2.1 j (by omega) (by omega) (by omega), fun _ => hm.2.2.1, fun j q => by
    rw [hm.2.2.2 j q, e 154 (by omega), e 155 (by omega)]
    exact (hs.2.2.2.1.2.2.1 j q).symm⟩
theorem MBk_r (hs : SRx k h sem H np nc len) (hk : k ≤ 1000) (e : ∀ a, 147 ≤ a → h3 a = h a) (hm : mlr h3 h1) (he : h1 155 = f) (ho : okF (cxM sem h np nc) H f) (hn : f 1 ≤ 2000000000) : MBk sem h1 155 H np nc ∧ cxM sem h1 np nc = cxM sem h np nc := by
  have fr : ∀ a, a ≠ 147 → a ≠ 155 → a ≠ 160 → a ≠ 161 → a ≠ 162 → 147 ≤ a → h1 a = h a := fun a a1 a2 a3 a4 a5 a6 => by rw [hm.1 a a1 a2 a3 a4 a5]; exact e a a6
  have fj : ∀ j : Int, j ≠ 0 → j ≠ 30 → j ≠ 46 → h1 147 j = h 147 j := fun j j1 j2 j3 => by rw [hm.2.1 j j1 j2 j3, e 147 (by omega)]
  obtain ⟨⟨m1, m2, m3, m4, m5, m6, m7, m8, m9⟩, eX⟩ := MBk_of (h' := h1) hs hk (fun a q => fr a (by omega) (by omega) (by omega) (by omega) (by omega) (by omega)) (fun j q => fj j (by omega) (by omega) (by omega)) hm.2.2.1
  exact ⟨⟨m1, by rw [eX, he]; exact ho, m3, m4, m5, by rw [he]; exact hn, m7, isRw_155, Or.inr rfl⟩, eX⟩
set_option maxHeartbeats 20000000 in
theorem A_nights {s : Int} (hs : SRx k h sem H np nc len) (hk : k ≤ 1000) (hsr : r32 s) (hv : r32 v) : AG mX11_nights mX12_nights 6 9 [pI s, pI v] k h := by
  have x6 := sR6 hs
  have x12 := sR12 hs
  have hX := hs.1.2.2.2.2.1
  have hn := hs.2.2.2.1.2.1
  have hc := hs.2.2.2.1.1
  have h11 : h 11 0 = np := hs.1.2.2.2.2.2.2.1.2.1.1
  have h5 : h 147 5 = np := hs.1.2.2.1
  have h4c : h 147 4 = nc := hs.1.2.1
  have hpc : 1 ≤ np → 1 ≤ nc := hs.1.2.2.2.2.2.2.2.2.2.2
  have e2 : h 14 2 = nc := hc.2.2.2.1
  have r154 := isRw_154
  have r155 := isRw_155
  have t14 := isTr_14
  have t24 := isTr_24
  by_cases q : 1 ≤ v ∧ v ≤ 60
  · obtain ⟨n, rfl⟩ := Int.eq_ofNat_of_zero_le (show 0 ≤ v by omega)
    have hn60 : n ≤ 60 := by omega
    obtain ⟨X, hXe⟩ : ∃ X, X = cxM sem h np nc := ⟨_, rfl⟩
    have hXP : xP X = np := by rw [hXe]; rfl
    have hXC : xC X = nc := by rw [hXe]; rfl
    have hX' : xOK X H := by rw [hXe]; exact hX
    have hok : okF X H (h 154) := by rw [hXe]; exact okF_c hc
    have hO := nSi_ok (w := (h 154, s)) hX' (by rw [hXP, hXC]; exact hpc) hok
    obtain ⟨F, hF9⟩ : ∃ F, F = (nSi X (h 154, s) n).1 := ⟨_, rfl⟩
    have hb1 := oMn_b (X := X) (f := F) (by rw [hXP]; exact x12)
    have hb2 := oMn_b (X := X) (f := h 154) (by rw [hXP]; exact x12)
    refine A_q hs (z := oMn X F - oMn X (h 154)) (o := some [F 1, F 0]) ?_ (fun h3 e => ?_) (fun L e => by injection e with e; subst e; exact (by omega : 2 ≤ 12))
    · show RR _ _ _ _ _ [pR 0, pI s, pI n, pU, pU] _ _ _
      have L : ∀ (j i : Nat) (h1 : Nat → Int → Int) (w : PV) (l1 : Nat), i + j = n → (∀ x, ¬ (x = 0 ∨ (24 ≤ x ∧ x ≤ 28) ∨ x = 31 ∨ x = 35 ∨ (37 ≤ x ∧ x ≤ 43)) → h1 x = h x) → Cpl X H h1 24 (nSi X (h 154, s) i).1 l1 → h1 0 14 = (nSi X (h 154, s) i).2 → RR mX11_nights 6 0 0 31 [pR 0, pI s, pI n, pI i, w] [] (shp0, rf0, h1) (cQ h (oMn X F - oMn X (h 154)) (some [F 1, F 0])) := by
        intro j
        induction j with
        | zero =>
          intro i h1 w l1 hi hF hc1 hr
          obtain rfl : i = n := by omega
          rw [← hF9] at hc1
          have g0 := hc1.2.1
          have g1 := hc1.2.2.1
          have hc0 : Cpl X H h1 14 (h 154) len := by rw [hXe]; exact Cpl_fr hc (fun a a1 a2 => hF a (by omega))
          have hq := cQ_tl (h := h) (h3 := h1) (L := [F 0, F 1]) (L' := [F 1, F 0]) (z := oMn X F - oMn X (h 154)) (fun a q => hF a (by omega)) rfl
          refine R_iload_n dX11_nights_31 rfl (?_ : RR _ _ _ _ 32 _ _ _ _)
          refine R_iload_n dX11_nights_32 rfl (?_ : RR _ _ _ _ 33 _ _ _ _)
          refine R_icmp_ge (t := 104) dX11_nights_33 rfl (fun c33 => ?_) (fun c33 => ?_)
          rotate_left
          · exfalso; omega
          refine R_aload_n dX11_nights_104 rfl (?_ : RR _ _ _ _ 105 _ _ _ _)
          refine R_getr dX11_nights_105 flX11_87 cok_11 rfl (by decide) (?_ : RR _ _ _ _ 108 _ _ _ _)
          refine R_cVv0 dX11_nights_108 mvX3_clear mlX11_239 (by decide) (by decide) (Nat.le_of_ble_eq_true rfl) (Nat.le_of_ble_eq_true rfl) (T_tlc) (?_ : RR _ _ _ _ 111 _ _ _ _)
          refine R_aload_n dX11_nights_111 rfl (?_ : RR _ _ _ _ 112 _ _ _ _)
          refine R_getr dX11_nights_112 flX11_87 cok_11 rfl (by decide) (?_ : RR _ _ _ _ 115 _ _ _ _)
          refine R_aload_n dX11_nights_115 rfl (?_ : RR _ _ _ _ 116 _ _ _ _)
          refine R_getr dX11_nights_116 flX11_43 cok_11 rfl (by decide) (?_ : RR _ _ _ _ 119 _ _ _ _)
          refine R_geti (z := 1) dX11_nights_119 flX11_312 cok_9 rfl (by decide) rfl (fun q119 => (?_ : RR _ _ _ _ 122 _ _ _ _))
          rw [tlR_n (by omega) (by omega), g1] at q119 ⊢
          refine R_i2l dX11_nights_122 (by first | assumption | omega) (?_ : RR _ _ _ _ 123 _ _ _ _)
          refine R_cVv1 dX11_nights_123 mvX3_add mlX11_243 (by decide) (by decide) (Nat.le_of_ble_eq_true rfl) (Nat.le_of_ble_eq_true rfl) (T_tla (by simp) (by omega)) (?_ : RR _ _ _ _ 126 _ _ _ _)
          refine R_aload_n dX11_nights_126 rfl (?_ : RR _ _ _ _ 127 _ _ _ _)
          refine R_getr dX11_nights_127 flX11_87 cok_11 rfl (by decide) (?_ : RR _ _ _ _ 130 _ _ _ _)
          refine R_aload_n dX11_nights_130 rfl (?_ : RR _ _ _ _ 131 _ _ _ _)
          refine R_getr dX11_nights_131 flX11_43 cok_11 rfl (by decide) (?_ : RR _ _ _ _ 134 _ _ _ _)
          refine R_geti (z := 0) dX11_nights_134 flX11_171 cok_9 rfl (by decide) rfl (fun q134 => (?_ : RR _ _ _ _ 137 _ _ _ _))
          rw [tlR_n (by omega) (by omega), g0] at q134 ⊢
          refine R_i2l dX11_nights_137 (by first | assumption | omega) (?_ : RR _ _ _ _ 138 _ _ _ _)
          refine R_cVv1 dX11_nights_138 mvX3_add mlX11_243 (by decide) (by decide) (Nat.le_of_ble_eq_true rfl) (Nat.le_of_ble_eq_true rfl) (T_tla (by simp) (by omega)) (?_ : RR _ _ _ _ 141 _ _ _ _)
          refine R_aload_n dX11_nights_141 rfl (?_ : RR _ _ _ _ 142 _ _ _ _)
          refine R_aload_n dX11_nights_142 rfl (?_ : RR _ _ _ _ 143 _ _ _ _)
          refine R_getr dX11_nights_143 flX11_36 cok_11 rfl (by decide) (?_ : RR _ _ _ _ 146 _ _ _ _)
          refine R_aload_n dX11_nights_146 rfl (?_ : RR _ _ _ _ 147 _ _ _ _)
          refine R_getr dX11_nights_147 flX11_43 cok_11 rfl (by decide) (?_ : RR _ _ _ _ 150 _ _ _ _)
          refine R_cVi2 dX11_nights_150 mvX11_outMoreThan mlX11_281 (by decide) (by decide) (Nat.le_of_ble_eq_true rfl) (Nat.le_of_ble_eq_true rfl) (T_X11_outMoreThan (X := X) (by rw [hXP]; exact x12) (by rw [tlR_n (by omega) (by omega), hF 11 (by omega), hXP]; exact h11) (Cpl_fr hc0 (fun a a1 a2 => tlR_n (by omega) (by omega))) (Cpl_fr hc1 (fun a a1 a2 => tlR_n (by omega) (by omega)))) (?_ : RR _ _ _ _ 153 _ _ _ _)
          exact R_ireturn dX11_nights_153 trivial hq
        | succ j ih =>
          intro i h1 w l1 hi hF hc1 hr
          obtain ⟨o1, o2, o3⟩ := hO i
          have e9 : nSi X (h 154, s) (i + 1) = nS X (nSi X (h 154, s) i) := rfl
          have IH := fun h1 w l1 => ih (i + 1) h1 w l1 (by omega)
          rw [e9] at IH
          have o2 : (nSi X (h 154, s) i).1 1 ≤ h 154 1 + 9 * i := o2
          generalize nSi X (h 154, s) i = wi at hc1 hr o1 o2 IH
          have b5 := dR_b (s := dN wi.2) (n := 5) (by omega)
          have e0 : rup h1 0 (fup (h1 0) 14 (dN (h1 0 14))) 0 14 = dN wi.2 := by rw [rup_s, fup_s, hr]
          have hc2 : Cpl X H (rup h1 0 (fup (h1 0) 14 (dN (h1 0 14)))) 24 wi.1 l1 := Cpl_fr hc1 (fun a a1 a2 => rup_n (by omega))
          have hF2 : ∀ x, ¬ (x = 0 ∨ (24 ≤ x ∧ x ≤ 28) ∨ x = 31 ∨ x = 35 ∨ (37 ≤ x ∧ x ≤ 43)) → rup h1 0 (fup (h1 0) 14 (dN (h1 0 14))) x = h x := fun x qx => by rw [rup_n (by omega)]; exact hF x qx
          have hT := T_X11_draw (h := h1) (n := 5) (by omega)
          rw [hr, show (((5 : Nat)) : Int) = 5 from rfl] at hT
          rw [hr] at e0 hc2 hF2
          generalize hh2 : rup h1 0 (fup (h1 0) 14 (dN wi.2)) = h2 at hT e0 hc2 hF2
          have hCO : CO X H h2 3 24 29 := CO_24 (CO_f (by rw [hXe]; exact hs.1.2.2.2.2.2.2.1) (fun a q => hF2 a (by omega)))
          unfold nS at IH
          by_cases q1 : dR (dN wi.2) 5 < 3
          · rw [if_pos q1] at IH
            refine R_iload_n dX11_nights_31 rfl (?_ : RR _ _ _ _ 32 _ _ _ _)
            refine R_iload_n dX11_nights_32 rfl (?_ : RR _ _ _ _ 33 _ _ _ _)
            refine R_icmp_ge (t := 104) dX11_nights_33 rfl (fun c33 => ?_) (fun c33 => ?_)
            · exfalso; omega
            refine R_aload_n dX11_nights_36 rfl (?_ : RR _ _ _ _ 37 _ _ _ _)
            refine R_iconst dX11_nights_37 (?_ : RR _ _ _ _ 38 _ _ _ _)
            refine R_cVi1 dX11_nights_38 mvX11_draw mlX11_404 (by decide) (by decide) (Nat.le_of_ble_eq_true rfl) (Nat.le_of_ble_eq_true rfl) (hT) (?_ : RR _ _ _ _ 41 _ _ _ _)
            refine R_istore dX11_nights_41 (Nat.le_of_ble_eq_true rfl) (?_ : RR _ _ _ _ 43 [_, _, _, _, _] _ _ _)
            refine R_iload dX11_nights_43 rfl (?_ : RR _ _ _ _ 45 _ _ _ _)
            refine R_iconst dX11_nights_45 (?_ : RR _ _ _ _ 46 _ _ _ _)
            refine R_icmp_ge (t := 77) dX11_nights_46 rfl (fun c46 => ?_) (fun c46 => ?_)
            · exfalso; omega
            refine R_aload_n dX11_nights_49 rfl (?_ : RR _ _ _ _ 50 _ _ _ _)
            refine R_getr dX11_nights_50 flX11_59 cok_11 rfl (by decide) (?_ : RR _ _ _ _ 53 _ _ _ _)
            refine R_aload_n dX11_nights_53 rfl (?_ : RR _ _ _ _ 54 _ _ _ _)
            refine R_getr dX11_nights_54 flX11_19 cok_11 rfl (by decide) (?_ : RR _ _ _ _ 57 _ _ _ _)
            refine R_aload_n dX11_nights_57 rfl (?_ : RR _ _ _ _ 58 _ _ _ _)
            refine R_getr dX11_nights_58 flX11_43 cok_11 rfl (by decide) (?_ : RR _ _ _ _ 61 _ _ _ _)
            refine R_aload_n dX11_nights_61 rfl (?_ : RR _ _ _ _ 62 _ _ _ _)
            refine R_getr dX11_nights_62 flX11_29 cok_11 rfl (by decide) (?_ : RR _ _ _ _ 65 _ _ _ _)
            refine R_aload_n dX11_nights_65 rfl (?_ : RR _ _ _ _ 66 _ _ _ _)
            refine R_getr dX11_nights_66 flX11_49 cok_11 rfl (by decide) (?_ : RR _ _ _ _ 69 _ _ _ _)
            refine R_iconst dX11_nights_69 (?_ : RR _ _ _ _ 70 _ _ _ _)
            refine R_qV5 dX11_nights_70 mvX5_once mlX11_297 (by decide) (by decide) (Nat.le_of_ble_eq_true rfl) (Nat.le_of_ble_eq_true rfl) (C_once (bh := 0) hX' hCO hc2 (by omega) (Or.inl rfl)) (fun r9 g9 hq9 => (?_ : RR _ _ _ _ 73 _ _ _ _))
            obtain ⟨h5, l5, rfl, hf5, hc5, ht5⟩ := hq9
            obtain ⟨z9, hz9⟩ : ∃ z9, r9 = some (pI z9) := ⟨_, ht5.2.1⟩
            subst hz9
            show RR _ _ _ _ _ _ [pI z9] _ _
            refine R_pop dX11_nights_73 (fun _ => rfl) (?_ : RR _ _ _ _ 74 _ _ _ _)
            refine R_goto (t := 98) dX11_nights_74 rfl (?_ : RR _ _ _ _ 98 _ _ _ _)
            refine R_iinc dX11_nights_98 rfl (Nat.le_of_ble_eq_true rfl) (?_ : RR _ _ _ _ 101 [_, _, _, _, _] _ _ _)
            refine R_goto (t := 31) dX11_nights_101 rfl (?_ : RR _ _ _ _ 31 _ _ _ _)
            exact IH h5 _ l5 (fun x qx => by rw [hf5 x (by omega) (by omega) (by omega) (by omega) (by omega) (by omega) (by omega)]; exact hF2 x qx) hc5 (by rw [hf5 0 (by omega) (by omega) (by omega) (by omega) (by omega) (by omega) (by omega)]; exact e0)
          · rw [if_neg q1] at IH
            by_cases q2 : dR (dN wi.2) 5 = 3
            · rw [if_pos q2] at IH
              refine R_iload_n dX11_nights_31 rfl (?_ : RR _ _ _ _ 32 _ _ _ _)
              refine R_iload_n dX11_nights_32 rfl (?_ : RR _ _ _ _ 33 _ _ _ _)
              refine R_icmp_ge (t := 104) dX11_nights_33 rfl (fun c33 => ?_) (fun c33 => ?_)
              · exfalso; omega
              refine R_aload_n dX11_nights_36 rfl (?_ : RR _ _ _ _ 37 _ _ _ _)
              refine R_iconst dX11_nights_37 (?_ : RR _ _ _ _ 38 _ _ _ _)
              refine R_cVi1 dX11_nights_38 mvX11_draw mlX11_404 (by decide) (by decide) (Nat.le_of_ble_eq_true rfl) (Nat.le_of_ble_eq_true rfl) (hT) (?_ : RR _ _ _ _ 41 _ _ _ _)
              refine R_istore dX11_nights_41 (Nat.le_of_ble_eq_true rfl) (?_ : RR _ _ _ _ 43 [_, _, _, _, _] _ _ _)
              refine R_iload dX11_nights_43 rfl (?_ : RR _ _ _ _ 45 _ _ _ _)
              refine R_iconst dX11_nights_45 (?_ : RR _ _ _ _ 46 _ _ _ _)
              refine R_icmp_ge (t := 77) dX11_nights_46 rfl (fun c46 => ?_) (fun c46 => ?_)
              rotate_left
              · exfalso; omega
              refine R_iload dX11_nights_77 rfl (?_ : RR _ _ _ _ 79 _ _ _ _)
              refine R_iconst dX11_nights_79 (?_ : RR _ _ _ _ 80 _ _ _ _)
              refine R_icmp_ne (t := 94) dX11_nights_80 rfl (fun c80 => ?_) (fun c80 => ?_)
              · exfalso; omega
              refine R_aload_n dX11_nights_83 rfl (?_ : RR _ _ _ _ 84 _ _ _ _)
              refine R_getr dX11_nights_84 flX11_43 cok_11 rfl (by decide) (?_ : RR _ _ _ _ 87 _ _ _ _)
              refine R_qV0 dX11_nights_87 mvX9_takeStanding mlX11_407 (by decide) (by decide) (Nat.le_of_ble_eq_true rfl) (Nat.le_of_ble_eq_true rfl) (C_tk hX' hc2 t24) (fun r9 g9 hq9 => (?_ : RR _ _ _ _ 90 _ _ _ _))
              obtain ⟨z9, h5, l5, rfl, rfl, hf5, hc5⟩ := hq9
              show RR _ _ _ _ _ _ [pI z9] _ _
              refine R_pop dX11_nights_90 (fun _ => rfl) (?_ : RR _ _ _ _ 91 _ _ _ _)
              refine R_goto (t := 98) dX11_nights_91 rfl (?_ : RR _ _ _ _ 98 _ _ _ _)
              refine R_iinc dX11_nights_98 rfl (Nat.le_of_ble_eq_true rfl) (?_ : RR _ _ _ _ 101 [_, _, _, _, _] _ _ _)
              refine R_goto (t := 31) dX11_nights_101 rfl (?_ : RR _ _ _ _ 31 _ _ _ _)
              exact IH h5 _ l5 (fun x qx => by rw [hf5 x (by omega) (by omega) (by omega)]; exact hF2 x qx) hc5 (by rw [hf5 0 (by omega) (by omega) (by omega)]; exact e0)
            · rw [if_neg q2] at IH
              -- a move
              have hM : RR mX11_drawMove 1 0 0 0 (pm_ent [pR 0] mX11_drawMove.2.2.1) [] (shp0, rf0, h2) (fun r' g' => r' = none ∧ ∃ h5 l5, g' = (shp0, rf0, h5) ∧ (∀ x, ¬ (x = 0 ∨ (24 ≤ x ∧ x ≤ 28) ∨ x = 31 ∨ x = 35 ∨ (37 ≤ x ∧ x ≤ 43)) → h5 x = h x) ∧ Cpl X H h5 24 (if xP X = 0 then (wi.1, dN wi.2) else (if ridP wi.1 (dR (dN (dN wi.2)) (xP X)).toNat = true ∧ 0 ≤ mP wi.1 (dR (dN (dN (dN wi.2))) (xC X)) then fup wi.1 (14 + dR (dN (dN wi.2)) (xP X)) (dR (dN (dN (dN wi.2))) (xC X)) else wi.1, dN (dN (dN wi.2)))).1 l5 ∧ h5 0 14 = (if xP X = 0 then (wi.1, dN wi.2) else (if ridP wi.1 (dR (dN (dN wi.2)) (xP X)).toNat = true ∧ 0 ≤ mP wi.1 (dR (dN (dN (dN wi.2))) (xC X)) then fup wi.1 (14 + dR (dN (dN wi.2)) (xP X)) (dR (dN (dN (dN wi.2))) (xC X)) else wi.1, dN (dN (dN wi.2)))).2) := by
                suffices hS : ∀ Q : Option PV → PH → Prop, (∀ h5 l5, (∀ x, ¬ (x = 0 ∨ (24 ≤ x ∧ x ≤ 28) ∨ x = 31 ∨ x = 35 ∨ (37 ≤ x ∧ x ≤ 43)) → h5 x = h x) → Cpl X H h5 24 (if xP X = 0 then (wi.1, dN wi.2) else (if ridP wi.1 (dR (dN (dN wi.2)) (xP X)).toNat = true ∧ 0 ≤ mP wi.1 (dR (dN (dN (dN wi.2))) (xC X)) then fup wi.1 (14 + dR (dN (dN wi.2)) (xP X)) (dR (dN (dN (dN wi.2))) (xC X)) else wi.1, dN (dN (dN wi.2)))).1 l5 → h5 0 14 = (if xP X = 0 then (wi.1, dN wi.2) else (if ridP wi.1 (dR (dN (dN wi.2)) (xP X)).toNat = true ∧ 0 ≤ mP wi.1 (dR (dN (dN (dN wi.2))) (xC X)) then fup wi.1 (14 + dR (dN (dN wi.2)) (xP X)) (dR (dN (dN (dN wi.2))) (xC X)) else wi.1, dN (dN (dN wi.2)))).2 → Q none (shp0, rf0, h5)) → RR mX11_drawMove 1 0 0 0 [pR 0, pU, pU] [] (shp0, rf0, h2) Q from hS _ (fun h5 l5 a b c => ⟨rfl, h5, l5, rfl, a, b, c⟩)
                intro Q hQ
                have g11 : h2 11 0 = np := by rw [hF2 11 (by omega)]; exact h11
                have g14 : h2 14 2 = nc := by rw [hF2 14 (by omega)]; exact e2
                by_cases q3 : xP X = 0
                · rw [if_pos q3] at hQ
                  have hq := hQ h2 l1 hF2 hc2 e0
                  rw [hXP] at q3
                  refine R_aload_n dX11_drawMove_0 rfl (?_ : RR _ _ _ _ 1 _ _ _ _)
                  refine R_getr dX11_drawMove_1 flX11_29 cok_11 rfl (by decide) (?_ : RR _ _ _ _ 4 _ _ _ _)
                  refine R_geti (z := 0) dX11_drawMove_4 flX11_116 cok_2 rfl (by decide) rfl (fun q4 => (?_ : RR _ _ _ _ 7 _ _ _ _))
                  rw [g11] at q4 ⊢
                  refine R_if_ne (t := 11) dX11_drawMove_7 rfl (fun c7 => ?_) (fun c7 => ?_)
                  · exfalso; omega
                  exact R_return dX11_drawMove_10 trivial hq
                · rw [if_neg q3] at hQ
                  rw [hXP] at q3
                  rw [hXP, hXC] at hQ
                  have b1 := dR_b (s := dN (dN wi.2)) (n := np) (by omega)
                  have b2 := dR_b (s := dN (dN (dN wi.2))) (n := nc) (by omega)
                  obtain ⟨p, hp⟩ := Int.eq_ofNat_of_zero_le b1.1
                  obtain ⟨c, hcc⟩ := Int.eq_ofNat_of_zero_le b2.1
                  rw [hp, hcc, Int.toNat_natCast] at hQ
                  have hD1 := T_X11_draw (h := h2) (n := np) (by omega)
                  rw [e0, hp] at hD1
                  have hD2 := T_X11_draw (h := rup h2 0 (fup (h2 0) 14 (dN (dN wi.2)))) (n := nc) (by omega)
                  rw [rup_s, fup_s, hcc, rup_rup, fup_fup] at hD2
                  obtain ⟨h6, hh6⟩ : ∃ h6, h6 = rup h2 0 (fup (h2 0) 14 (dN (dN (dN wi.2)))) := ⟨_, rfl⟩
                  rw [← hh6] at hD2
                  have f6 : ∀ a, a ≠ 0 → h6 a = h2 a := fun a a1 => by rw [hh6, rup_n a1]
                  have e06 : h6 0 14 = dN (dN (dN wi.2)) := by rw [hh6, rup_s, fup_s]
                  have hc6 : Cpl X H h6 24 wi.1 l1 := Cpl_fr hc2 (fun a a1 a2 => f6 a (by omega))
                  have hF6 : ∀ x, ¬ (x = 0 ∨ (24 ≤ x ∧ x ≤ 28) ∨ x = 31 ∨ x = 35 ∨ (37 ≤ x ∧ x ≤ 43)) → h6 x = h x := fun x qx => by rw [f6 x (by omega)]; exact hF2 x qx
                  obtain ⟨hf', z0, z1, z2, z3, ep, ea, es⟩ := id hc6
                  have esp := es p (by rw [hXP]; omega)
                  have hsp := hf'.2.2.2.2.2 p (by rw [hXP]; omega)
                  rw [hXC] at hsp ep
                  have hepl : ∀ c : Int, 0 ≤ c → c < nc → h6 (24 + 2) c = mP wi.1 c := fun c c0 c1 => by
                    have := ep c.toNat (by omega)
                    rw [show ((c.toNat : Nat) : Int) = c by omega] at this
                    exact this
                  have hmpb : ∀ c : Int, 0 ≤ c → c < nc → mP wi.1 c = -1 ∨ 0 ≤ mP wi.1 c := fun c c0 c1 => by
                    have := fOK_pl hf' c0 (by rw [hXC]; exact c1)
                    omega
                  have hcar : (if h6 (24 + 4) p ≠ -1 ∧ h6 (24 + 2) (h6 (24 + 4) p) ≠ -1 then (1 : Int) else 0) = if ridP wi.1 p = true then 1 else 0 := by
                    rw [esp]
                    by_cases q : mS wi.1 p = -1
                    · rw [if_neg (fun z => z.1 q), if_neg (fun z => by have := ridP_i z; omega)]
                    · rw [hepl _ (by omega) (by omega)]
                      have := hmpb (mS wi.1 p) (by omega) (by omega)
                      by_cases y : 0 ≤ mP wi.1 (mS wi.1 p)
                      · rw [if_pos ⟨q, by omega⟩, if_pos (by unfold ridP; exact decide_eq_true ⟨by omega, y⟩)]
                      · rw [if_neg (fun z => by omega), if_neg (fun z => y (ridP_i z).2)]
                  have g26 : h6 26 (c : Int) = mP wi.1 c := hepl c (by omega) (by omega)
                  have hcb := hmpb c (by omega) (by omega)
                  have g14b : rup h2 0 (fup (h2 0) 14 (dN (dN wi.2))) 14 2 = nc := by rw [rup_n (by omega)]; exact g14
                  by_cases r1 : ridP wi.1 p = true
                  · by_cases r2 : 0 ≤ mP wi.1 c
                    · rw [if_pos ⟨r1, r2⟩] at hQ
                      have hq := hQ _ l1 (fun x qx => by rw [rup_n (by omega)]; exact hF6 x qx) (cpl_seat (p := p) (c := c) (by rw [hXC]; exact x6) hc6 (by rw [hXC]; omega) (by rw [hXP]; omega) (by have := (ridP_i r1).1; omega) (ridP_i r1).2 r2) (by rw [rup_n (by omega)]; exact e06)
                      refine R_aload_n dX11_drawMove_0 rfl (?_ : RR _ _ _ _ 1 _ _ _ _)
                      refine R_getr dX11_drawMove_1 flX11_29 cok_11 rfl (by decide) (?_ : RR _ _ _ _ 4 _ _ _ _)
                      refine R_geti (z := 0) dX11_drawMove_4 flX11_116 cok_2 rfl (by decide) rfl (fun q4 => (?_ : RR _ _ _ _ 7 _ _ _ _))
                      rw [g11] at q4 ⊢
                      refine R_if_ne (t := 11) dX11_drawMove_7 rfl (fun c7 => ?_) (fun c7 => ?_)
                      rotate_left
                      · exfalso; omega
                      refine R_aload_n dX11_drawMove_11 rfl (?_ : RR _ _ _ _ 12 _ _ _ _)
                      refine R_aload_n dX11_drawMove_12 rfl (?_ : RR _ _ _ _ 13 _ _ _ _)
                      refine R_getr dX11_drawMove_13 flX11_29 cok_11 rfl (by decide) (?_ : RR _ _ _ _ 16 _ _ _ _)
                      refine R_geti (z := 0) dX11_drawMove_16 flX11_116 cok_2 rfl (by decide) rfl (fun q16 => (?_ : RR _ _ _ _ 19 _ _ _ _))
                      rw [g11] at q16 ⊢
                      refine R_cVi1 dX11_drawMove_19 mvX11_draw mlX11_404 (by decide) (by decide) (Nat.le_of_ble_eq_true rfl) (Nat.le_of_ble_eq_true rfl) (hD1) (?_ : RR _ _ _ _ 22 _ _ _ _)
                      refine R_istore_n dX11_drawMove_22 (Nat.le_of_ble_eq_true rfl) (?_ : RR _ _ _ _ 23 [_, _, _] _ _ _)
                      refine R_aload_n dX11_drawMove_23 rfl (?_ : RR _ _ _ _ 24 _ _ _ _)
                      refine R_aload_n dX11_drawMove_24 rfl (?_ : RR _ _ _ _ 25 _ _ _ _)
                      refine R_getr dX11_drawMove_25 flX11_36 cok_11 rfl (by decide) (?_ : RR _ _ _ _ 28 _ _ _ _)
                      refine R_geti (z := 2) dX11_drawMove_28 flX11_349 cok_9 rfl (by decide) rfl (fun q28 => (?_ : RR _ _ _ _ 31 _ _ _ _))
                      rw [g14b] at q28 ⊢
                      refine R_cVi1 dX11_drawMove_31 mvX11_draw mlX11_404 (by decide) (by decide) (Nat.le_of_ble_eq_true rfl) (Nat.le_of_ble_eq_true rfl) (hD2) (?_ : RR _ _ _ _ 34 _ _ _ _)
                      refine R_istore_n dX11_drawMove_34 (Nat.le_of_ble_eq_true rfl) (?_ : RR _ _ _ _ 35 [_, _, _] _ _ _)
                      refine R_aload_n dX11_drawMove_35 rfl (?_ : RR _ _ _ _ 36 _ _ _ _)
                      refine R_getr dX11_drawMove_36 flX11_43 cok_11 rfl (by decide) (?_ : RR _ _ _ _ 39 _ _ _ _)
                      refine R_iload_n dX11_drawMove_39 rfl (?_ : RR _ _ _ _ 40 _ _ _ _)
                      refine R_cVi1 dX11_drawMove_40 mvX9_carries mlX11_330 (by decide) (by decide) (Nat.le_of_ble_eq_true rfl) (Nat.le_of_ble_eq_true rfl) (T_X9_carries (hs := by rw [esp]; omega)) (?_ : RR _ _ _ _ 43 _ _ _ _)
                      rw [hcar, if_pos r1]
                      refine R_if_eq (t := 69) dX11_drawMove_43 rfl (fun c43 => ?_) (fun c43 => ?_)
                      · exfalso; omega
                      refine R_aload_n dX11_drawMove_46 rfl (?_ : RR _ _ _ _ 47 _ _ _ _)
                      refine R_getr dX11_drawMove_47 flX11_43 cok_11 rfl (by decide) (?_ : RR _ _ _ _ 50 _ _ _ _)
                      refine R_getr dX11_drawMove_50 flX11_183 cok_9 rfl (by decide) (?_ : RR _ _ _ _ 53 _ _ _ _)
                      refine R_iload_n dX11_drawMove_53 rfl (?_ : RR _ _ _ _ 54 _ _ _ _)
                      refine R_iald dX11_drawMove_54 (fun q54 => (?_ : RR _ _ _ _ 55 _ _ _ _))
                      rw [g26] at q54 ⊢
                      refine R_iconst dX11_drawMove_55 (?_ : RR _ _ _ _ 56 _ _ _ _)
                      refine R_icmp_eq (t := 69) dX11_drawMove_56 rfl (fun c56 => ?_) (fun c56 => ?_)
                      · exfalso; omega
                      refine R_aload_n dX11_drawMove_59 rfl (?_ : RR _ _ _ _ 60 _ _ _ _)
                      refine R_getr dX11_drawMove_60 flX11_43 cok_11 rfl (by decide) (?_ : RR _ _ _ _ 63 _ _ _ _)
                      refine R_getr dX11_drawMove_63 flX11_205 cok_9 rfl (by decide) (?_ : RR _ _ _ _ 66 _ _ _ _)
                      refine R_iload_n dX11_drawMove_66 rfl (?_ : RR _ _ _ _ 67 _ _ _ _)
                      refine R_iload_n dX11_drawMove_67 rfl (?_ : RR _ _ _ _ 68 _ _ _ _)
                      refine R_iast dX11_drawMove_68 (?_ : RR _ _ _ _ 69 _ _ _ _)
                      exact R_return dX11_drawMove_69 trivial hq
                    · rw [if_neg (fun z => r2 z.2)] at hQ
                      have hq := hQ h6 l1 hF6 hc6 e06
                      refine R_aload_n dX11_drawMove_0 rfl (?_ : RR _ _ _ _ 1 _ _ _ _)
                      refine R_getr dX11_drawMove_1 flX11_29 cok_11 rfl (by decide) (?_ : RR _ _ _ _ 4 _ _ _ _)
                      refine R_geti (z := 0) dX11_drawMove_4 flX11_116 cok_2 rfl (by decide) rfl (fun q4 => (?_ : RR _ _ _ _ 7 _ _ _ _))
                      rw [g11] at q4 ⊢
                      refine R_if_ne (t := 11) dX11_drawMove_7 rfl (fun c7 => ?_) (fun c7 => ?_)
                      rotate_left
                      · exfalso; omega
                      refine R_aload_n dX11_drawMove_11 rfl (?_ : RR _ _ _ _ 12 _ _ _ _)
                      refine R_aload_n dX11_drawMove_12 rfl (?_ : RR _ _ _ _ 13 _ _ _ _)
                      refine R_getr dX11_drawMove_13 flX11_29 cok_11 rfl (by decide) (?_ : RR _ _ _ _ 16 _ _ _ _)
                      refine R_geti (z := 0) dX11_drawMove_16 flX11_116 cok_2 rfl (by decide) rfl (fun q16 => (?_ : RR _ _ _ _ 19 _ _ _ _))
                      rw [g11] at q16 ⊢
                      refine R_cVi1 dX11_drawMove_19 mvX11_draw mlX11_404 (by decide) (by decide) (Nat.le_of_ble_eq_true rfl) (Nat.le_of_ble_eq_true rfl) (hD1) (?_ : RR _ _ _ _ 22 _ _ _ _)
                      refine R_istore_n dX11_drawMove_22 (Nat.le_of_ble_eq_true rfl) (?_ : RR _ _ _ _ 23 [_, _, _] _ _ _)
                      refine R_aload_n dX11_drawMove_23 rfl (?_ : RR _ _ _ _ 24 _ _ _ _)
                      refine R_aload_n dX11_drawMove_24 rfl (?_ : RR _ _ _ _ 25 _ _ _ _)
                      refine R_getr dX11_drawMove_25 flX11_36 cok_11 rfl (by decide) (?_ : RR _ _ _ _ 28 _ _ _ _)
                      refine R_geti (z := 2) dX11_drawMove_28 flX11_349 cok_9 rfl (by decide) rfl (fun q28 => (?_ : RR _ _ _ _ 31 _ _ _ _))
                      rw [g14b] at q28 ⊢
                      refine R_cVi1 dX11_drawMove_31 mvX11_draw mlX11_404 (by decide) (by decide) (Nat.le_of_ble_eq_true rfl) (Nat.le_of_ble_eq_true rfl) (hD2) (?_ : RR _ _ _ _ 34 _ _ _ _)
                      refine R_istore_n dX11_drawMove_34 (Nat.le_of_ble_eq_true rfl) (?_ : RR _ _ _ _ 35 [_, _, _] _ _ _)
                      refine R_aload_n dX11_drawMove_35 rfl (?_ : RR _ _ _ _ 36 _ _ _ _)
                      refine R_getr dX11_drawMove_36 flX11_43 cok_11 rfl (by decide) (?_ : RR _ _ _ _ 39 _ _ _ _)
                      refine R_iload_n dX11_drawMove_39 rfl (?_ : RR _ _ _ _ 40 _ _ _ _)
                      refine R_cVi1 dX11_drawMove_40 mvX9_carries mlX11_330 (by decide) (by decide) (Nat.le_of_ble_eq_true rfl) (Nat.le_of_ble_eq_true rfl) (T_X9_carries (hs := by rw [esp]; omega)) (?_ : RR _ _ _ _ 43 _ _ _ _)
                      rw [hcar, if_pos r1]
                      refine R_if_eq (t := 69) dX11_drawMove_43 rfl (fun c43 => ?_) (fun c43 => ?_)
                      · exfalso; omega
                      refine R_aload_n dX11_drawMove_46 rfl (?_ : RR _ _ _ _ 47 _ _ _ _)
                      refine R_getr dX11_drawMove_47 flX11_43 cok_11 rfl (by decide) (?_ : RR _ _ _ _ 50 _ _ _ _)
                      refine R_getr dX11_drawMove_50 flX11_183 cok_9 rfl (by decide) (?_ : RR _ _ _ _ 53 _ _ _ _)
                      refine R_iload_n dX11_drawMove_53 rfl (?_ : RR _ _ _ _ 54 _ _ _ _)
                      refine R_iald dX11_drawMove_54 (fun q54 => (?_ : RR _ _ _ _ 55 _ _ _ _))
                      rw [g26] at q54 ⊢
                      refine R_iconst dX11_drawMove_55 (?_ : RR _ _ _ _ 56 _ _ _ _)
                      refine R_icmp_eq (t := 69) dX11_drawMove_56 rfl (fun c56 => ?_) (fun c56 => ?_)
                      rotate_left
                      · exfalso; omega
                      exact R_return dX11_drawMove_69 trivial hq
                  · rw [if_neg (fun z => r1 z.1)] at hQ
                    have hq := hQ h6 l1 hF6 hc6 e06
                    refine R_aload_n dX11_drawMove_0 rfl (?_ : RR _ _ _ _ 1 _ _ _ _)
                    refine R_getr dX11_drawMove_1 flX11_29 cok_11 rfl (by decide) (?_ : RR _ _ _ _ 4 _ _ _ _)
                    refine R_geti (z := 0) dX11_drawMove_4 flX11_116 cok_2 rfl (by decide) rfl (fun q4 => (?_ : RR _ _ _ _ 7 _ _ _ _))
                    rw [g11] at q4 ⊢
                    refine R_if_ne (t := 11) dX11_drawMove_7 rfl (fun c7 => ?_) (fun c7 => ?_)
                    rotate_left
                    · exfalso; omega
                    refine R_aload_n dX11_drawMove_11 rfl (?_ : RR _ _ _ _ 12 _ _ _ _)
                    refine R_aload_n dX11_drawMove_12 rfl (?_ : RR _ _ _ _ 13 _ _ _ _)
                    refine R_getr dX11_drawMove_13 flX11_29 cok_11 rfl (by decide) (?_ : RR _ _ _ _ 16 _ _ _ _)
                    refine R_geti (z := 0) dX11_drawMove_16 flX11_116 cok_2 rfl (by decide) rfl (fun q16 => (?_ : RR _ _ _ _ 19 _ _ _ _))
                    rw [g11] at q16 ⊢
                    refine R_cVi1 dX11_drawMove_19 mvX11_draw mlX11_404 (by decide) (by decide) (Nat.le_of_ble_eq_true rfl) (Nat.le_of_ble_eq_true rfl) (hD1) (?_ : RR _ _ _ _ 22 _ _ _ _)
                    refine R_istore_n dX11_drawMove_22 (Nat.le_of_ble_eq_true rfl) (?_ : RR _ _ _ _ 23 [_, _, _] _ _ _)
                    refine R_aload_n dX11_drawMove_23 rfl (?_ : RR _ _ _ _ 24 _ _ _ _)
                    refine R_aload_n dX11_drawMove_24 rfl (?_ : RR _ _ _ _ 25 _ _ _ _)
                    refine R_getr dX11_drawMove_25 flX11_36 cok_11 rfl (by decide) (?_ : RR _ _ _ _ 28 _ _ _ _)
                    refine R_geti (z := 2) dX11_drawMove_28 flX11_349 cok_9 rfl (by decide) rfl (fun q28 => (?_ : RR _ _ _ _ 31 _ _ _ _))
                    rw [g14b] at q28 ⊢
                    refine R_cVi1 dX11_drawMove_31 mvX11_draw mlX11_404 (by decide) (by decide) (Nat.le_of_ble_eq_true rfl) (Nat.le_of_ble_eq_true rfl) (hD2) (?_ : RR _ _ _ _ 34 _ _ _ _)
                    refine R_istore_n dX11_drawMove_34 (Nat.le_of_ble_eq_true rfl) (?_ : RR _ _ _ _ 35 [_, _, _] _ _ _)
                    refine R_aload_n dX11_drawMove_35 rfl (?_ : RR _ _ _ _ 36 _ _ _ _)
                    refine R_getr dX11_drawMove_36 flX11_43 cok_11 rfl (by decide) (?_ : RR _ _ _ _ 39 _ _ _ _)
                    refine R_iload_n dX11_drawMove_39 rfl (?_ : RR _ _ _ _ 40 _ _ _ _)
                    refine R_cVi1 dX11_drawMove_40 mvX9_carries mlX11_330 (by decide) (by decide) (Nat.le_of_ble_eq_true rfl) (Nat.le_of_ble_eq_true rfl) (T_X9_carries (hs := by rw [esp]; omega)) (?_ : RR _ _ _ _ 43 _ _ _ _)
                    rw [hcar, if_neg r1]
                    refine R_if_eq (t := 69) dX11_drawMove_43 rfl (fun c43 => ?_) (fun c43 => ?_)
                    rotate_left
                    · exfalso; omega
                    exact R_return dX11_drawMove_69 trivial hq
              refine R_iload_n dX11_nights_31 rfl (?_ : RR _ _ _ _ 32 _ _ _ _)
              refine R_iload_n dX11_nights_32 rfl (?_ : RR _ _ _ _ 33 _ _ _ _)
              refine R_icmp_ge (t := 104) dX11_nights_33 rfl (fun c33 => ?_) (fun c33 => ?_)
              · exfalso; omega
              refine R_aload_n dX11_nights_36 rfl (?_ : RR _ _ _ _ 37 _ _ _ _)
              refine R_iconst dX11_nights_37 (?_ : RR _ _ _ _ 38 _ _ _ _)
              refine R_cVi1 dX11_nights_38 mvX11_draw mlX11_404 (by decide) (by decide) (Nat.le_of_ble_eq_true rfl) (Nat.le_of_ble_eq_true rfl) (hT) (?_ : RR _ _ _ _ 41 _ _ _ _)
              refine R_istore dX11_nights_41 (Nat.le_of_ble_eq_true rfl) (?_ : RR _ _ _ _ 43 [_, _, _, _, _] _ _ _)
              refine R_iload dX11_nights_43 rfl (?_ : RR _ _ _ _ 45 _ _ _ _)
              refine R_iconst dX11_nights_45 (?_ : RR _ _ _ _ 46 _ _ _ _)
              refine R_icmp_ge (t := 77) dX11_nights_46 rfl (fun c46 => ?_) (fun c46 => ?_)
              rotate_left
              · exfalso; omega
              refine R_iload dX11_nights_77 rfl (?_ : RR _ _ _ _ 79 _ _ _ _)
              refine R_iconst dX11_nights_79 (?_ : RR _ _ _ _ 80 _ _ _ _)
              refine R_icmp_ne (t := 94) dX11_nights_80 rfl (fun c80 => ?_) (fun c80 => ?_)
              rotate_left
              · exfalso; omega
              refine R_aload_n dX11_nights_94 rfl (?_ : RR _ _ _ _ 95 _ _ _ _)
              refine R_qV0 dX11_nights_95 mvX11_drawMove mlX11_408 (by decide) (by decide) (Nat.le_of_ble_eq_true rfl) (Nat.le_of_ble_eq_true rfl) (hM) (fun r9 g9 hq9 => (?_ : RR _ _ _ _ 98 _ _ _ _))
              obtain ⟨rfl, h5, l5, rfl, hf5, hc5, hr5⟩ := hq9
              show RR _ _ _ _ _ _ [] _ _
              refine R_iinc dX11_nights_98 rfl (Nat.le_of_ble_eq_true rfl) (?_ : RR _ _ _ _ 101 [_, _, _, _, _] _ _ _)
              refine R_goto (t := 31) dX11_nights_101 rfl (?_ : RR _ _ _ _ 31 _ _ _ _)
              exact IH h5 _ l5 hf5 hc5 hr5
      have k1 := (tri hs).1
      rw [← hXe] at k1
      refine R_iload_n dX11_nights_0 rfl (?_ : RR _ _ _ _ 1 _ _ _ _)
      refine R_iconst dX11_nights_1 (?_ : RR _ _ _ _ 2 _ _ _ _)
      refine R_icmp_lt (t := 11) dX11_nights_2 rfl (fun c2 => ?_) (fun c2 => ?_)
      · exfalso; omega
      refine R_iload_n dX11_nights_5 rfl (?_ : RR _ _ _ _ 6 _ _ _ _)
      refine R_bipush dX11_nights_6 rfl (?_ : RR _ _ _ _ 8 _ _ _ _)
      refine R_icmp_le (t := 13) dX11_nights_8 rfl (fun c8 => ?_) (fun c8 => ?_)
      rotate_left
      · exfalso; omega
      refine R_aload_n dX11_nights_13 rfl (?_ : RR _ _ _ _ 14 _ _ _ _)
      refine R_getr dX11_nights_14 flX11_43 cok_11 rfl (by decide) (?_ : RR _ _ _ _ 17 _ _ _ _)
      refine R_aload_n dX11_nights_17 rfl (?_ : RR _ _ _ _ 18 _ _ _ _)
      refine R_getr dX11_nights_18 flX11_36 cok_11 rfl (by decide) (?_ : RR _ _ _ _ 21 _ _ _ _)
      refine R_cVv1 dX11_nights_21 mvX9_copyFrom mlX11_231 (by decide) (by decide) (Nat.le_of_ble_eq_true rfl) (Nat.le_of_ble_eq_true rfl) (T_X9_copyFrom) (?_ : RR _ _ _ _ 24 _ _ _ _)
      refine R_aload_n dX11_nights_24 rfl (?_ : RR _ _ _ _ 25 _ _ _ _)
      refine R_iload_n dX11_nights_25 rfl (?_ : RR _ _ _ _ 26 _ _ _ _)
      refine R_puti (zk := 14) dX11_nights_26 flX11_401 cok_11 (by decide) (fun q hq => by cases hq; rfl) rfl (?_ : RR _ _ _ _ 29 _ _ _ _)
      refine R_iconst dX11_nights_29 (?_ : RR _ _ _ _ 30 _ _ _ _)
      refine R_istore_n dX11_nights_30 (Nat.le_of_ble_eq_true rfl) (?_ : RR _ _ _ _ 31 [_, _, _, _, _] _ _ _)
      exact L n 0 _ _ len (by omega) (fun x qx => by rw [rup_n (by omega), trC_n (by omega)]) (Cpl_fr k1 (fun a a1 a2 => rup_n (by omega))) (by rw [rup_s, fup_s]; rfl)
    · show RR _ _ _ _ _ [pR 147, pI s, pI n, pU, pU, pU, pU, pU] _ _ _
      have E154 : h3 154 = h 154 := e 154 (by omega)
      have L : ∀ (j i : Nat) (h1 : Nat → Int → Int) (w4 w5 w6 w7 : PV), i + j = n → mlr h3 h1 → h1 155 = (nSi X (h 154, s) i).1 → h1 147 46 = (nSi X (h 154, s) i).2 → RR mX12_nights 9 0 0 30 [pR 147, pI s, pI n, pI i, w4, w5, w6, w7] [] (shp0, rf0, h1) (mQ h3 (oMn X F - oMn X (h 154)) (some [F 1, F 0])) := by
        intro j
        induction j with
        | zero =>
          intro i h1 w4 w5 w6 w7 hi hF he hr
          obtain rfl : i = n := by omega
          rw [← hF9] at he
          have g5 : h1 147 5 = np := by rw [hF.2.1 5 (by omega) (by omega) (by omega), e 147 (by omega)]; exact h5
          have g154 : h1 154 = h 154 := by rw [hF.1 154 (by omega) (by omega) (by omega) (by omega) (by omega)]; exact E154
          have hq := mQ_tm (z := oMn X F - oMn X (h 154)) (L := [F 0, F 1]) (L' := [F 1, F 0]) (mq_mlr hs e hF) rfl
          unfold oMn at hq hb1 hb2 ⊢
          rw [hXP] at hq hb1 hb2 ⊢
          refine R_iload_n dX12_nights_30 rfl (?_ : RR _ _ _ _ 31 _ _ _ _)
          refine R_iload_n dX12_nights_31 rfl (?_ : RR _ _ _ _ 32 _ _ _ _)
          refine R_icmp_ge (t := 176) dX12_nights_32 rfl (fun c32 => ?_) (fun c32 => ?_)
          rotate_left
          · exfalso; omega
          refine R_aload_n dX12_nights_176 rfl (?_ : RR _ _ _ _ 177 _ _ _ _)
          refine R_iconst dX12_nights_177 (?_ : RR _ _ _ _ 178 _ _ _ _)
          refine R_puti (zk := 1) dX12_nights_178 flX12_113 cok_12 (by decide) (fun q hq => by cases hq; rfl) rfl (?_ : RR _ _ _ _ 181 _ _ _ _)
          show RR _ _ _ _ _ _ _ (shp0, rf0, tmR h1 []) _
          refine R_aload_n dX12_nights_181 rfl (?_ : RR _ _ _ _ 182 _ _ _ _)
          refine R_aload_n dX12_nights_182 rfl (?_ : RR _ _ _ _ 183 _ _ _ _)
          refine R_getr dX12_nights_183 flX12_36 cok_12 rfl (by decide) (?_ : RR _ _ _ _ 186 _ _ _ _)
          refine R_iconst dX12_nights_186 (?_ : RR _ _ _ _ 187 _ _ _ _)
          refine R_iald dX12_nights_187 (fun q187 => (?_ : RR _ _ _ _ 188 _ _ _ _))
          rw [tmR_n (by omega) (by omega), he] at q187 ⊢
          refine R_i2l dX12_nights_188 (by first | assumption | omega) (?_ : RR _ _ _ _ 189 _ _ _ _)
          refine R_cVv1 dX12_nights_189 mvX12_enters mlX12_116 (by decide) (by decide) (Nat.le_of_ble_eq_true rfl) (Nat.le_of_ble_eq_true rfl) (T_tma (by simp) (by omega)) (?_ : RR _ _ _ _ 192 _ _ _ _)
          refine R_aload_n dX12_nights_192 rfl (?_ : RR _ _ _ _ 193 _ _ _ _)
          refine R_aload_n dX12_nights_193 rfl (?_ : RR _ _ _ _ 194 _ _ _ _)
          refine R_getr dX12_nights_194 flX12_36 cok_12 rfl (by decide) (?_ : RR _ _ _ _ 197 _ _ _ _)
          refine R_iconst dX12_nights_197 (?_ : RR _ _ _ _ 198 _ _ _ _)
          refine R_iald dX12_nights_198 (fun q198 => (?_ : RR _ _ _ _ 199 _ _ _ _))
          rw [tmR_n (by omega) (by omega), he] at q198 ⊢
          refine R_i2l dX12_nights_199 (by first | assumption | omega) (?_ : RR _ _ _ _ 200 _ _ _ _)
          refine R_cVv1 dX12_nights_200 mvX12_enters mlX12_116 (by decide) (by decide) (Nat.le_of_ble_eq_true rfl) (Nat.le_of_ble_eq_true rfl) (T_tma (by simp) (by omega)) (?_ : RR _ _ _ _ 203 _ _ _ _)
          refine R_aload_n dX12_nights_203 rfl (?_ : RR _ _ _ _ 204 _ _ _ _)
          refine R_aload_n dX12_nights_204 rfl (?_ : RR _ _ _ _ 205 _ _ _ _)
          refine R_getr dX12_nights_205 flX12_36 cok_12 rfl (by decide) (?_ : RR _ _ _ _ 208 _ _ _ _)
          refine R_cVi1 dX12_nights_208 mvX12_outMany mlX12_410 (by decide) (by decide) (Nat.le_of_ble_eq_true rfl) (Nat.le_of_ble_eq_true rfl) (T_X12_outMany (np := np) (by rw [tmR_j (by omega)]; exact g5)) (?_ : RR _ _ _ _ 211 _ _ _ _)
          rw [tmR_n (by omega) (by omega), he]
          refine R_aload_n dX12_nights_211 rfl (?_ : RR _ _ _ _ 212 _ _ _ _)
          refine R_aload_n dX12_nights_212 rfl (?_ : RR _ _ _ _ 213 _ _ _ _)
          refine R_getr dX12_nights_213 flX12_33 cok_12 rfl (by decide) (?_ : RR _ _ _ _ 216 _ _ _ _)
          refine R_cVi1 dX12_nights_216 mvX12_outMany mlX12_410 (by decide) (by decide) (Nat.le_of_ble_eq_true rfl) (Nat.le_of_ble_eq_true rfl) (T_X12_outMany (np := np) (by rw [tmR_j (by omega)]; exact g5)) (?_ : RR _ _ _ _ 219 _ _ _ _)
          rw [tmR_n (by omega) (by omega), g154]
          refine R_isub dX12_nights_219 (?_ : RR _ _ _ _ 220 _ _ _ _)
          exact R_ireturn dX12_nights_220 trivial hq
        | succ j ih =>
          intro i h1 w4 w5 w6 w7 hi hF he hr
          obtain ⟨o1, o2, o3⟩ := hO i
          have e9 : nSi X (h 154, s) (i + 1) = nS X (nSi X (h 154, s) i) := rfl
          have IH := fun h1 w4 w5 w6 w7 => ih (i + 1) h1 w4 w5 w6 w7 (by omega)
          rw [e9] at IH
          have o2 : (nSi X (h 154, s) i).1 1 ≤ h 154 1 + 9 * i := o2
          have o3 : oor (nSi X (h 154, s) i).1 (h 154) := o3
          obtain ⟨y1, y2, y3⟩ := nS_ok (w := nSi X (h 154, s) i) hX' (by rw [hXP, hXC]; exact hpc) o1
          generalize nSi X (h 154, s) i = wi at he hr o1 o2 o3 IH y1 y2 y3
          have y3 : oor (nS X wi).1 (h 154) := oor_tr y3 o3
          have b5 := dR_b (s := dN wi.2) (n := 5) (by omega)
          have hT := T_X12_draws (h := h1) (n := 5) (by omega)
          rw [hr, show (((5 : Nat)) : Int) = 5 from rfl] at hT
          obtain ⟨h2, hh2⟩ : ∃ h2, h2 = rup h1 147 (fup (h1 147) 46 (dN wi.2)) := ⟨_, rfl⟩
          rw [← hh2] at hT
          have hF2 : mlr h3 h2 := by rw [hh2]; exact mlr_46 hF
          have he2 : h2 155 = wi.1 := by rw [hh2, rup_n (by omega)]; exact he
          have hr2 : h2 147 46 = dN wi.2 := by rw [hh2, rup_s, fup_s]
          obtain ⟨hB2, eX2⟩ := MBk_r hs hk e hF2 he2 (by rw [← hXe]; exact o1) (by omega)
          unfold nS at IH y3
          by_cases q1 : dR (dN wi.2) 5 < 3
          · rw [if_pos q1] at IH y3
            have hT2 := M_runs hB2
            rw [eX2, ← hXe, he2] at hT2
            refine R_iload_n dX12_nights_30 rfl (?_ : RR _ _ _ _ 31 _ _ _ _)
            refine R_iload_n dX12_nights_31 rfl (?_ : RR _ _ _ _ 32 _ _ _ _)
            refine R_icmp_ge (t := 176) dX12_nights_32 rfl (fun c32 => ?_) (fun c32 => ?_)
            · exfalso; omega
            refine R_aload_n dX12_nights_35 rfl (?_ : RR _ _ _ _ 36 _ _ _ _)
            refine R_iconst dX12_nights_36 (?_ : RR _ _ _ _ 37 _ _ _ _)
            refine R_cVi1 dX12_nights_37 mvX12_draws mlX12_476 (by decide) (by decide) (Nat.le_of_ble_eq_true rfl) (Nat.le_of_ble_eq_true rfl) (hT) (?_ : RR _ _ _ _ 40 _ _ _ _)
            refine R_istore dX12_nights_40 (Nat.le_of_ble_eq_true rfl) (?_ : RR _ _ _ _ 42 [_, _, _, _, _, _, _, _] _ _ _)
            refine R_iload dX12_nights_42 rfl (?_ : RR _ _ _ _ 44 _ _ _ _)
            refine R_iconst dX12_nights_44 (?_ : RR _ _ _ _ 45 _ _ _ _)
            refine R_icmp_ge (t := 60) dX12_nights_45 rfl (fun c45 => ?_) (fun c45 => ?_)
            · exfalso; omega
            refine R_aload_n dX12_nights_48 rfl (?_ : RR _ _ _ _ 49 _ _ _ _)
            refine R_aload_n dX12_nights_49 rfl (?_ : RR _ _ _ _ 50 _ _ _ _)
            refine R_getr dX12_nights_50 flX12_36 cok_12 rfl (by decide) (?_ : RR _ _ _ _ 53 _ _ _ _)
            refine R_qV1 dX12_nights_53 mvX12_runs mlX12_373 (by decide) (by decide) (Nat.le_of_ble_eq_true rfl) (Nat.le_of_ble_eq_true rfl) (hT2) (fun r9 g9 hq9 => (?_ : RR _ _ _ _ 56 _ _ _ _))
            obtain ⟨⟨h6, rfl, m1, m2, rfl, m3, m4⟩, -⟩ := hq9
            show RR _ _ _ _ _ _ [pI _] _ _
            refine R_pop dX12_nights_56 (fun _ => rfl) (?_ : RR _ _ _ _ 57 _ _ _ _)
            refine R_goto (t := 170) dX12_nights_57 rfl (?_ : RR _ _ _ _ 170 _ _ _ _)
            refine R_iinc dX12_nights_170 rfl (Nat.le_of_ble_eq_true rfl) (?_ : RR _ _ _ _ 173 [_, _, _, _, _, _, _, _] _ _ _)
            refine R_goto (t := 30) dX12_nights_173 rfl (?_ : RR _ _ _ _ 30 _ _ _ _)
            exact IH h6 _ _ _ _ (mlr_tn hF2 m1 m3 m4 (by rw [m2, E154]; exact y3)) m2 (by rw [m3 46 (by omega)]; exact hr2)
          · rw [if_neg q1] at IH y3
            by_cases q2 : dR (dN wi.2) 5 = 3
            · rw [if_pos q2] at IH y3
              have hT2 := M_couples hB2
              rw [eX2, ← hXe, he2] at hT2
              refine R_iload_n dX12_nights_30 rfl (?_ : RR _ _ _ _ 31 _ _ _ _)
              refine R_iload_n dX12_nights_31 rfl (?_ : RR _ _ _ _ 32 _ _ _ _)
              refine R_icmp_ge (t := 176) dX12_nights_32 rfl (fun c32 => ?_) (fun c32 => ?_)
              · exfalso; omega
              refine R_aload_n dX12_nights_35 rfl (?_ : RR _ _ _ _ 36 _ _ _ _)
              refine R_iconst dX12_nights_36 (?_ : RR _ _ _ _ 37 _ _ _ _)
              refine R_cVi1 dX12_nights_37 mvX12_draws mlX12_476 (by decide) (by decide) (Nat.le_of_ble_eq_true rfl) (Nat.le_of_ble_eq_true rfl) (hT) (?_ : RR _ _ _ _ 40 _ _ _ _)
              refine R_istore dX12_nights_40 (Nat.le_of_ble_eq_true rfl) (?_ : RR _ _ _ _ 42 [_, _, _, _, _, _, _, _] _ _ _)
              refine R_iload dX12_nights_42 rfl (?_ : RR _ _ _ _ 44 _ _ _ _)
              refine R_iconst dX12_nights_44 (?_ : RR _ _ _ _ 45 _ _ _ _)
              refine R_icmp_ge (t := 60) dX12_nights_45 rfl (fun c45 => ?_) (fun c45 => ?_)
              rotate_left
              · exfalso; omega
              refine R_iload dX12_nights_60 rfl (?_ : RR _ _ _ _ 62 _ _ _ _)
              refine R_iconst dX12_nights_62 (?_ : RR _ _ _ _ 63 _ _ _ _)
              refine R_icmp_ne (t := 78) dX12_nights_63 rfl (fun c63 => ?_) (fun c63 => ?_)
              · exfalso; omega
              refine R_aload_n dX12_nights_66 rfl (?_ : RR _ _ _ _ 67 _ _ _ _)
              refine R_aload_n dX12_nights_67 rfl (?_ : RR _ _ _ _ 68 _ _ _ _)
              refine R_getr dX12_nights_68 flX12_36 cok_12 rfl (by decide) (?_ : RR _ _ _ _ 71 _ _ _ _)
              refine R_qV1 dX12_nights_71 mvX12_couples mlX12_380 (by decide) (by decide) (Nat.le_of_ble_eq_true rfl) (Nat.le_of_ble_eq_true rfl) (hT2) (fun r9 g9 hq9 => (?_ : RR _ _ _ _ 74 _ _ _ _))
              obtain ⟨h6, rfl, m1, m2, rfl, m3, m4⟩ := hq9
              show RR _ _ _ _ _ _ [pI _] _ _
              refine R_pop dX12_nights_74 (fun _ => rfl) (?_ : RR _ _ _ _ 75 _ _ _ _)
              refine R_goto (t := 170) dX12_nights_75 rfl (?_ : RR _ _ _ _ 170 _ _ _ _)
              refine R_iinc dX12_nights_170 rfl (Nat.le_of_ble_eq_true rfl) (?_ : RR _ _ _ _ 173 [_, _, _, _, _, _, _, _] _ _ _)
              refine R_goto (t := 30) dX12_nights_173 rfl (?_ : RR _ _ _ _ 30 _ _ _ _)
              exact IH h6 _ _ _ _ (mlr_tn hF2 m1 m3 m4 (by rw [m2, E154]; exact y3)) m2 (by rw [m3 46 (by omega)]; exact hr2)
            · rw [if_neg q2] at IH y3
              have g5 : h2 147 5 = np := by rw [hF2.2.1 5 (by omega) (by omega) (by omega), e 147 (by omega)]; exact h5
              have g4 : h2 147 4 = nc := by rw [hF2.2.1 4 (by omega) (by omega) (by omega), e 147 (by omega)]; exact h4c
              by_cases q3 : xP X = 0
              · rw [if_pos q3] at IH y3
                rw [hXP] at q3
                refine R_iload_n dX12_nights_30 rfl (?_ : RR _ _ _ _ 31 _ _ _ _)
                refine R_iload_n dX12_nights_31 rfl (?_ : RR _ _ _ _ 32 _ _ _ _)
                refine R_icmp_ge (t := 176) dX12_nights_32 rfl (fun c32 => ?_) (fun c32 => ?_)
                · exfalso; omega
                refine R_aload_n dX12_nights_35 rfl (?_ : RR _ _ _ _ 36 _ _ _ _)
                refine R_iconst dX12_nights_36 (?_ : RR _ _ _ _ 37 _ _ _ _)
                refine R_cVi1 dX12_nights_37 mvX12_draws mlX12_476 (by decide) (by decide) (Nat.le_of_ble_eq_true rfl) (Nat.le_of_ble_eq_true rfl) (hT) (?_ : RR _ _ _ _ 40 _ _ _ _)
                refine R_istore dX12_nights_40 (Nat.le_of_ble_eq_true rfl) (?_ : RR _ _ _ _ 42 [_, _, _, _, _, _, _, _] _ _ _)
                refine R_iload dX12_nights_42 rfl (?_ : RR _ _ _ _ 44 _ _ _ _)
                refine R_iconst dX12_nights_44 (?_ : RR _ _ _ _ 45 _ _ _ _)
                refine R_icmp_ge (t := 60) dX12_nights_45 rfl (fun c45 => ?_) (fun c45 => ?_)
                rotate_left
                · exfalso; omega
                refine R_iload dX12_nights_60 rfl (?_ : RR _ _ _ _ 62 _ _ _ _)
                refine R_iconst dX12_nights_62 (?_ : RR _ _ _ _ 63 _ _ _ _)
                refine R_icmp_ne (t := 78) dX12_nights_63 rfl (fun c63 => ?_) (fun c63 => ?_)
                rotate_left
                · exfalso; omega
                refine R_aload_n dX12_nights_78 rfl (?_ : RR _ _ _ _ 79 _ _ _ _)
                refine R_geti (z := 5) dX12_nights_79 flX12_127 cok_12 rfl (by decide) rfl (fun q79 => (?_ : RR _ _ _ _ 82 _ _ _ _))
                rw [g5] at q79 ⊢
                refine R_if_le (t := 170) dX12_nights_82 rfl (fun c82 => ?_) (fun c82 => ?_)
                rotate_left
                · exfalso; omega
                refine R_iinc dX12_nights_170 rfl (Nat.le_of_ble_eq_true rfl) (?_ : RR _ _ _ _ 173 [_, _, _, _, _, _, _, _] _ _ _)
                refine R_goto (t := 30) dX12_nights_173 rfl (?_ : RR _ _ _ _ 30 _ _ _ _)
                exact IH h2 _ _ _ _ hF2 he2 hr2
              · rw [if_neg q3] at IH y3
                rw [hXP] at q3
                rw [hXP, hXC] at IH y3
                have b1 := dR_b (s := dN (dN wi.2)) (n := np) (by omega)
                have b2 := dR_b (s := dN (dN (dN wi.2))) (n := nc) (by omega)
                obtain ⟨p, hp⟩ := Int.eq_ofNat_of_zero_le b1.1
                obtain ⟨c, hcc⟩ := Int.eq_ofNat_of_zero_le b2.1
                rw [hp, hcc, Int.toNat_natCast] at IH y3
                have hD1 := T_X12_draws (h := h2) (n := np) (by omega)
                rw [hr2, hp] at hD1
                have hD2 := T_X12_draws (h := rup h2 147 (fup (h2 147) 46 (dN (dN wi.2)))) (n := nc) (by omega)
                rw [rup_s, fup_s, hcc, rup_rup, fup_fup] at hD2
                obtain ⟨h6, hh6⟩ : ∃ h6, h6 = rup h2 147 (fup (h2 147) 46 (dN (dN (dN wi.2)))) := ⟨_, rfl⟩
                rw [← hh6] at hD2
                have hF6 : mlr h3 h6 := by rw [hh6]; exact mlr_46 hF2
                have he6 : h6 155 = wi.1 := by rw [hh6, rup_n (by omega)]; exact he2
                have hr6 : h6 147 46 = dN (dN (dN wi.2)) := by rw [hh6, rup_s, fup_s]
                have g56 : h6 147 5 = np := by rw [hh6, rup_s, fup_n (by omega)]; exact g5
                have g4b : rup h2 147 (fup (h2 147) 46 (dN (dN wi.2))) 147 4 = nc := by rw [rup_s, fup_n (by omega)]; exact g4
                obtain ⟨ord, ln, fo⟩ := id o1
                have hsr9 : ∀ j : Nat, j < np → mS (h6 155) j = -1 ∨ (0 ≤ mS (h6 155) j ∧ mS (h6 155) j < 6) := fun j hj => by
                  rw [he6]
                  have := fo.2.2.2.2.2 j (by rw [hXP]; exact hj)
                  rw [hXC] at this
                  omega
                have hmp := fOK_pl fo (c := (c : Int)) (by omega) (by rw [hXC]; omega)
                have fl := fo.2.2.1
                rw [hXC] at fl
                have hbit : (bset (ridP wi.1) np).testBit p = ridP wi.1 p := by rw [bset_bit, decide_eq_true (show p < np by omega), Bool.true_and]
                by_cases r1 : ridP wi.1 p = true
                · by_cases r2 : 0 ≤ mP wi.1 c
                  · rw [if_pos ⟨r1, r2⟩] at IH y3
                    refine R_iload_n dX12_nights_30 rfl (?_ : RR _ _ _ _ 31 _ _ _ _)
                    refine R_iload_n dX12_nights_31 rfl (?_ : RR _ _ _ _ 32 _ _ _ _)
                    refine R_icmp_ge (t := 176) dX12_nights_32 rfl (fun c32 => ?_) (fun c32 => ?_)
                    · exfalso; omega
                    refine R_aload_n dX12_nights_35 rfl (?_ : RR _ _ _ _ 36 _ _ _ _)
                    refine R_iconst dX12_nights_36 (?_ : RR _ _ _ _ 37 _ _ _ _)
                    refine R_cVi1 dX12_nights_37 mvX12_draws mlX12_476 (by decide) (by decide) (Nat.le_of_ble_eq_true rfl) (Nat.le_of_ble_eq_true rfl) (hT) (?_ : RR _ _ _ _ 40 _ _ _ _)
                    refine R_istore dX12_nights_40 (Nat.le_of_ble_eq_true rfl) (?_ : RR _ _ _ _ 42 [_, _, _, _, _, _, _, _] _ _ _)
                    refine R_iload dX12_nights_42 rfl (?_ : RR _ _ _ _ 44 _ _ _ _)
                    refine R_iconst dX12_nights_44 (?_ : RR _ _ _ _ 45 _ _ _ _)
                    refine R_icmp_ge (t := 60) dX12_nights_45 rfl (fun c45 => ?_) (fun c45 => ?_)
                    rotate_left
                    · exfalso; omega
                    refine R_iload dX12_nights_60 rfl (?_ : RR _ _ _ _ 62 _ _ _ _)
                    refine R_iconst dX12_nights_62 (?_ : RR _ _ _ _ 63 _ _ _ _)
                    refine R_icmp_ne (t := 78) dX12_nights_63 rfl (fun c63 => ?_) (fun c63 => ?_)
                    rotate_left
                    · exfalso; omega
                    refine R_aload_n dX12_nights_78 rfl (?_ : RR _ _ _ _ 79 _ _ _ _)
                    refine R_geti (z := 5) dX12_nights_79 flX12_127 cok_12 rfl (by decide) rfl (fun q79 => (?_ : RR _ _ _ _ 82 _ _ _ _))
                    rw [g5] at q79 ⊢
                    refine R_if_le (t := 170) dX12_nights_82 rfl (fun c82 => ?_) (fun c82 => ?_)
                    · exfalso; omega
                    refine R_aload_n dX12_nights_85 rfl (?_ : RR _ _ _ _ 86 _ _ _ _)
                    refine R_aload_n dX12_nights_86 rfl (?_ : RR _ _ _ _ 87 _ _ _ _)
                    refine R_geti (z := 5) dX12_nights_87 flX12_127 cok_12 rfl (by decide) rfl (fun q87 => (?_ : RR _ _ _ _ 90 _ _ _ _))
                    rw [g5] at q87 ⊢
                    refine R_cVi1 dX12_nights_90 mvX12_draws mlX12_476 (by decide) (by decide) (Nat.le_of_ble_eq_true rfl) (Nat.le_of_ble_eq_true rfl) (hD1) (?_ : RR _ _ _ _ 93 _ _ _ _)
                    refine R_istore dX12_nights_93 (Nat.le_of_ble_eq_true rfl) (?_ : RR _ _ _ _ 95 [_, _, _, _, _, _, _, _] _ _ _)
                    refine R_aload_n dX12_nights_95 rfl (?_ : RR _ _ _ _ 96 _ _ _ _)
                    refine R_aload_n dX12_nights_96 rfl (?_ : RR _ _ _ _ 97 _ _ _ _)
                    refine R_geti (z := 4) dX12_nights_97 flX12_124 cok_12 rfl (by decide) rfl (fun q97 => (?_ : RR _ _ _ _ 100 _ _ _ _))
                    rw [g4b] at q97 ⊢
                    refine R_cVi1 dX12_nights_100 mvX12_draws mlX12_476 (by decide) (by decide) (Nat.le_of_ble_eq_true rfl) (Nat.le_of_ble_eq_true rfl) (hD2) (?_ : RR _ _ _ _ 103 _ _ _ _)
                    refine R_istore dX12_nights_103 (Nat.le_of_ble_eq_true rfl) (?_ : RR _ _ _ _ 105 [_, _, _, _, _, _, _, _] _ _ _)
                    refine R_aload_n dX12_nights_105 rfl (?_ : RR _ _ _ _ 106 _ _ _ _)
                    refine R_aload_n dX12_nights_106 rfl (?_ : RR _ _ _ _ 107 _ _ _ _)
                    refine R_getr dX12_nights_107 flX12_36 cok_12 rfl (by decide) (?_ : RR _ _ _ _ 110 _ _ _ _)
                    refine R_cVi1 dX12_nights_110 mvX12_riding mlX12_303 (by decide) (by decide) (Nat.le_of_ble_eq_true rfl) (Nat.le_of_ble_eq_true rfl) (T_X12_riding (np := np) hsr9 g56) (?_ : RR _ _ _ _ 113 _ _ _ _)
                    rw [he6]
                    refine R_iload dX12_nights_113 rfl (?_ : RR _ _ _ _ 115 _ _ _ _)
                    refine R_cSi2 dX12_nights_115 msX12_has mlX12_288 (by decide) (Nat.le_of_ble_eq_true rfl) (Nat.le_of_ble_eq_true rfl) (T_X12_has (bset_31 (by omega))) (?_ : RR _ _ _ _ 118 _ _ _ _)
                    rw [hbit, if_pos r1]
                    refine R_if_eq (t := 137) dX12_nights_118 rfl (fun c118 => ?_) (fun c118 => ?_)
                    · exfalso; omega
                    refine R_aload_n dX12_nights_121 rfl (?_ : RR _ _ _ _ 122 _ _ _ _)
                    refine R_getr dX12_nights_122 flX12_36 cok_12 rfl (by decide) (?_ : RR _ _ _ _ 125 _ _ _ _)
                    refine R_iload dX12_nights_125 rfl (?_ : RR _ _ _ _ 127 _ _ _ _)
                    refine R_cSi2 dX12_nights_127 msX12_placeOf mlX12_130 (by decide) (Nat.le_of_ble_eq_true rfl) (Nat.le_of_ble_eq_true rfl) (T_X12_placeOf) (?_ : RR _ _ _ _ 130 _ _ _ _)
                    rw [he6]
                    refine R_if_lt (t := 137) dX12_nights_130 rfl (fun c130 => ?_) (fun c130 => ?_)
                    · exfalso; omega
                    refine R_iconst dX12_nights_133 (?_ : RR _ _ _ _ 134 _ _ _ _)
                    refine R_goto (t := 138) dX12_nights_134 rfl (?_ : RR _ _ _ _ 138 _ _ _ _)
                    refine R_istore dX12_nights_138 (Nat.le_of_ble_eq_true rfl) (?_ : RR _ _ _ _ 140 [_, _, _, _, _, _, _, _] _ _ _)
                    refine R_aload_n dX12_nights_140 rfl (?_ : RR _ _ _ _ 141 _ _ _ _)
                    refine R_getr dX12_nights_141 flX12_36 cok_12 rfl (by decide) (?_ : RR _ _ _ _ 144 _ _ _ _)
                    refine R_bipush dX12_nights_144 rfl (?_ : RR _ _ _ _ 146 _ _ _ _)
                    refine R_iload dX12_nights_146 rfl (?_ : RR _ _ _ _ 148 _ _ _ _)
                    refine R_iadd dX12_nights_148 (?_ : RR _ _ _ _ 149 _ _ _ _)
                    refine R_iload dX12_nights_149 rfl (?_ : RR _ _ _ _ 151 _ _ _ _)
                    refine R_if_eq (t := 159) dX12_nights_151 rfl (fun c151 => ?_) (fun c151 => ?_)
                    · exfalso; omega
                    refine R_iload dX12_nights_154 rfl (?_ : RR _ _ _ _ 156 _ _ _ _)
                    refine R_goto (t := 169) dX12_nights_156 rfl (?_ : RR _ _ _ _ 169 _ _ _ _)
                    refine R_iast dX12_nights_169 (?_ : RR _ _ _ _ 170 _ _ _ _)
                    rw [he6]
                    refine R_iinc dX12_nights_170 rfl (Nat.le_of_ble_eq_true rfl) (?_ : RR _ _ _ _ 173 [_, _, _, _, _, _, _, _] _ _ _)
                    refine R_goto (t := 30) dX12_nights_173 rfl (?_ : RR _ _ _ _ 30 _ _ _ _)
                    exact IH _ _ _ _ _ (mlr_155 hF6 (by rw [E154]; exact y3)) rup_s (by rw [rup_n (by omega)]; exact hr6)
                  · rw [if_neg (fun z => r2 z.2)] at IH y3
                    refine R_iload_n dX12_nights_30 rfl (?_ : RR _ _ _ _ 31 _ _ _ _)
                    refine R_iload_n dX12_nights_31 rfl (?_ : RR _ _ _ _ 32 _ _ _ _)
                    refine R_icmp_ge (t := 176) dX12_nights_32 rfl (fun c32 => ?_) (fun c32 => ?_)
                    · exfalso; omega
                    refine R_aload_n dX12_nights_35 rfl (?_ : RR _ _ _ _ 36 _ _ _ _)
                    refine R_iconst dX12_nights_36 (?_ : RR _ _ _ _ 37 _ _ _ _)
                    refine R_cVi1 dX12_nights_37 mvX12_draws mlX12_476 (by decide) (by decide) (Nat.le_of_ble_eq_true rfl) (Nat.le_of_ble_eq_true rfl) (hT) (?_ : RR _ _ _ _ 40 _ _ _ _)
                    refine R_istore dX12_nights_40 (Nat.le_of_ble_eq_true rfl) (?_ : RR _ _ _ _ 42 [_, _, _, _, _, _, _, _] _ _ _)
                    refine R_iload dX12_nights_42 rfl (?_ : RR _ _ _ _ 44 _ _ _ _)
                    refine R_iconst dX12_nights_44 (?_ : RR _ _ _ _ 45 _ _ _ _)
                    refine R_icmp_ge (t := 60) dX12_nights_45 rfl (fun c45 => ?_) (fun c45 => ?_)
                    rotate_left
                    · exfalso; omega
                    refine R_iload dX12_nights_60 rfl (?_ : RR _ _ _ _ 62 _ _ _ _)
                    refine R_iconst dX12_nights_62 (?_ : RR _ _ _ _ 63 _ _ _ _)
                    refine R_icmp_ne (t := 78) dX12_nights_63 rfl (fun c63 => ?_) (fun c63 => ?_)
                    rotate_left
                    · exfalso; omega
                    refine R_aload_n dX12_nights_78 rfl (?_ : RR _ _ _ _ 79 _ _ _ _)
                    refine R_geti (z := 5) dX12_nights_79 flX12_127 cok_12 rfl (by decide) rfl (fun q79 => (?_ : RR _ _ _ _ 82 _ _ _ _))
                    rw [g5] at q79 ⊢
                    refine R_if_le (t := 170) dX12_nights_82 rfl (fun c82 => ?_) (fun c82 => ?_)
                    · exfalso; omega
                    refine R_aload_n dX12_nights_85 rfl (?_ : RR _ _ _ _ 86 _ _ _ _)
                    refine R_aload_n dX12_nights_86 rfl (?_ : RR _ _ _ _ 87 _ _ _ _)
                    refine R_geti (z := 5) dX12_nights_87 flX12_127 cok_12 rfl (by decide) rfl (fun q87 => (?_ : RR _ _ _ _ 90 _ _ _ _))
                    rw [g5] at q87 ⊢
                    refine R_cVi1 dX12_nights_90 mvX12_draws mlX12_476 (by decide) (by decide) (Nat.le_of_ble_eq_true rfl) (Nat.le_of_ble_eq_true rfl) (hD1) (?_ : RR _ _ _ _ 93 _ _ _ _)
                    refine R_istore dX12_nights_93 (Nat.le_of_ble_eq_true rfl) (?_ : RR _ _ _ _ 95 [_, _, _, _, _, _, _, _] _ _ _)
                    refine R_aload_n dX12_nights_95 rfl (?_ : RR _ _ _ _ 96 _ _ _ _)
                    refine R_aload_n dX12_nights_96 rfl (?_ : RR _ _ _ _ 97 _ _ _ _)
                    refine R_geti (z := 4) dX12_nights_97 flX12_124 cok_12 rfl (by decide) rfl (fun q97 => (?_ : RR _ _ _ _ 100 _ _ _ _))
                    rw [g4b] at q97 ⊢
                    refine R_cVi1 dX12_nights_100 mvX12_draws mlX12_476 (by decide) (by decide) (Nat.le_of_ble_eq_true rfl) (Nat.le_of_ble_eq_true rfl) (hD2) (?_ : RR _ _ _ _ 103 _ _ _ _)
                    refine R_istore dX12_nights_103 (Nat.le_of_ble_eq_true rfl) (?_ : RR _ _ _ _ 105 [_, _, _, _, _, _, _, _] _ _ _)
                    refine R_aload_n dX12_nights_105 rfl (?_ : RR _ _ _ _ 106 _ _ _ _)
                    refine R_aload_n dX12_nights_106 rfl (?_ : RR _ _ _ _ 107 _ _ _ _)
                    refine R_getr dX12_nights_107 flX12_36 cok_12 rfl (by decide) (?_ : RR _ _ _ _ 110 _ _ _ _)
                    refine R_cVi1 dX12_nights_110 mvX12_riding mlX12_303 (by decide) (by decide) (Nat.le_of_ble_eq_true rfl) (Nat.le_of_ble_eq_true rfl) (T_X12_riding (np := np) hsr9 g56) (?_ : RR _ _ _ _ 113 _ _ _ _)
                    rw [he6]
                    refine R_iload dX12_nights_113 rfl (?_ : RR _ _ _ _ 115 _ _ _ _)
                    refine R_cSi2 dX12_nights_115 msX12_has mlX12_288 (by decide) (Nat.le_of_ble_eq_true rfl) (Nat.le_of_ble_eq_true rfl) (T_X12_has (bset_31 (by omega))) (?_ : RR _ _ _ _ 118 _ _ _ _)
                    rw [hbit, if_pos r1]
                    refine R_if_eq (t := 137) dX12_nights_118 rfl (fun c118 => ?_) (fun c118 => ?_)
                    · exfalso; omega
                    refine R_aload_n dX12_nights_121 rfl (?_ : RR _ _ _ _ 122 _ _ _ _)
                    refine R_getr dX12_nights_122 flX12_36 cok_12 rfl (by decide) (?_ : RR _ _ _ _ 125 _ _ _ _)
                    refine R_iload dX12_nights_125 rfl (?_ : RR _ _ _ _ 127 _ _ _ _)
                    refine R_cSi2 dX12_nights_127 msX12_placeOf mlX12_130 (by decide) (Nat.le_of_ble_eq_true rfl) (Nat.le_of_ble_eq_true rfl) (T_X12_placeOf) (?_ : RR _ _ _ _ 130 _ _ _ _)
                    rw [he6]
                    refine R_if_lt (t := 137) dX12_nights_130 rfl (fun c130 => ?_) (fun c130 => ?_)
                    rotate_left
                    · exfalso; omega
                    refine R_iconst dX12_nights_137 (?_ : RR _ _ _ _ 138 _ _ _ _)
                    refine R_istore dX12_nights_138 (Nat.le_of_ble_eq_true rfl) (?_ : RR _ _ _ _ 140 [_, _, _, _, _, _, _, _] _ _ _)
                    refine R_aload_n dX12_nights_140 rfl (?_ : RR _ _ _ _ 141 _ _ _ _)
                    refine R_getr dX12_nights_141 flX12_36 cok_12 rfl (by decide) (?_ : RR _ _ _ _ 144 _ _ _ _)
                    refine R_bipush dX12_nights_144 rfl (?_ : RR _ _ _ _ 146 _ _ _ _)
                    refine R_iload dX12_nights_146 rfl (?_ : RR _ _ _ _ 148 _ _ _ _)
                    refine R_iadd dX12_nights_148 (?_ : RR _ _ _ _ 149 _ _ _ _)
                    refine R_iload dX12_nights_149 rfl (?_ : RR _ _ _ _ 151 _ _ _ _)
                    refine R_if_eq (t := 159) dX12_nights_151 rfl (fun c151 => ?_) (fun c151 => ?_)
                    rotate_left
                    · exfalso; omega
                    refine R_aload_n dX12_nights_159 rfl (?_ : RR _ _ _ _ 160 _ _ _ _)
                    refine R_getr dX12_nights_160 flX12_36 cok_12 rfl (by decide) (?_ : RR _ _ _ _ 163 _ _ _ _)
                    refine R_bipush dX12_nights_163 rfl (?_ : RR _ _ _ _ 165 _ _ _ _)
                    refine R_iload dX12_nights_165 rfl (?_ : RR _ _ _ _ 167 _ _ _ _)
                    refine R_iadd dX12_nights_167 (?_ : RR _ _ _ _ 168 _ _ _ _)
                    refine R_iald dX12_nights_168 (fun q168 => (?_ : RR _ _ _ _ 169 _ _ _ _))
                    refine R_iast dX12_nights_169 (?_ : RR _ _ _ _ 170 _ _ _ _)
                    rw [fup_self, rup_self]
                    refine R_iinc dX12_nights_170 rfl (Nat.le_of_ble_eq_true rfl) (?_ : RR _ _ _ _ 173 [_, _, _, _, _, _, _, _] _ _ _)
                    refine R_goto (t := 30) dX12_nights_173 rfl (?_ : RR _ _ _ _ 30 _ _ _ _)
                    exact IH h6 _ _ _ _ hF6 he6 hr6
                · rw [if_neg (fun z => r1 z.1)] at IH y3
                  refine R_iload_n dX12_nights_30 rfl (?_ : RR _ _ _ _ 31 _ _ _ _)
                  refine R_iload_n dX12_nights_31 rfl (?_ : RR _ _ _ _ 32 _ _ _ _)
                  refine R_icmp_ge (t := 176) dX12_nights_32 rfl (fun c32 => ?_) (fun c32 => ?_)
                  · exfalso; omega
                  refine R_aload_n dX12_nights_35 rfl (?_ : RR _ _ _ _ 36 _ _ _ _)
                  refine R_iconst dX12_nights_36 (?_ : RR _ _ _ _ 37 _ _ _ _)
                  refine R_cVi1 dX12_nights_37 mvX12_draws mlX12_476 (by decide) (by decide) (Nat.le_of_ble_eq_true rfl) (Nat.le_of_ble_eq_true rfl) (hT) (?_ : RR _ _ _ _ 40 _ _ _ _)
                  refine R_istore dX12_nights_40 (Nat.le_of_ble_eq_true rfl) (?_ : RR _ _ _ _ 42 [_, _, _, _, _, _, _, _] _ _ _)
                  refine R_iload dX12_nights_42 rfl (?_ : RR _ _ _ _ 44 _ _ _ _)
                  refine R_iconst dX12_nights_44 (?_ : RR _ _ _ _ 45 _ _ _ _)
                  refine R_icmp_ge (t := 60) dX12_nights_45 rfl (fun c45 => ?_) (fun c45 => ?_)
                  rotate_left
                  · exfalso; omega
                  refine R_iload dX12_nights_60 rfl (?_ : RR _ _ _ _ 62 _ _ _ _)
                  refine R_iconst dX12_nights_62 (?_ : RR _ _ _ _ 63 _ _ _ _)
                  refine R_icmp_ne (t := 78) dX12_nights_63 rfl (fun c63 => ?_) (fun c63 => ?_)
                  rotate_left
                  · exfalso; omega
                  refine R_aload_n dX12_nights_78 rfl (?_ : RR _ _ _ _ 79 _ _ _ _)
                  refine R_geti (z := 5) dX12_nights_79 flX12_127 cok_12 rfl (by decide) rfl (fun q79 => (?_ : RR _ _ _ _ 82 _ _ _ _))
                  rw [g5] at q79 ⊢
                  refine R_if_le (t := 170) dX12_nights_82 rfl (fun c82 => ?_) (fun c82 => ?_)
                  · exfalso; omega
                  refine R_aload_n dX12_nights_85 rfl (?_ : RR _ _ _ _ 86 _ _ _ _)
                  refine R_aload_n dX12_nights_86 rfl (?_ : RR _ _ _ _ 87 _ _ _ _)
                  refine R_geti (z := 5) dX12_nights_87 flX12_127 cok_12 rfl (by decide) rfl (fun q87 => (?_ : RR _ _ _ _ 90 _ _ _ _))
                  rw [g5] at q87 ⊢
                  refine R_cVi1 dX12_nights_90 mvX12_draws mlX12_476 (by decide) (by decide) (Nat.le_of_ble_eq_true rfl) (Nat.le_of_ble_eq_true rfl) (hD1) (?_ : RR _ _ _ _ 93 _ _ _ _)
                  refine R_istore dX12_nights_93 (Nat.le_of_ble_eq_true rfl) (?_ : RR _ _ _ _ 95 [_, _, _, _, _, _, _, _] _ _ _)
                  refine R_aload_n dX12_nights_95 rfl (?_ : RR _ _ _ _ 96 _ _ _ _)
                  refine R_aload_n dX12_nights_96 rfl (?_ : RR _ _ _ _ 97 _ _ _ _)
                  refine R_geti (z := 4) dX12_nights_97 flX12_124 cok_12 rfl (by decide) rfl (fun q97 => (?_ : RR _ _ _ _ 100 _ _ _ _))
                  rw [g4b] at q97 ⊢
                  refine R_cVi1 dX12_nights_100 mvX12_draws mlX12_476 (by decide) (by decide) (Nat.le_of_ble_eq_true rfl) (Nat.le_of_ble_eq_true rfl) (hD2) (?_ : RR _ _ _ _ 103 _ _ _ _)
                  refine R_istore dX12_nights_103 (Nat.le_of_ble_eq_true rfl) (?_ : RR _ _ _ _ 105 [_, _, _, _, _, _, _, _] _ _ _)
                  refine R_aload_n dX12_nights_105 rfl (?_ : RR _ _ _ _ 106 _ _ _ _)
                  refine R_aload_n dX12_nights_106 rfl (?_ : RR _ _ _ _ 107 _ _ _ _)
                  refine R_getr dX12_nights_107 flX12_36 cok_12 rfl (by decide) (?_ : RR _ _ _ _ 110 _ _ _ _)
                  refine R_cVi1 dX12_nights_110 mvX12_riding mlX12_303 (by decide) (by decide) (Nat.le_of_ble_eq_true rfl) (Nat.le_of_ble_eq_true rfl) (T_X12_riding (np := np) hsr9 g56) (?_ : RR _ _ _ _ 113 _ _ _ _)
                  rw [he6]
                  refine R_iload dX12_nights_113 rfl (?_ : RR _ _ _ _ 115 _ _ _ _)
                  refine R_cSi2 dX12_nights_115 msX12_has mlX12_288 (by decide) (Nat.le_of_ble_eq_true rfl) (Nat.le_of_ble_eq_true rfl) (T_X12_has (bset_31 (by omega))) (?_ : RR _ _ _ _ 118 _ _ _ _)
                  rw [hbit, if_neg r1]
                  refine R_if_eq (t := 137) dX12_nights_118 rfl (fun c118 => ?_) (fun c118 => ?_)
                  rotate_left
                  · exfalso; omega
                  refine R_iconst dX12_nights_137 (?_ : RR _ _ _ _ 138 _ _ _ _)
                  refine R_istore dX12_nights_138 (Nat.le_of_ble_eq_true rfl) (?_ : RR _ _ _ _ 140 [_, _, _, _, _, _, _, _] _ _ _)
                  refine R_aload_n dX12_nights_140 rfl (?_ : RR _ _ _ _ 141 _ _ _ _)
                  refine R_getr dX12_nights_141 flX12_36 cok_12 rfl (by decide) (?_ : RR _ _ _ _ 144 _ _ _ _)
                  refine R_bipush dX12_nights_144 rfl (?_ : RR _ _ _ _ 146 _ _ _ _)
                  refine R_iload dX12_nights_146 rfl (?_ : RR _ _ _ _ 148 _ _ _ _)
                  refine R_iadd dX12_nights_148 (?_ : RR _ _ _ _ 149 _ _ _ _)
                  refine R_iload dX12_nights_149 rfl (?_ : RR _ _ _ _ 151 _ _ _ _)
                  refine R_if_eq (t := 159) dX12_nights_151 rfl (fun c151 => ?_) (fun c151 => ?_)
                  rotate_left
                  · exfalso; omega
                  refine R_aload_n dX12_nights_159 rfl (?_ : RR _ _ _ _ 160 _ _ _ _)
                  refine R_getr dX12_nights_160 flX12_36 cok_12 rfl (by decide) (?_ : RR _ _ _ _ 163 _ _ _ _)
                  refine R_bipush dX12_nights_163 rfl (?_ : RR _ _ _ _ 165 _ _ _ _)
                  refine R_iload dX12_nights_165 rfl (?_ : RR _ _ _ _ 167 _ _ _ _)
                  refine R_iadd dX12_nights_167 (?_ : RR _ _ _ _ 168 _ _ _ _)
                  refine R_iald dX12_nights_168 (fun q168 => (?_ : RR _ _ _ _ 169 _ _ _ _))
                  refine R_iast dX12_nights_169 (?_ : RR _ _ _ _ 170 _ _ _ _)
                  rw [fup_self, rup_self]
                  refine R_iinc dX12_nights_170 rfl (Nat.le_of_ble_eq_true rfl) (?_ : RR _ _ _ _ 173 [_, _, _, _, _, _, _, _] _ _ _)
                  refine R_goto (t := 30) dX12_nights_173 rfl (?_ : RR _ _ _ _ 30 _ _ _ _)
                  exact IH h6 _ _ _ _ hF6 he6 hr6
      refine R_aload_n dX12_nights_0 rfl (?_ : RR _ _ _ _ 1 _ _ _ _)
      refine R_iconst dX12_nights_1 (?_ : RR _ _ _ _ 2 _ _ _ _)
      refine R_puti (zk := 0) dX12_nights_2 flX12_106 cok_12 (by decide) (fun q hq => by cases hq; rfl) rfl (?_ : RR _ _ _ _ 5 _ _ _ _)
      try simp (disch := omega) only [rup_rup, rup_sort, rupS_def, rup_s, rup_n, fup_fup, fup_s, fup_n]
      refine R_iload_n dX12_nights_5 rfl (?_ : RR _ _ _ _ 6 _ _ _ _)
      refine R_i2l dX12_nights_6 (by first | assumption | omega) (?_ : RR _ _ _ _ 7 _ _ _ _)
      refine R_lconst (z := 1) dX12_nights_7 rfl (?_ : RR _ _ _ _ 8 _ _ _ _)
      refine R_ldc2 (z := 60) dX12_nights_8 klX12_474 (?_ : RR _ _ _ _ 11 _ _ _ _)
      refine R_cSi3 dX12_nights_11 msX12_in mlX12_120 (by decide) (Nat.le_of_ble_eq_true rfl) (Nat.le_of_ble_eq_true rfl) (T_X12_in) (?_ : RR _ _ _ _ 14 _ _ _ _)
      try simp (disch := omega) only [rup_rup, rup_sort, rupS_def, rup_s, rup_n, fup_fup, fup_s, fup_n]
      rw [if_pos q]
      refine R_if_ne (t := 19) dX12_nights_14 rfl (fun c14 => ?_) (fun c14 => ?_)
      rotate_left
      · exfalso; omega
      refine R_aload_n dX12_nights_19 rfl (?_ : RR _ _ _ _ 20 _ _ _ _)
      refine R_iload_n dX12_nights_20 rfl (?_ : RR _ _ _ _ 21 _ _ _ _)
      refine R_puti (zk := 46) dX12_nights_21 flX12_470 cok_12 (by decide) (fun q hq => by cases hq; rfl) rfl (?_ : RR _ _ _ _ 24 _ _ _ _)
      try simp (disch := omega) only [rup_rup, rup_sort, rupS_def, rup_s, rup_n, fup_fup, fup_s, fup_n]
      refine R_aload_n dX12_nights_24 rfl (?_ : RR _ _ _ _ 25 _ _ _ _)
      refine R_cVv0 dX12_nights_25 mvX12_puts mlX12_407 (by decide) (by decide) (Nat.le_of_ble_eq_true rfl) (Nat.le_of_ble_eq_true rfl) (T_X12_puts (by rw [rup_n (by omega), rup_n (by omega), e 155 (by omega), e 154 (by omega)]; exact hs.2.2.2.1.2.2.1)) (?_ : RR _ _ _ _ 28 _ _ _ _)
      try simp (disch := omega) only [rup_rup, rup_sort, rupS_def, rup_s, rup_n, fup_fup, fup_s, fup_n]
      rw [E154]
      refine R_iconst dX12_nights_28 (?_ : RR _ _ _ _ 29 _ _ _ _)
      refine R_istore_n dX12_nights_29 (Nat.le_of_ble_eq_true rfl) (?_ : RR _ _ _ _ 30 [_, _, _, _, _, _, _, _] _ _ _)
      exact L n 0 _ _ _ _ _ (by omega) (mlr_155 (mlr_0 hs e) (by rw [E154]; exact fun _ _ => rfl)) rup_s (by rw [rup_n (by omega), rup_s, fup_s]; rfl)
  · refine A_q hs (z := -1) (o := none) (cQ_no (M := mX11_nights) (d := 6) (As := [pR 0, pI s, pI v]) (MT.of (fun Q hQ => (?_ : RR mX11_nights _ _ _ _ [pR 0, pI s, pI v, pU, pU] _ _ _)))) (fun h3 e => mQ_thr (M := mX12_nights) (d := 9) (As := [pR 147, pI s, pI v]) (MT.of (fun Q hQ => (?_ : RR mX12_nights _ _ _ _ [pR 147, pI s, pI v, pU, pU, pU, pU, pU] _ _ _)))) (fun L e => by cases e)
    · refine R_iload_n dX11_nights_0 rfl (?_ : RR _ _ _ _ 1 _ _ _ _)
      refine R_iconst dX11_nights_1 (?_ : RR _ _ _ _ 2 _ _ _ _)
      refine R_icmp_lt (t := 11) dX11_nights_2 rfl (fun c2 => ?_) (fun c2 => ?_)
      · first
        | (exfalso; omega)
        | (refine R_iconst dX11_nights_11 (?_ : RR _ _ _ _ 12 _ _ _ _)
           exact R_ireturn dX11_nights_12 trivial hQ)
      · first
        | (exfalso; omega)
        | (refine R_iload_n dX11_nights_5 rfl (?_ : RR _ _ _ _ 6 _ _ _ _)
           refine R_bipush dX11_nights_6 rfl (?_ : RR _ _ _ _ 8 _ _ _ _)
           refine R_icmp_le (t := 13) dX11_nights_8 rfl (fun c8 => ?_) (fun c8 => ?_)
           · first
             | (exfalso; omega)
             | (exfalso; omega)
           · first
             | (exfalso; omega)
             | (refine R_iconst dX11_nights_11 (?_ : RR _ _ _ _ 12 _ _ _ _)
                exact R_ireturn dX11_nights_12 trivial hQ))
    · refine R_aload_n dX12_nights_0 rfl (?_ : RR _ _ _ _ 1 _ _ _ _)
      refine R_iconst dX12_nights_1 (?_ : RR _ _ _ _ 2 _ _ _ _)
      refine R_puti (zk := 0) dX12_nights_2 flX12_106 cok_12 (by decide) (fun q hq => by cases hq; rfl) rfl (?_ : RR _ _ _ _ 5 _ _ _ _)
      try simp (disch := omega) only [rup_rup, rup_sort, rupS_def, rup_s, rup_n, fup_fup, fup_s, fup_n]
      refine R_iload_n dX12_nights_5 rfl (?_ : RR _ _ _ _ 6 _ _ _ _)
      refine R_i2l dX12_nights_6 (by first | assumption | omega) (?_ : RR _ _ _ _ 7 _ _ _ _)
      refine R_lconst (z := 1) dX12_nights_7 rfl (?_ : RR _ _ _ _ 8 _ _ _ _)
      refine R_ldc2 (z := 60) dX12_nights_8 klX12_474 (?_ : RR _ _ _ _ 11 _ _ _ _)
      refine R_cSi3 dX12_nights_11 msX12_in mlX12_120 (by decide) (Nat.le_of_ble_eq_true rfl) (Nat.le_of_ble_eq_true rfl) (T_X12_in) (?_ : RR _ _ _ _ 14 _ _ _ _)
      try simp (disch := omega) only [rup_rup, rup_sort, rupS_def, rup_s, rup_n, fup_fup, fup_s, fup_n]
      rw [if_neg q]
      refine R_if_ne (t := 19) dX12_nights_14 rfl (fun c14 => ?_) (fun c14 => ?_)
      · exfalso; omega
      refine R_iconst dX12_nights_17 (?_ : RR _ _ _ _ 18 _ _ _ _)
      exact R_ireturn dX12_nights_18 trivial hQ
end NI
