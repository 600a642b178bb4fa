section RS
variable {k : Nat} {h h1 h2 h3 h4 : Nat → Int → Int} {sem : Sem} {H np nc len : Nat} {v : Int} {X : Cx} {f : Int → Int}
/-- who is out stays out -/
theorem out_step {bh : Int} (h6 : xC X ≤ 6) {p : Nat} (hp : p < xP X) (ho : mS f p < 0) : mS (xStep X bh f) p < 0 := by
  unfold xStep xRun
  split
  · rw [moF_mS hp, fup_mS (by omega), fup_mS (by omega), mlF_mS h6, if_neg (by omega)]
    exact ho
  · rw [fup_mS (by omega)]
    exact ho
theorem oMn_le {f' : Int → Int} (h12 : xP X ≤ 12) (hh : ∀ p : Nat, p < xP X → mS f p < 0 → mS f' p < 0) : oMn X f ≤ oMn X f' := by
  have a := pop_bset (P := fun p : Nat => decide (mS f p < 0)) h12
  have b := pop_bset (P := fun p : Nat => decide (mS f' p < 0)) h12
  have c : sm (fun p : Nat => if decide (mS f p < 0) = true then (1 : Int) else 0) (xP X) ≤ sm (fun p : Nat => if decide (mS f' p < 0) = true then (1 : Int) else 0) (xP X) := sm_le (fun p hp => by
    by_cases q : mS f p < 0
    · rw [if_pos (decide_eq_true q), if_pos (decide_eq_true (hh p hp q))]
      exact Int.le_refl _
    · rw [if_neg (by simpa using q)]
      split <;> omega)
  unfold oMn
  omega
theorem oMn_it {bh : Int} (h6 : xC X ≤ 6) (h12 : xP X ≤ 12) : ∀ (n : Nat) (f : Int → Int), oMn X f ≤ oMn X (xIt X bh n f)
  | 0, f => Nat.le_refl _
  | n + 1, f => Nat.le_trans (oMn_le h12 (fun p hp ho => out_step h6 hp ho)) (oMn_it h6 h12 n (xStep X bh f))
abbrev cnM (f : Int → Int) (p c : Nat) : Prop := ridP f p = true ∧ 0 ≤ mP f c ∧ mS f p ≠ c
theorem T_X11_canMove {p c : Nat} (hc : Cpl X H h 14 f len) (h6 : xC X ≤ 6) (h12 : xP X ≤ 12) (hp : p < xP X) (hcc : c < xC X) : MT mX11_canMove 1 [pR 0, pI p, pI c] h (some (pI (if cnM f p c then 1 else 0))) h := by
  refine MT.of (fun Q hQ => (?_ : RR mX11_canMove _ _ _ _ [pR 0, pI p, pI c] _ _ _))
  have t14 := isTr_14
  obtain ⟨hf, e0, e1, e2, e3, ep, ea, es⟩ := id hc
  have esp := es p hp
  have hsp := hf.2.2.2.2.2 p hp
  have hepl : ∀ c : Int, 0 ≤ c → c < xC X → h (14 + 2) c = mP f c := fun c c0 c1 => by
    have := ep c.toNat (by omega)
    rw [show ((c.toNat : Nat) : Int) = c by omega] at this
    exact this
  have hmpb : ∀ c : Int, 0 ≤ c → c < xC X → mP f c = -1 ∨ 0 ≤ mP f c := fun c c0 c1 => by
    have := fOK_pl hf c0 c1
    omega
  have hcp := hepl c (by omega) (by omega)
  have hcb := hmpb c (by omega) (by omega)
  have ecc : h 16 (c : Int) = mP f c := hcp
  have ess : h 18 (p : Int) = mS f p := esp
  have hcar : (if h (14 + 4) p ≠ -1 ∧ h (14 + 2) (h (14 + 4) p) ≠ -1 then (1 : Int) else 0) = if ridP f p = true then 1 else 0 := by
    rw [esp]
    by_cases q : mS f p = -1
    · rw [if_neg (fun z => z.1 q), if_neg (fun z => by have := ridP_i z; omega)]
    · rw [hepl _ (by omega) (by omega)]
      have := hmpb (mS f p) (by omega) (by omega)
      by_cases y : 0 ≤ mP f (mS f p)
      · rw [if_pos ⟨q, by omega⟩, if_pos (by unfold ridP; exact decide_eq_true ⟨by omega, y⟩)]
      · rw [if_neg (fun z => by omega), if_neg (fun z => y (ridP_i z).2)]
  by_cases r1 : ridP f p = true
  · by_cases r2 : 0 ≤ mP f c
    · by_cases r3 : mS f p = c
      · rw [if_neg (fun z => z.2.2 r3)] at hQ
        refine R_aload_n dX11_canMove_0 rfl (?_ : RR _ _ _ _ 1 _ _ _ _)
        refine R_getr dX11_canMove_1 flX11_36 cok_11 rfl (by decide) (?_ : RR _ _ _ _ 4 _ _ _ _)
        refine R_iload_n dX11_canMove_4 rfl (?_ : RR _ _ _ _ 5 _ _ _ _)
        refine R_cVi1 dX11_canMove_5 mvX9_carries mlX11_330 (by decide) (by decide) (Nat.le_of_ble_eq_true rfl) (Nat.le_of_ble_eq_true rfl) (T_X9_carries (hs := by rw [esp]; omega)) (?_ : RR _ _ _ _ 8 _ _ _ _)
        rw [hcar, if_pos r1]
        refine R_if_eq (t := 41) dX11_canMove_8 rfl (fun c8 => ?_) (fun c8 => ?_)
        · exfalso; omega
        refine R_aload_n dX11_canMove_11 rfl (?_ : RR _ _ _ _ 12 _ _ _ _)
        refine R_getr dX11_canMove_12 flX11_36 cok_11 rfl (by decide) (?_ : RR _ _ _ _ 15 _ _ _ _)
        refine R_getr dX11_canMove_15 flX11_183 cok_9 rfl (by decide) (?_ : RR _ _ _ _ 18 _ _ _ _)
        refine R_iload_n dX11_canMove_18 rfl (?_ : RR _ _ _ _ 19 _ _ _ _)
        refine R_iald dX11_canMove_19 (fun q19 => (?_ : RR _ _ _ _ 20 _ _ _ _))
        rw [ecc] at q19 ⊢
        refine R_iconst dX11_canMove_20 (?_ : RR _ _ _ _ 21 _ _ _ _)
        refine R_icmp_eq (t := 41) dX11_canMove_21 rfl (fun c21 => ?_) (fun c21 => ?_)
        · exfalso; omega
        refine R_aload_n dX11_canMove_24 rfl (?_ : RR _ _ _ _ 25 _ _ _ _)
        refine R_getr dX11_canMove_25 flX11_36 cok_11 rfl (by decide) (?_ : RR _ _ _ _ 28 _ _ _ _)
        refine R_getr dX11_canMove_28 flX11_205 cok_9 rfl (by decide) (?_ : RR _ _ _ _ 31 _ _ _ _)
        refine R_iload_n dX11_canMove_31 rfl (?_ : RR _ _ _ _ 32 _ _ _ _)
        refine R_iald dX11_canMove_32 (fun q32 => (?_ : RR _ _ _ _ 33 _ _ _ _))
        rw [ess] at q32 ⊢
        refine R_iload_n dX11_canMove_33 rfl (?_ : RR _ _ _ _ 34 _ _ _ _)
        refine R_icmp_eq (t := 41) dX11_canMove_34 rfl (fun c34 => ?_) (fun c34 => ?_)
        rotate_left
        · exfalso; omega
        refine R_iconst dX11_canMove_41 (?_ : RR _ _ _ _ 42 _ _ _ _)
        exact R_ireturn dX11_canMove_42 (by first | exact Or.inl rfl | exact Or.inr rfl | exact ok_ite | omega) hQ
      · rw [if_pos ⟨r1, r2, r3⟩] at hQ
        refine R_aload_n dX11_canMove_0 rfl (?_ : RR _ _ _ _ 1 _ _ _ _)
        refine R_getr dX11_canMove_1 flX11_36 cok_11 rfl (by decide) (?_ : RR _ _ _ _ 4 _ _ _ _)
        refine R_iload_n dX11_canMove_4 rfl (?_ : RR _ _ _ _ 5 _ _ _ _)
        refine R_cVi1 dX11_canMove_5 mvX9_carries mlX11_330 (by decide) (by decide) (Nat.le_of_ble_eq_true rfl) (Nat.le_of_ble_eq_true rfl) (T_X9_carries (hs := by rw [esp]; omega)) (?_ : RR _ _ _ _ 8 _ _ _ _)
        rw [hcar, if_pos r1]
        refine R_if_eq (t := 41) dX11_canMove_8 rfl (fun c8 => ?_) (fun c8 => ?_)
        · exfalso; omega
        refine R_aload_n dX11_canMove_11 rfl (?_ : RR _ _ _ _ 12 _ _ _ _)
        refine R_getr dX11_canMove_12 flX11_36 cok_11 rfl (by decide) (?_ : RR _ _ _ _ 15 _ _ _ _)
        refine R_getr dX11_canMove_15 flX11_183 cok_9 rfl (by decide) (?_ : RR _ _ _ _ 18 _ _ _ _)
        refine R_iload_n dX11_canMove_18 rfl (?_ : RR _ _ _ _ 19 _ _ _ _)
        refine R_iald dX11_canMove_19 (fun q19 => (?_ : RR _ _ _ _ 20 _ _ _ _))
        rw [ecc] at q19 ⊢
        refine R_iconst dX11_canMove_20 (?_ : RR _ _ _ _ 21 _ _ _ _)
        refine R_icmp_eq (t := 41) dX11_canMove_21 rfl (fun c21 => ?_) (fun c21 => ?_)
        · exfalso; omega
        refine R_aload_n dX11_canMove_24 rfl (?_ : RR _ _ _ _ 25 _ _ _ _)
        refine R_getr dX11_canMove_25 flX11_36 cok_11 rfl (by decide) (?_ : RR _ _ _ _ 28 _ _ _ _)
        refine R_getr dX11_canMove_28 flX11_205 cok_9 rfl (by decide) (?_ : RR _ _ _ _ 31 _ _ _ _)
        refine R_iload_n dX11_canMove_31 rfl (?_ : RR _ _ _ _ 32 _ _ _ _)
        refine R_iald dX11_canMove_32 (fun q32 => (?_ : RR _ _ _ _ 33 _ _ _ _))
        rw [ess] at q32 ⊢
        refine R_iload_n dX11_canMove_33 rfl (?_ : RR _ _ _ _ 34 _ _ _ _)
        refine R_icmp_eq (t := 41) dX11_canMove_34 rfl (fun c34 => ?_) (fun c34 => ?_)
        · exfalso; omega
        refine R_iconst dX11_canMove_37 (?_ : RR _ _ _ _ 38 _ _ _ _)
        refine R_goto (t := 42) dX11_canMove_38 rfl (?_ : RR _ _ _ _ 42 _ _ _ _)
        exact R_ireturn dX11_canMove_42 (by first | exact Or.inl rfl | exact Or.inr rfl | exact ok_ite | omega) hQ
    · rw [if_neg (fun z => r2 z.2.1)] at hQ
      refine R_aload_n dX11_canMove_0 rfl (?_ : RR _ _ _ _ 1 _ _ _ _)
      refine R_getr dX11_canMove_1 flX11_36 cok_11 rfl (by decide) (?_ : RR _ _ _ _ 4 _ _ _ _)
      refine R_iload_n dX11_canMove_4 rfl (?_ : RR _ _ _ _ 5 _ _ _ _)
      refine R_cVi1 dX11_canMove_5 mvX9_carries mlX11_330 (by decide) (by decide) (Nat.le_of_ble_eq_true rfl) (Nat.le_of_ble_eq_true rfl) (T_X9_carries (hs := by rw [esp]; omega)) (?_ : RR _ _ _ _ 8 _ _ _ _)
      rw [hcar, if_pos r1]
      refine R_if_eq (t := 41) dX11_canMove_8 rfl (fun c8 => ?_) (fun c8 => ?_)
      · exfalso; omega
      refine R_aload_n dX11_canMove_11 rfl (?_ : RR _ _ _ _ 12 _ _ _ _)
      refine R_getr dX11_canMove_12 flX11_36 cok_11 rfl (by decide) (?_ : RR _ _ _ _ 15 _ _ _ _)
      refine R_getr dX11_canMove_15 flX11_183 cok_9 rfl (by decide) (?_ : RR _ _ _ _ 18 _ _ _ _)
      refine R_iload_n dX11_canMove_18 rfl (?_ : RR _ _ _ _ 19 _ _ _ _)
      refine R_iald dX11_canMove_19 (fun q19 => (?_ : RR _ _ _ _ 20 _ _ _ _))
      rw [ecc] at q19 ⊢
      refine R_iconst dX11_canMove_20 (?_ : RR _ _ _ _ 21 _ _ _ _)
      refine R_icmp_eq (t := 41) dX11_canMove_21 rfl (fun c21 => ?_) (fun c21 => ?_)
      rotate_left
      · exfalso; omega
      refine R_iconst dX11_canMove_41 (?_ : RR _ _ _ _ 42 _ _ _ _)
      exact R_ireturn dX11_canMove_42 (by first | exact Or.inl rfl | exact Or.inr rfl | exact ok_ite | omega) hQ
  · rw [if_neg (fun z => r1 z.1)] at hQ
    refine R_aload_n dX11_canMove_0 rfl (?_ : RR _ _ _ _ 1 _ _ _ _)
    refine R_getr dX11_canMove_1 flX11_36 cok_11 rfl (by decide) (?_ : RR _ _ _ _ 4 _ _ _ _)
    refine R_iload_n dX11_canMove_4 rfl (?_ : RR _ _ _ _ 5 _ _ _ _)
    refine R_cVi1 dX11_canMove_5 mvX9_carries mlX11_330 (by decide) (by decide) (Nat.le_of_ble_eq_true rfl) (Nat.le_of_ble_eq_true rfl) (T_X9_carries (hs := by rw [esp]; omega)) (?_ : RR _ _ _ _ 8 _ _ _ _)
    rw [hcar, if_neg r1]
    refine R_if_eq (t := 41) dX11_canMove_8 rfl (fun c8 => ?_) (fun c8 => ?_)
    rotate_left
    · exfalso; omega
    refine R_iconst dX11_canMove_41 (?_ : RR _ _ _ _ 42 _ _ _ _)
    exact R_ireturn dX11_canMove_42 (by first | exact Or.inl rfl | exact Or.inr rfl | exact ok_ite | omega) hQ
def rsC (cn : Nat → Nat → Bool) (vl : Nat → Nat → Int) (p c : Nat) (s : Int × Int × Int) : Int × Int × Int := if cn p c = true ∧ s.1 < vl p c then (vl p c, (p : Int), (c : Int)) else s
def rsP (cn : Nat → Nat → Bool) (vl : Nat → Nat → Int) (nc p : Nat) (s : Int × Int × Int) : Int × Int × Int := it (rsC cn vl p) s nc
abbrev rsB (s : Int × Int × Int) : Prop := (0 ≤ s.1 ∧ s.1 ≤ 12) ∧ (-1 ≤ s.2.1 ∧ s.2.1 ≤ 12) ∧ -1 ≤ s.2.2 ∧ s.2.2 ≤ 12
theorem rsC_b {cn : Nat → Nat → Bool} {vl : Nat → Nat → Int} {nc p : Nat} (hv : ∀ p c, vl p c ≤ 12) (h6 : nc ≤ 6) (hp : p ≤ 12) {s : Int × Int × Int} (hs : rsB s) : ∀ c, c ≤ nc → rsB (it (rsC cn vl p) s c) :=
  it_inv (fun _ => rsB) hs (fun c t hc ht => by
    unfold rsC
    split
    · rename_i q
      have := hv p c
      exact ⟨⟨by show 0 ≤ vl p c; omega, this⟩, ⟨by show (-1 : Int) ≤ p; omega, by show (p : Int) ≤ 12; omega⟩, by show (-1 : Int) ≤ c; omega, by show (c : Int) ≤ 12; omega⟩
    · exact ht)
theorem rsP_b {cn : Nat → Nat → Bool} {vl : Nat → Nat → Int} {nc np : Nat} (hv : ∀ p c, vl p c ≤ 12) (h6 : nc ≤ 6) (h12 : np ≤ 12) {s : Int × Int × Int} (hs : rsB s) : ∀ p, p ≤ np → rsB (it (rsP cn vl nc) s p) :=
  it_inv (fun _ => rsB) hs (fun p t hp ht => rsC_b hv h6 (by omega) ht nc (Nat.le_refl _))
theorem A_reseat (hs : SRx k h sem H np nc len) (hk : k ≤ 1000) (hv : r32 v) : AG mX11_reseat mX12_reseat 7 10 [pI v] k h := by
  have x6 := sR6 hs
  have x12 := sR12 hs
  have hX := hs.1.2.2.2.2.1
  have hn := hs.2.2.2.1.2.1
  have hc := hs.2.2.2.1.1
  have h11 : h 11 0 = np := hs.1.2.2.2.2.2.2.1.2.1.1
  have h5 : h 147 5 = np := hs.1.2.2.1
  have h4c : h 147 4 = nc := hs.1.2.1
  obtain ⟨hf, e0, e1, e2, e3, ep, ea, es⟩ := id hc
  have e2 : h 14 2 = nc := e2
  have r154 := isRw_154
  have t14 := isTr_14
  have t24 := isTr_24
  by_cases q : 1 ≤ v ∧ v ≤ 12
  · obtain ⟨n, rfl⟩ := Int.eq_ofNat_of_zero_le (show 0 ≤ v by omega)
    have hn12 : n ≤ 12 := by omega
    obtain ⟨X, hXe⟩ : ∃ X, X = cxM sem h np nc := ⟨_, rfl⟩
    have hXP : xP X = np := by rw [hXe]; rfl
    have hXC : xC X = nc := by rw [hXe]; rfl
    have hX' : xOK X H := by rw [hXe]; exact hX
    have hok : okF X H (h 154) := by rw [hXe]; exact okF_c hc
    have hb2 := oMn_b (X := X) (f := h 154) (by rw [hXP]; exact x12)
    obtain ⟨vl, hvl⟩ : ∃ vl : Nat → Nat → Int, vl = fun p c : Nat => (oMn X (xIt X 0 n (fup (h 154) (14 + p) c)) : Int) - oMn X (h 154) := ⟨_, rfl⟩
    obtain ⟨cn, hcn⟩ : ∃ cn : Nat → Nat → Bool, cn = fun p c : Nat => decide (cnM (h 154) p c) := ⟨_, rfl⟩
    obtain ⟨s0, hs0⟩ : ∃ s0 : Int × Int × Int, s0 = ((oMn X (xIt X 0 n (h 154)) : Int) - oMn X (h 154), -1, -1) := ⟨_, rfl⟩
    have hvb : ∀ p c, vl p c ≤ 12 := fun p c => by
      rw [hvl]
      have := oMn_b (X := X) (f := xIt X 0 n (fup (h 154) (14 + p) c)) (by rw [hXP]; exact x12)
      show (oMn X (xIt X 0 n (fup (h 154) (14 + (p : Int)) c)) : Int) - oMn X (h 154) ≤ 12
      omega
    have hvb2 : ∀ p c, -12 ≤ vl p c := fun p c => by
      rw [hvl]
      show -12 ≤ (oMn X (xIt X 0 n (fup (h 154) (14 + (p : Int)) c)) : Int) - oMn X (h 154)
      omega
    have hb0 : rsB s0 := by
      have b1 := oMn_b (X := X) (f := xIt X 0 n (h 154)) (by rw [hXP]; exact x12)
      have b3 := oMn_it (X := X) (bh := 0) (by rw [hXC]; exact x6) (by rw [hXP]; exact x12) n (h 154)
      rw [hs0]
      exact ⟨⟨by show (0 : Int) ≤ (oMn X (xIt X 0 n (h 154)) : Int) - oMn X (h 154); omega, by show (oMn X (xIt X 0 n (h 154)) : Int) - oMn X (h 154) ≤ 12; omega⟩, ⟨by show (-1 : Int) ≤ -1; omega, by show (-1 : Int) ≤ 12; omega⟩, by show (-1 : Int) ≤ -1; omega, by show (-1 : Int) ≤ 12; omega⟩
    have bP := rsP_b (cn := cn) hvb x6 x12 hb0
    have hokS : ∀ p c : Nat, p < np → c < nc → cnM (h 154) p c → okF X H (fup (h 154) (14 + p) c) := fun p c hp hcc hm => ok_seat hX' hok (by rw [hXC]; exact hcc) (by rw [hXP]; exact hp) (by have := (ridP_i hm.1).1; omega) (ridP_i hm.1).2 hm.2.1
    obtain ⟨F, hF9⟩ : ∃ F, F = it (rsP cn vl nc) s0 np := ⟨_, rfl⟩
    refine A_q hs (z := F.1) (o := some [F.2.1, F.2.2]) ?_ (fun h3 e => ?_) (fun L e => by injection e with e; subst e; exact (by omega : 2 ≤ 12))
    · show RR _ _ _ _ _ [pR 0, pI n, pU, pU, pU, pU, pU, pU] _ _ _
      have L1 : ∀ (j p : Nat) (h1 : Nat → Int → Int) (w6 w7 : PV), p + j = np → trF h h1 → RR mX11_reseat 7 0 0 47 [pR 0, pI n, pI (it (rsP cn vl nc) s0 p).1, pI (it (rsP cn vl nc) s0 p).2.1, pI (it (rsP cn vl nc) s0 p).2.2, pI p, w6, w7] [] (shp0, rf0, h1) (cQ h F.1 (some [F.2.1, F.2.2])) := by
        intro j
        induction j with
        | zero =>
          intro p h1 w6 w7 hp hF
          obtain rfl : p = np := by omega
          have g11 : h1 11 0 = p := by rw [hF 11 (by omega)]; exact h11
          have bp := bP p (by omega)
          rw [← hF9] at bp ⊢
          refine R_iload dX11_reseat_47 rfl (?_ : RR _ _ _ _ 49 _ _ _ _)
          refine R_aload_n dX11_reseat_49 rfl (?_ : RR _ _ _ _ 50 _ _ _ _)
          refine R_getr dX11_reseat_50 flX11_29 cok_11 rfl (by decide) (?_ : RR _ _ _ _ 53 _ _ _ _)
          refine R_geti (z := 0) dX11_reseat_53 flX11_116 cok_2 rfl (by decide) rfl (fun q53 => (?_ : RR _ _ _ _ 56 _ _ _ _))
          rw [g11] at q53 ⊢
          refine R_icmp_ge (t := 155) dX11_reseat_56 rfl (fun c56 => ?_) (fun c56 => ?_)
          rotate_left
          · exfalso; omega
          refine R_aload_n dX11_reseat_155 rfl (?_ : RR _ _ _ _ 156 _ _ _ _)
          refine R_getr dX11_reseat_156 flX11_87 cok_11 rfl (by decide) (?_ : RR _ _ _ _ 159 _ _ _ _)
          refine R_cVv0 dX11_reseat_159 mvX3_clear mlX11_239 (by decide) (by decide) (Nat.le_of_ble_eq_true rfl) (Nat.le_of_ble_eq_true rfl) (T_tlc) (?_ : RR _ _ _ _ 162 _ _ _ _)
          refine R_aload_n dX11_reseat_162 rfl (?_ : RR _ _ _ _ 163 _ _ _ _)
          refine R_getr dX11_reseat_163 flX11_87 cok_11 rfl (by decide) (?_ : RR _ _ _ _ 166 _ _ _ _)
          refine R_iload_n dX11_reseat_166 rfl (?_ : RR _ _ _ _ 167 _ _ _ _)
          refine R_i2l dX11_reseat_167 (by first | assumption | omega) (?_ : RR _ _ _ _ 168 _ _ _ _)
          refine R_cVv1 dX11_reseat_168 mvX3_add mlX11_243 (by decide) (by decide) (Nat.le_of_ble_eq_true rfl) (Nat.le_of_ble_eq_true rfl) (T_tla (by simp) (by omega)) (?_ : RR _ _ _ _ 171 _ _ _ _)
          refine R_aload_n dX11_reseat_171 rfl (?_ : RR _ _ _ _ 172 _ _ _ _)
          refine R_getr dX11_reseat_172 flX11_87 cok_11 rfl (by decide) (?_ : RR _ _ _ _ 175 _ _ _ _)
          refine R_iload dX11_reseat_175 rfl (?_ : RR _ _ _ _ 177 _ _ _ _)
          refine R_i2l dX11_reseat_177 (by first | assumption | omega) (?_ : RR _ _ _ _ 178 _ _ _ _)
          refine R_cVv1 dX11_reseat_178 mvX3_add mlX11_243 (by decide) (by decide) (Nat.le_of_ble_eq_true rfl) (Nat.le_of_ble_eq_true rfl) (T_tla (by simp) (by omega)) (?_ : RR _ _ _ _ 181 _ _ _ _)
          refine R_iload_n dX11_reseat_181 rfl (?_ : RR _ _ _ _ 182 _ _ _ _)
          exact R_ireturn dX11_reseat_182 trivial (cQ_tl (cq_trF hF) rfl)
        | succ j ih =>
          intro p h1 w6 w7 hp hF
          have bp := bP p (by omega)
          have bC := rsC_b (cn := cn) (vl := vl) (p := p) hvb x6 (by omega) bp
          have eS : it (rsP cn vl nc) s0 (p + 1) = it (rsC cn vl p) (it (rsP cn vl nc) s0 p) nc := rfl
          generalize it (rsP cn vl nc) s0 p = S at bp bC eS ⊢
          have L2 : ∀ (j2 c : Nat) (h1 : Nat → Int → Int) (w7 : PV), c + j2 = nc → trF h h1 → RR mX11_reseat 7 0 0 62 [pR 0, pI n, pI (it (rsC cn vl p) S c).1, pI (it (rsC cn vl p) S c).2.1, pI (it (rsC cn vl p) S c).2.2, pI p, pI c, w7] [] (shp0, rf0, h1) (cQ h F.1 (some [F.2.1, F.2.2])) := by
            intro j2
            induction j2 with
            | zero =>
              intro c h1 w7 hcc hF
              obtain rfl : c = nc := by omega
              have g2 : h1 14 2 = c := by rw [hF 14 (by omega)]; exact e2
              have IH := fun w6 w7 => ih (p + 1) h1 w6 w7 (by omega) hF
              rw [eS] at IH
              refine R_iload dX11_reseat_62 rfl (?_ : RR _ _ _ _ 64 _ _ _ _)
              refine R_aload_n dX11_reseat_64 rfl (?_ : RR _ _ _ _ 65 _ _ _ _)
              refine R_getr dX11_reseat_65 flX11_36 cok_11 rfl (by decide) (?_ : RR _ _ _ _ 68 _ _ _ _)
              refine R_geti (z := 2) dX11_reseat_68 flX11_349 cok_9 rfl (by decide) rfl (fun q68 => (?_ : RR _ _ _ _ 71 _ _ _ _))
              rw [g2] at q68 ⊢
              refine R_icmp_ge (t := 149) dX11_reseat_71 rfl (fun c71 => ?_) (fun c71 => ?_)
              rotate_left
              · exfalso; omega
              refine R_iinc dX11_reseat_149 rfl (Nat.le_of_ble_eq_true rfl) (?_ : RR _ _ _ _ 152 [_, _, _, _, _, _, _, _] _ _ _)
              refine R_goto (t := 47) dX11_reseat_152 rfl (?_ : RR _ _ _ _ 47 _ _ _ _)
              exact IH _ _
            | succ j2 ih2 =>
              intro c h1 w7 hcc hF
              have g2 : h1 14 2 = nc := by rw [hF 14 (by omega)]; exact e2
              have bc := bC c (by omega)
              have e9 : it (rsC cn vl p) S (c + 1) = rsC cn vl p c (it (rsC cn vl p) S c) := rfl
              have IH := fun h1 w7 hF => ih2 (c + 1) h1 w7 (by omega) hF
              rw [e9] at IH
              generalize it (rsC cn vl p) S c = s at bc IH ⊢
              unfold rsC at IH
              obtain ⟨k1, k2, k3, k4, k5⟩ := tri2 hs hF
              rw [← hXe] at k1 k2 k3
              have hc1 : Cpl X H h1 14 (h 154) len := by rw [hXe]; exact Cpl_fr hc (fun a a1 a2 => hF a (by omega))
              have hcm := T_X11_canMove (p := p) (c := c) hc1 (by rw [hXC]; exact x6) (by rw [hXP]; exact x12) (by rw [hXP]; omega) (by rw [hXC]; omega)
              by_cases y : cnM (h 154) p c
              · have hcy : cn p c = true := by rw [hcn]; exact decide_eq_true y
                have hvpc := hvb p c
                have hvpc2 := hvb2 p c
                have hve : (oMn X (xIt X 0 n (fup (h 154) (14 + p) c)) : Int) - oMn X (h 154) = vl p c := by rw [hvl]
                have kS := cpl_seat (p := p) (c := c) (by rw [hXC]; exact x6) k1 (by rw [hXC]; omega) (by rw [hXP]; omega) (by have := (ridP_i y.1).1; omega) (ridP_i y.1).2 y.2.1
                have hpo := C_outMoreIn (m := n) (bh := 0) hX' (CO_f k3 (fun a q => rup_n (by omega))) kS (Cpl_fr k2 (fun a a1 a2 => rup_n (by omega))) (by rw [fup_n (by omega)]; omega) (by omega) (by omega) (by rw [rup_n (by omega), hXe]; exact k4)
                rw [hve] at hpo
                have K : ∀ h2 : Nat → Int → Int, trF h h2 → RR mX11_reseat 7 0 0 127 [pR 0, pI n, pI s.1, pI s.2.1, pI s.2.2, pI p, pI c, pI (vl p c)] [] (shp0, rf0, h2) (cQ h F.1 (some [F.2.1, F.2.2])) := by
                  intro h2 hF2
                  have IH2 := fun w7 => IH h2 w7 hF2
                  by_cases u : s.1 < vl p c
                  · rw [if_pos ⟨hcy, u⟩] at IH2
                    refine R_iload dX11_reseat_127 rfl (?_ : RR _ _ _ _ 129 _ _ _ _)
                    refine R_iload_n dX11_reseat_129 rfl (?_ : RR _ _ _ _ 130 _ _ _ _)
                    refine R_icmp_le (t := 143) dX11_reseat_130 rfl (fun c130 => ?_) (fun c130 => ?_)
                    · exfalso; omega
                    refine R_iload dX11_reseat_133 rfl (?_ : RR _ _ _ _ 135 _ _ _ _)
                    refine R_istore_n dX11_reseat_135 (Nat.le_of_ble_eq_true rfl) (?_ : RR _ _ _ _ 136 [_, _, _, _, _, _, _, _] _ _ _)
                    refine R_iload dX11_reseat_136 rfl (?_ : RR _ _ _ _ 138 _ _ _ _)
                    refine R_istore_n dX11_reseat_138 (Nat.le_of_ble_eq_true rfl) (?_ : RR _ _ _ _ 139 [_, _, _, _, _, _, _, _] _ _ _)
                    refine R_iload dX11_reseat_139 rfl (?_ : RR _ _ _ _ 141 _ _ _ _)
                    refine R_istore dX11_reseat_141 (Nat.le_of_ble_eq_true rfl) (?_ : RR _ _ _ _ 143 [_, _, _, _, _, _, _, _] _ _ _)
                    refine R_iinc dX11_reseat_143 rfl (Nat.le_of_ble_eq_true rfl) (?_ : RR _ _ _ _ 146 [_, _, _, _, _, _, _, _] _ _ _)
                    refine R_goto (t := 62) dX11_reseat_146 rfl (?_ : RR _ _ _ _ 62 _ _ _ _)
                    exact IH2 _
                  · rw [if_neg (fun z => u z.2)] at IH2
                    refine R_iload dX11_reseat_127 rfl (?_ : RR _ _ _ _ 129 _ _ _ _)
                    refine R_iload_n dX11_reseat_129 rfl (?_ : RR _ _ _ _ 130 _ _ _ _)
                    refine R_icmp_le (t := 143) dX11_reseat_130 rfl (fun c130 => ?_) (fun c130 => ?_)
                    rotate_left
                    · exfalso; omega
                    refine R_iinc dX11_reseat_143 rfl (Nat.le_of_ble_eq_true rfl) (?_ : RR _ _ _ _ 146 [_, _, _, _, _, _, _, _] _ _ _)
                    refine R_goto (t := 62) dX11_reseat_146 rfl (?_ : RR _ _ _ _ 62 _ _ _ _)
                    exact IH2 _
                refine R_iload dX11_reseat_62 rfl (?_ : RR _ _ _ _ 64 _ _ _ _)
                refine R_aload_n dX11_reseat_64 rfl (?_ : RR _ _ _ _ 65 _ _ _ _)
                refine R_getr dX11_reseat_65 flX11_36 cok_11 rfl (by decide) (?_ : RR _ _ _ _ 68 _ _ _ _)
                refine R_geti (z := 2) dX11_reseat_68 flX11_349 cok_9 rfl (by decide) rfl (fun q68 => (?_ : RR _ _ _ _ 71 _ _ _ _))
                rw [g2] at q68 ⊢
                refine R_icmp_ge (t := 149) dX11_reseat_71 rfl (fun c71 => ?_) (fun c71 => ?_)
                · exfalso; omega
                refine R_iconst dX11_reseat_74 (?_ : RR _ _ _ _ 75 _ _ _ _)
                refine R_istore dX11_reseat_75 (Nat.le_of_ble_eq_true rfl) (?_ : RR _ _ _ _ 77 [_, _, _, _, _, _, _, _] _ _ _)
                refine R_aload_n dX11_reseat_77 rfl (?_ : RR _ _ _ _ 78 _ _ _ _)
                refine R_iload dX11_reseat_78 rfl (?_ : RR _ _ _ _ 80 _ _ _ _)
                refine R_iload dX11_reseat_80 rfl (?_ : RR _ _ _ _ 82 _ _ _ _)
                refine R_cVi2 dX11_reseat_82 mvX11_canMove mlX11_352 (by decide) (by decide) (Nat.le_of_ble_eq_true rfl) (Nat.le_of_ble_eq_true rfl) (hcm) (?_ : RR _ _ _ _ 85 _ _ _ _)
                rw [if_pos y]
                refine R_if_eq (t := 127) dX11_reseat_85 rfl (fun c85 => ?_) (fun c85 => ?_)
                · exfalso; omega
                refine R_aload_n dX11_reseat_88 rfl (?_ : RR _ _ _ _ 89 _ _ _ _)
                refine R_getr dX11_reseat_89 flX11_43 cok_11 rfl (by decide) (?_ : RR _ _ _ _ 92 _ _ _ _)
                refine R_aload_n dX11_reseat_92 rfl (?_ : RR _ _ _ _ 93 _ _ _ _)
                refine R_getr dX11_reseat_93 flX11_36 cok_11 rfl (by decide) (?_ : RR _ _ _ _ 96 _ _ _ _)
                refine R_cVv1 dX11_reseat_96 mvX9_copyFrom mlX11_231 (by decide) (by decide) (Nat.le_of_ble_eq_true rfl) (Nat.le_of_ble_eq_true rfl) (T_X9_copyFrom) (?_ : RR _ _ _ _ 99 _ _ _ _)
                refine R_aload_n dX11_reseat_99 rfl (?_ : RR _ _ _ _ 100 _ _ _ _)
                refine R_getr dX11_reseat_100 flX11_43 cok_11 rfl (by decide) (?_ : RR _ _ _ _ 103 _ _ _ _)
                refine R_getr dX11_reseat_103 flX11_205 cok_9 rfl (by decide) (?_ : RR _ _ _ _ 106 _ _ _ _)
                refine R_iload dX11_reseat_106 rfl (?_ : RR _ _ _ _ 108 _ _ _ _)
                refine R_iload dX11_reseat_108 rfl (?_ : RR _ _ _ _ 110 _ _ _ _)
                refine R_iast dX11_reseat_110 (?_ : RR _ _ _ _ 111 _ _ _ _)
                refine R_aload_n dX11_reseat_111 rfl (?_ : RR _ _ _ _ 112 _ _ _ _)
                refine R_iload_n dX11_reseat_112 rfl (?_ : RR _ _ _ _ 113 _ _ _ _)
                refine R_aload_n dX11_reseat_113 rfl (?_ : RR _ _ _ _ 114 _ _ _ _)
                refine R_getr dX11_reseat_114 flX11_19 cok_11 rfl (by decide) (?_ : RR _ _ _ _ 117 _ _ _ _)
                refine R_aload_n dX11_reseat_117 rfl (?_ : RR _ _ _ _ 118 _ _ _ _)
                refine R_getr dX11_reseat_118 flX11_49 cok_11 rfl (by decide) (?_ : RR _ _ _ _ 121 _ _ _ _)
                refine R_iconst dX11_reseat_121 (?_ : RR _ _ _ _ 122 _ _ _ _)
                refine R_qV4 dX11_reseat_122 mvX11_outMoreIn mlX11_308 (by decide) (by decide) (Nat.le_of_ble_eq_true rfl) (Nat.le_of_ble_eq_true rfl) (hpo) (fun r9 g9 hq9 => (?_ : RR _ _ _ _ 125 _ _ _ _))
                obtain ⟨rfl, h5, len5, rfl, hf5, hc5⟩ := hq9
                show RR _ _ _ _ _ _ [pI (vl p c)] _ _
                refine R_istore dX11_reseat_125 (Nat.le_of_ble_eq_true rfl) (?_ : RR _ _ _ _ 127 [_, _, _, _, _, _, _, _] _ _ _)
                exact K h5 (trF_on2 hF hf5)
              · have hcy : ¬ cn p c = true := by rw [hcn]; simpa using y
                have IH2 := fun w7 => IH h1 w7 hF
                rw [if_neg (fun z => hcy z.1)] at IH2
                refine R_iload dX11_reseat_62 rfl (?_ : RR _ _ _ _ 64 _ _ _ _)
                refine R_aload_n dX11_reseat_64 rfl (?_ : RR _ _ _ _ 65 _ _ _ _)
                refine R_getr dX11_reseat_65 flX11_36 cok_11 rfl (by decide) (?_ : RR _ _ _ _ 68 _ _ _ _)
                refine R_geti (z := 2) dX11_reseat_68 flX11_349 cok_9 rfl (by decide) rfl (fun q68 => (?_ : RR _ _ _ _ 71 _ _ _ _))
                rw [g2] at q68 ⊢
                refine R_icmp_ge (t := 149) dX11_reseat_71 rfl (fun c71 => ?_) (fun c71 => ?_)
                · exfalso; omega
                refine R_iconst dX11_reseat_74 (?_ : RR _ _ _ _ 75 _ _ _ _)
                refine R_istore dX11_reseat_75 (Nat.le_of_ble_eq_true rfl) (?_ : RR _ _ _ _ 77 [_, _, _, _, _, _, _, _] _ _ _)
                refine R_aload_n dX11_reseat_77 rfl (?_ : RR _ _ _ _ 78 _ _ _ _)
                refine R_iload dX11_reseat_78 rfl (?_ : RR _ _ _ _ 80 _ _ _ _)
                refine R_iload dX11_reseat_80 rfl (?_ : RR _ _ _ _ 82 _ _ _ _)
                refine R_cVi2 dX11_reseat_82 mvX11_canMove mlX11_352 (by decide) (by decide) (Nat.le_of_ble_eq_true rfl) (Nat.le_of_ble_eq_true rfl) (hcm) (?_ : RR _ _ _ _ 85 _ _ _ _)
                rw [if_neg y]
                refine R_if_eq (t := 127) dX11_reseat_85 rfl (fun c85 => ?_) (fun c85 => ?_)
                rotate_left
                · exfalso; omega
                refine R_iload dX11_reseat_127 rfl (?_ : RR _ _ _ _ 129 _ _ _ _)
                refine R_iload_n dX11_reseat_129 rfl (?_ : RR _ _ _ _ 130 _ _ _ _)
                refine R_icmp_le (t := 143) dX11_reseat_130 rfl (fun c130 => ?_) (fun c130 => ?_)
                rotate_left
                · exfalso; omega
                refine R_iinc dX11_reseat_143 rfl (Nat.le_of_ble_eq_true rfl) (?_ : RR _ _ _ _ 146 [_, _, _, _, _, _, _, _] _ _ _)
                refine R_goto (t := 62) dX11_reseat_146 rfl (?_ : RR _ _ _ _ 62 _ _ _ _)
                exact IH2 _
          have g11 : h1 11 0 = np := by rw [hF 11 (by omega)]; exact h11
          refine R_iload dX11_reseat_47 rfl (?_ : RR _ _ _ _ 49 _ _ _ _)
          refine R_aload_n dX11_reseat_49 rfl (?_ : RR _ _ _ _ 50 _ _ _ _)
          refine R_getr dX11_reseat_50 flX11_29 cok_11 rfl (by decide) (?_ : RR _ _ _ _ 53 _ _ _ _)
          refine R_geti (z := 0) dX11_reseat_53 flX11_116 cok_2 rfl (by decide) rfl (fun q53 => (?_ : RR _ _ _ _ 56 _ _ _ _))
          rw [g11] at q53 ⊢
          refine R_icmp_ge (t := 155) dX11_reseat_56 rfl (fun c56 => ?_) (fun c56 => ?_)
          · exfalso; omega
          refine R_iconst dX11_reseat_59 (?_ : RR _ _ _ _ 60 _ _ _ _)
          refine R_istore dX11_reseat_60 (Nat.le_of_ble_eq_true rfl) (?_ : RR _ _ _ _ 62 [_, _, _, _, _, _, _, _] _ _ _)
          exact L2 nc 0 h1 _ (by omega) hF
      obtain ⟨k1, k2, k3, k4⟩ := tri hs
      have hpo := C_outMoreIn (m := n) (bh := 0) hX k3 k1 k2 (by omega) (by omega) (by omega) k4
      rw [← hXe, show (oMn X (xIt X 0 n (h 154)) : Int) - oMn X (h 154) = s0.1 by rw [hs0]] at hpo
      have L10 := fun h1 hF => L1 np 0 h1 pU pU (by omega) hF
      rw [show it (rsP cn vl nc) s0 0 = s0 from rfl, show s0.2.1 = -1 by rw [hs0], show s0.2.2 = -1 by rw [hs0]] at L10
      have b0 := hb0.1
      refine R_iload_n dX11_reseat_0 rfl (?_ : RR _ _ _ _ 1 _ _ _ _)
      refine R_iconst dX11_reseat_1 (?_ : RR _ _ _ _ 2 _ _ _ _)
      refine R_icmp_lt (t := 11) dX11_reseat_2 rfl (fun c2 => ?_) (fun c2 => ?_)
      · exfalso; omega
      refine R_iload_n dX11_reseat_5 rfl (?_ : RR _ _ _ _ 6 _ _ _ _)
      refine R_bipush dX11_reseat_6 rfl (?_ : RR _ _ _ _ 8 _ _ _ _)
      refine R_icmp_le (t := 13) dX11_reseat_8 rfl (fun c8 => ?_) (fun c8 => ?_)
      rotate_left
      · exfalso; omega
      refine R_aload_n dX11_reseat_13 rfl (?_ : RR _ _ _ _ 14 _ _ _ _)
      refine R_getr dX11_reseat_14 flX11_43 cok_11 rfl (by decide) (?_ : RR _ _ _ _ 17 _ _ _ _)
      refine R_aload_n dX11_reseat_17 rfl (?_ : RR _ _ _ _ 18 _ _ _ _)
      refine R_getr dX11_reseat_18 flX11_36 cok_11 rfl (by decide) (?_ : RR _ _ _ _ 21 _ _ _ _)
      refine R_cVv1 dX11_reseat_21 mvX9_copyFrom mlX11_231 (by decide) (by decide) (Nat.le_of_ble_eq_true rfl) (Nat.le_of_ble_eq_true rfl) (T_X9_copyFrom) (?_ : RR _ _ _ _ 24 _ _ _ _)
      refine R_aload_n dX11_reseat_24 rfl (?_ : RR _ _ _ _ 25 _ _ _ _)
      refine R_iload_n dX11_reseat_25 rfl (?_ : RR _ _ _ _ 26 _ _ _ _)
      refine R_aload_n dX11_reseat_26 rfl (?_ : RR _ _ _ _ 27 _ _ _ _)
      refine R_getr dX11_reseat_27 flX11_19 cok_11 rfl (by decide) (?_ : RR _ _ _ _ 30 _ _ _ _)
      refine R_aload_n dX11_reseat_30 rfl (?_ : RR _ _ _ _ 31 _ _ _ _)
      refine R_getr dX11_reseat_31 flX11_49 cok_11 rfl (by decide) (?_ : RR _ _ _ _ 34 _ _ _ _)
      refine R_iconst dX11_reseat_34 (?_ : RR _ _ _ _ 35 _ _ _ _)
      refine R_qV4 dX11_reseat_35 mvX11_outMoreIn mlX11_308 (by decide) (by decide) (Nat.le_of_ble_eq_true rfl) (Nat.le_of_ble_eq_true rfl) (hpo) (fun r9 g9 hq9 => (?_ : RR _ _ _ _ 38 _ _ _ _))
      obtain ⟨rfl, h2, len2, rfl, hf2, hc2⟩ := hq9
      show RR _ _ _ _ _ _ [pI s0.1] _ _
      refine R_istore_n dX11_reseat_38 (Nat.le_of_ble_eq_true rfl) (?_ : RR _ _ _ _ 39 [_, _, _, _, _, _, _, _] _ _ _)
      refine R_iconst dX11_reseat_39 (?_ : RR _ _ _ _ 40 _ _ _ _)
      refine R_istore_n dX11_reseat_40 (Nat.le_of_ble_eq_true rfl) (?_ : RR _ _ _ _ 41 [_, _, _, _, _, _, _, _] _ _ _)
      refine R_iconst dX11_reseat_41 (?_ : RR _ _ _ _ 42 _ _ _ _)
      refine R_istore dX11_reseat_42 (Nat.le_of_ble_eq_true rfl) (?_ : RR _ _ _ _ 44 [_, _, _, _, _, _, _, _] _ _ _)
      refine R_iconst dX11_reseat_44 (?_ : RR _ _ _ _ 45 _ _ _ _)
      refine R_istore dX11_reseat_45 (Nat.le_of_ble_eq_true rfl) (?_ : RR _ _ _ _ 47 [_, _, _, _, _, _, _, _] _ _ _)
      exact L10 h2 (trF_on trF_rf hf2)
    · show RR _ _ _ _ _ [pR 147, pI n, pU, pU, pU, pU, pU, pU] _ _ _
      have E154 : h3 154 = h 154 := e 154 (by omega)
      have L1 : ∀ (j p : Nat) (h1 : Nat → Int → Int) (w6 w7 : PV), p + j = np → mlp h3 h1 → RR mX12_reseat 10 0 0 37 [pR 147, pI n, pI (it (rsP cn vl nc) s0 p).1, pI (it (rsP cn vl nc) s0 p).2.1, pI (it (rsP cn vl nc) s0 p).2.2, pI p, w6, w7] [] (shp0, rf0, h1) (mQ h3 F.1 (some [F.2.1, F.2.2])) := by
        intro j
        induction j with
        | zero =>
          intro p h1 w6 w7 hp hF
          obtain rfl : p = np := by omega
          have g5 : h1 147 5 = p := by rw [hF.2.1 5 (by omega) (by omega), e 147 (by omega)]; exact h5
          have bp := bP p (by omega)
          rw [← hF9] at bp ⊢
          refine R_iload dX12_reseat_37 rfl (?_ : RR _ _ _ _ 39 _ _ _ _)
          refine R_aload_n dX12_reseat_39 rfl (?_ : RR _ _ _ _ 40 _ _ _ _)
          refine R_geti (z := 5) dX12_reseat_40 flX12_127 cok_12 rfl (by decide) rfl (fun q40 => (?_ : RR _ _ _ _ 43 _ _ _ _))
          rw [g5] at q40 ⊢
          refine R_icmp_ge (t := 152) dX12_reseat_43 rfl (fun c43 => ?_) (fun c43 => ?_)
          rotate_left
          · exfalso; omega
          refine R_aload_n dX12_reseat_152 rfl (?_ : RR _ _ _ _ 153 _ _ _ _)
          refine R_iconst dX12_reseat_153 (?_ : RR _ _ _ _ 154 _ _ _ _)
          refine R_puti (zk := 1) dX12_reseat_154 flX12_113 cok_12 (by decide) (fun q hq => by cases hq; rfl) rfl (?_ : RR _ _ _ _ 157 _ _ _ _)
          show RR _ _ _ _ _ _ _ (shp0, rf0, tmR h1 []) _
          refine R_aload_n dX12_reseat_157 rfl (?_ : RR _ _ _ _ 158 _ _ _ _)
          refine R_iload_n dX12_reseat_158 rfl (?_ : RR _ _ _ _ 159 _ _ _ _)
          refine R_i2l dX12_reseat_159 (by first | assumption | omega) (?_ : RR _ _ _ _ 160 _ _ _ _)
          refine R_cVv1 dX12_reseat_160 mvX12_enters mlX12_116 (by decide) (by decide) (Nat.le_of_ble_eq_true rfl) (Nat.le_of_ble_eq_true rfl) (T_tma (by simp) (by omega)) (?_ : RR _ _ _ _ 163 _ _ _ _)
          refine R_aload_n dX12_reseat_163 rfl (?_ : RR _ _ _ _ 164 _ _ _ _)
          refine R_iload dX12_reseat_164 rfl (?_ : RR _ _ _ _ 166 _ _ _ _)
          refine R_i2l dX12_reseat_166 (by first | assumption | omega) (?_ : RR _ _ _ _ 167 _ _ _ _)
          refine R_cVv1 dX12_reseat_167 mvX12_enters mlX12_116 (by decide) (by decide) (Nat.le_of_ble_eq_true rfl) (Nat.le_of_ble_eq_true rfl) (T_tma (by simp) (by omega)) (?_ : RR _ _ _ _ 170 _ _ _ _)
          refine R_iload_n dX12_reseat_170 rfl (?_ : RR _ _ _ _ 171 _ _ _ _)
          exact R_ireturn dX12_reseat_171 trivial (mQ_tm (mq_mlp hs e hF) rfl)
        | succ j ih =>
          intro p h1 w6 w7 hp hF
          have bp := bP p (by omega)
          have bC := rsC_b (cn := cn) (vl := vl) (p := p) hvb x6 (by omega) bp
          have eS : it (rsP cn vl nc) s0 (p + 1) = it (rsC cn vl p) (it (rsP cn vl nc) s0 p) nc := rfl
          generalize it (rsP cn vl nc) s0 p = S at bp bC eS ⊢
          have L2 : ∀ (j2 c : Nat) (h1 : Nat → Int → Int) (w7 : PV), c + j2 = nc → mlp h3 h1 → RR mX12_reseat 10 0 0 49 [pR 147, pI n, pI (it (rsC cn vl p) S c).1, pI (it (rsC cn vl p) S c).2.1, pI (it (rsC cn vl p) S c).2.2, pI p, pI c, w7] [] (shp0, rf0, h1) (mQ h3 F.1 (some [F.2.1, F.2.2])) := by
            intro j2
            induction j2 with
            | zero =>
              intro c h1 w7 hcc hF
              obtain rfl : c = nc := by omega
              have g4 : h1 147 4 = c := by rw [hF.2.1 4 (by omega) (by omega), e 147 (by omega)]; exact h4c
              have IH := fun w6 w7 => ih (p + 1) h1 w6 w7 (by omega) hF
              rw [eS] at IH
              refine R_iload dX12_reseat_49 rfl (?_ : RR _ _ _ _ 51 _ _ _ _)
              refine R_aload_n dX12_reseat_51 rfl (?_ : RR _ _ _ _ 52 _ _ _ _)
              refine R_geti (z := 4) dX12_reseat_52 flX12_124 cok_12 rfl (by decide) rfl (fun q52 => (?_ : RR _ _ _ _ 55 _ _ _ _))
              rw [g4] at q52 ⊢
              refine R_icmp_ge (t := 146) dX12_reseat_55 rfl (fun c55 => ?_) (fun c55 => ?_)
              rotate_left
              · exfalso; omega
              refine R_iinc dX12_reseat_146 rfl (Nat.le_of_ble_eq_true rfl) (?_ : RR _ _ _ _ 149 [_, _, _, _, _, _, _, _] _ _ _)
              refine R_goto (t := 37) dX12_reseat_149 rfl (?_ : RR _ _ _ _ 37 _ _ _ _)
              exact IH _ _
            | succ j2 ih2 =>
              intro c h1 w7 hcc hF
              have g4 : h1 147 4 = nc := by rw [hF.2.1 4 (by omega) (by omega), e 147 (by omega)]; exact h4c
              have g5 : h1 147 5 = np := by rw [hF.2.1 5 (by omega) (by omega), e 147 (by omega)]; exact h5
              have g154 : h1 154 = h 154 := by rw [hF.1 154 (by omega) (by omega) (by omega) (by omega) (by omega)]; exact E154
              have hsr : ∀ j : Nat, j < np → mS (h1 154) j = -1 ∨ (0 ≤ mS (h1 154) j ∧ mS (h1 154) j < 6) := fun j hj => by
                rw [g154]
                have : mS (h 154) j = -1 ∨ (0 ≤ mS (h 154) j ∧ mS (h 154) j < nc ∧ _) := hf.2.2.2.2.2 j hj
                omega
              have hmp := fOK_pl hf (c := (c : Int)) (by omega) (show (c : Int) < nc by omega)
              have fl : len ≤ nc := hf.2.2.1
              have hsp2 : mS (h 154) p = -1 ∨ (0 ≤ mS (h 154) p ∧ mS (h 154) p < nc ∧ _) := hf.2.2.2.2.2 p (show p < np by omega)
              have bc := bC c (by omega)
              have e9 : it (rsC cn vl p) S (c + 1) = rsC cn vl p c (it (rsC cn vl p) S c) := rfl
              have IH := fun h1 w7 hF => ih2 (c + 1) h1 w7 (by omega) hF
              rw [e9] at IH
              generalize it (rsC cn vl p) S c = s at bc IH ⊢
              unfold rsC at IH
              have hbit : (bset (ridP (h 154)) np).testBit p = ridP (h 154) p := by rw [bset_bit, decide_eq_true (show p < np by omega), Bool.true_and]
              have hsI : h 154 (14 + (p : Int)) = mS (h 154) p := rfl
              by_cases y : cnM (h 154) p c
              · have hcy : cn p c = true := by rw [hcn]; exact decide_eq_true y
                have hvpc := hvb p c
                have hvpc2 := hvb2 p c
                have hve : (oMn X (xIt X 0 n (fup (h 154) (14 + p) c)) : Int) - oMn X (h 154) = vl p c := by rw [hvl]
                obtain ⟨hB, eX⟩ := MBk_l (f := fup (h 154) (14 + p) c) hs hk e hF (by rw [← hXe]; exact hokS p c (by omega) (by omega) y) (by rw [fup_n (by omega)]; omega)
                have hpo := M_outIn (m := n) hB (by omega) (by rw [rup_s, fup_n (by omega)]; omega)
                rw [eX, rup_s, rup_n (by omega), g154, ← hXe, hve] at hpo
                have K : ∀ (h2 : Nat → Int → Int), mlp h3 h2 → RR mX12_reseat 10 0 0 122 [pR 147, pI n, pI s.1, pI s.2.1, pI s.2.2, pI p, pI c, w7] [pI (vl p c)] (shp0, rf0, h2) (mQ h3 F.1 (some [F.2.1, F.2.2])) := by
                  intro h2 hF2
                  have IH2 := fun w7 => IH h2 w7 hF2
                  by_cases u : s.1 < vl p c
                  · rw [if_pos ⟨hcy, u⟩] at IH2
                    refine R_istore dX12_reseat_122 (Nat.le_of_ble_eq_true rfl) (?_ : RR _ _ _ _ 124 [_, _, _, _, _, _, _, _] _ _ _)
                    refine R_iload dX12_reseat_124 rfl (?_ : RR _ _ _ _ 126 _ _ _ _)
                    refine R_iload_n dX12_reseat_126 rfl (?_ : RR _ _ _ _ 127 _ _ _ _)
                    refine R_icmp_le (t := 140) dX12_reseat_127 rfl (fun c127 => ?_) (fun c127 => ?_)
                    · exfalso; omega
                    refine R_iload dX12_reseat_130 rfl (?_ : RR _ _ _ _ 132 _ _ _ _)
                    refine R_istore_n dX12_reseat_132 (Nat.le_of_ble_eq_true rfl) (?_ : RR _ _ _ _ 133 [_, _, _, _, _, _, _, _] _ _ _)
                    refine R_iload dX12_reseat_133 rfl (?_ : RR _ _ _ _ 135 _ _ _ _)
                    refine R_istore_n dX12_reseat_135 (Nat.le_of_ble_eq_true rfl) (?_ : RR _ _ _ _ 136 [_, _, _, _, _, _, _, _] _ _ _)
                    refine R_iload dX12_reseat_136 rfl (?_ : RR _ _ _ _ 138 _ _ _ _)
                    refine R_istore dX12_reseat_138 (Nat.le_of_ble_eq_true rfl) (?_ : RR _ _ _ _ 140 [_, _, _, _, _, _, _, _] _ _ _)
                    refine R_iinc dX12_reseat_140 rfl (Nat.le_of_ble_eq_true rfl) (?_ : RR _ _ _ _ 143 [_, _, _, _, _, _, _, _] _ _ _)
                    refine R_goto (t := 49) dX12_reseat_143 rfl (?_ : RR _ _ _ _ 49 _ _ _ _)
                    exact IH2 _
                  · rw [if_neg (fun z => u z.2)] at IH2
                    refine R_istore dX12_reseat_122 (Nat.le_of_ble_eq_true rfl) (?_ : RR _ _ _ _ 124 [_, _, _, _, _, _, _, _] _ _ _)
                    refine R_iload dX12_reseat_124 rfl (?_ : RR _ _ _ _ 126 _ _ _ _)
                    refine R_iload_n dX12_reseat_126 rfl (?_ : RR _ _ _ _ 127 _ _ _ _)
                    refine R_icmp_le (t := 140) dX12_reseat_127 rfl (fun c127 => ?_) (fun c127 => ?_)
                    rotate_left
                    · exfalso; omega
                    refine R_iinc dX12_reseat_140 rfl (Nat.le_of_ble_eq_true rfl) (?_ : RR _ _ _ _ 143 [_, _, _, _, _, _, _, _] _ _ _)
                    refine R_goto (t := 49) dX12_reseat_143 rfl (?_ : RR _ _ _ _ 49 _ _ _ _)
                    exact IH2 _
                refine R_iload dX12_reseat_49 rfl (?_ : RR _ _ _ _ 51 _ _ _ _)
                refine R_aload_n dX12_reseat_51 rfl (?_ : RR _ _ _ _ 52 _ _ _ _)
                refine R_geti (z := 4) dX12_reseat_52 flX12_124 cok_12 rfl (by decide) rfl (fun q52 => (?_ : RR _ _ _ _ 55 _ _ _ _))
                rw [g4] at q52 ⊢
                refine R_icmp_ge (t := 146) dX12_reseat_55 rfl (fun c55 => ?_) (fun c55 => ?_)
                · first | (exfalso; omega) | (exfalso; exact y.2.2 (by assumption)) | (exfalso; have := y.2.1; omega)
                refine R_aload_n dX12_reseat_58 rfl (?_ : RR _ _ _ _ 59 _ _ _ _)
                refine R_aload_n dX12_reseat_59 rfl (?_ : RR _ _ _ _ 60 _ _ _ _)
                refine R_getr dX12_reseat_60 flX12_33 cok_12 rfl (by decide) (?_ : RR _ _ _ _ 63 _ _ _ _)
                refine R_cVi1 dX12_reseat_63 mvX12_riding mlX12_303 (by decide) (by decide) (Nat.le_of_ble_eq_true rfl) (Nat.le_of_ble_eq_true rfl) (T_X12_riding (np := np) hsr g5) (?_ : RR _ _ _ _ 66 _ _ _ _)
                rw [g154]
                refine R_iload dX12_reseat_66 rfl (?_ : RR _ _ _ _ 68 _ _ _ _)
                refine R_cSi2 dX12_reseat_68 msX12_has mlX12_288 (by decide) (Nat.le_of_ble_eq_true rfl) (Nat.le_of_ble_eq_true rfl) (T_X12_has (bset_31 (by omega))) (?_ : RR _ _ _ _ 71 _ _ _ _)
                rw [hbit, if_pos y.1]
                refine R_if_eq (t := 140) dX12_reseat_71 rfl (fun c71 => ?_) (fun c71 => ?_)
                · first | (exfalso; omega) | (exfalso; exact y.2.2 (by assumption)) | (exfalso; have := y.2.1; omega)
                refine R_aload_n dX12_reseat_74 rfl (?_ : RR _ _ _ _ 75 _ _ _ _)
                refine R_getr dX12_reseat_75 flX12_33 cok_12 rfl (by decide) (?_ : RR _ _ _ _ 78 _ _ _ _)
                refine R_iload dX12_reseat_78 rfl (?_ : RR _ _ _ _ 80 _ _ _ _)
                refine R_cSi2 dX12_reseat_80 msX12_placeOf mlX12_130 (by decide) (Nat.le_of_ble_eq_true rfl) (Nat.le_of_ble_eq_true rfl) (T_X12_placeOf) (?_ : RR _ _ _ _ 83 _ _ _ _)
                rw [g154]
                refine R_if_lt (t := 140) dX12_reseat_83 rfl (fun c83 => ?_) (fun c83 => ?_)
                · first | (exfalso; omega) | (exfalso; exact y.2.2 (by assumption)) | (exfalso; have := y.2.1; omega)
                refine R_aload_n dX12_reseat_86 rfl (?_ : RR _ _ _ _ 87 _ _ _ _)
                refine R_getr dX12_reseat_87 flX12_33 cok_12 rfl (by decide) (?_ : RR _ _ _ _ 90 _ _ _ _)
                refine R_bipush dX12_reseat_90 rfl (?_ : RR _ _ _ _ 92 _ _ _ _)
                refine R_iload dX12_reseat_92 rfl (?_ : RR _ _ _ _ 94 _ _ _ _)
                refine R_iadd dX12_reseat_94 (?_ : RR _ _ _ _ 95 _ _ _ _)
                refine R_iald dX12_reseat_95 (fun q95 => (?_ : RR _ _ _ _ 96 _ _ _ _))
                rw [g154, hsI] at q95 ⊢
                refine R_iload dX12_reseat_96 rfl (?_ : RR _ _ _ _ 98 _ _ _ _)
                refine R_icmp_eq (t := 140) dX12_reseat_98 rfl (fun c98 => ?_) (fun c98 => ?_)
                · first | (exfalso; omega) | (exfalso; exact y.2.2 (by assumption)) | (exfalso; have := y.2.1; omega)
                refine R_aload_n dX12_reseat_101 rfl (?_ : RR _ _ _ _ 102 _ _ _ _)
                refine R_cVv0 dX12_reseat_102 mvX12_puts mlX12_407 (by decide) (by decide) (Nat.le_of_ble_eq_true rfl) (Nat.le_of_ble_eq_true rfl) (T_X12_puts (by rw [g154, ← E154]; exact hF.2.2.2)) (?_ : RR _ _ _ _ 105 _ _ _ _)
                rw [g154]
                refine R_aload_n dX12_reseat_105 rfl (?_ : RR _ _ _ _ 106 _ _ _ _)
                refine R_getr dX12_reseat_106 flX12_36 cok_12 rfl (by decide) (?_ : RR _ _ _ _ 109 _ _ _ _)
                refine R_bipush dX12_reseat_109 rfl (?_ : RR _ _ _ _ 111 _ _ _ _)
                refine R_iload dX12_reseat_111 rfl (?_ : RR _ _ _ _ 113 _ _ _ _)
                refine R_iadd dX12_reseat_113 (?_ : RR _ _ _ _ 114 _ _ _ _)
                refine R_iload dX12_reseat_114 rfl (?_ : RR _ _ _ _ 116 _ _ _ _)
                refine R_iast dX12_reseat_116 (?_ : RR _ _ _ _ 117 _ _ _ _)
                simp (disch := omega) only [rup_rup, rup_s]
                refine R_aload_n dX12_reseat_117 rfl (?_ : RR _ _ _ _ 118 _ _ _ _)
                refine R_iload_n dX12_reseat_118 rfl (?_ : RR _ _ _ _ 119 _ _ _ _)
                refine R_qV1 dX12_reseat_119 mvX12_outIn mlX12_415 (by decide) (by decide) (Nat.le_of_ble_eq_true rfl) (Nat.le_of_ble_eq_true rfl) (hpo) (fun r9 g9 hq9 => (?_ : RR _ _ _ _ 122 _ _ _ _))
                obtain ⟨rfl, h6, rfl, hf6, e6⟩ := hq9
                show RR _ _ _ _ _ _ [pI (vl p c)] _ _
                exact K h6 (mlp_tn hF hf6 (by rw [e6, E154]; exact oor_tr (xIt_oor (by rw [hXC]; exact x6) (by rw [hXP]; exact x12) _ _) (fup_oor (by omega))))
              · have hcy : ¬ cn p c = true := by rw [hcn]; simpa using y
                have IH2 := fun w7 => IH h1 w7 hF
                rw [if_neg (fun z => hcy z.1)] at IH2
                by_cases r1 : ridP (h 154) p = true
                · by_cases r2 : 0 ≤ mP (h 154) c
                  · have r3 : mS (h 154) p = c := Decidable.byContradiction (fun z => y ⟨r1, r2, z⟩)
                    refine R_iload dX12_reseat_49 rfl (?_ : RR _ _ _ _ 51 _ _ _ _)
                    refine R_aload_n dX12_reseat_51 rfl (?_ : RR _ _ _ _ 52 _ _ _ _)
                    refine R_geti (z := 4) dX12_reseat_52 flX12_124 cok_12 rfl (by decide) rfl (fun q52 => (?_ : RR _ _ _ _ 55 _ _ _ _))
                    rw [g4] at q52 ⊢
                    refine R_icmp_ge (t := 146) dX12_reseat_55 rfl (fun c55 => ?_) (fun c55 => ?_)
                    · exfalso; omega
                    refine R_aload_n dX12_reseat_58 rfl (?_ : RR _ _ _ _ 59 _ _ _ _)
                    refine R_aload_n dX12_reseat_59 rfl (?_ : RR _ _ _ _ 60 _ _ _ _)
                    refine R_getr dX12_reseat_60 flX12_33 cok_12 rfl (by decide) (?_ : RR _ _ _ _ 63 _ _ _ _)
                    refine R_cVi1 dX12_reseat_63 mvX12_riding mlX12_303 (by decide) (by decide) (Nat.le_of_ble_eq_true rfl) (Nat.le_of_ble_eq_true rfl) (T_X12_riding (np := np) hsr g5) (?_ : RR _ _ _ _ 66 _ _ _ _)
                    rw [g154]
                    refine R_iload dX12_reseat_66 rfl (?_ : RR _ _ _ _ 68 _ _ _ _)
                    refine R_cSi2 dX12_reseat_68 msX12_has mlX12_288 (by decide) (Nat.le_of_ble_eq_true rfl) (Nat.le_of_ble_eq_true rfl) (T_X12_has (bset_31 (by omega))) (?_ : RR _ _ _ _ 71 _ _ _ _)
                    rw [hbit, if_pos r1]
                    refine R_if_eq (t := 140) dX12_reseat_71 rfl (fun c71 => ?_) (fun c71 => ?_)
                    · exfalso; omega
                    refine R_aload_n dX12_reseat_74 rfl (?_ : RR _ _ _ _ 75 _ _ _ _)
                    refine R_getr dX12_reseat_75 flX12_33 cok_12 rfl (by decide) (?_ : RR _ _ _ _ 78 _ _ _ _)
                    refine R_iload dX12_reseat_78 rfl (?_ : RR _ _ _ _ 80 _ _ _ _)
                    refine R_cSi2 dX12_reseat_80 msX12_placeOf mlX12_130 (by decide) (Nat.le_of_ble_eq_true rfl) (Nat.le_of_ble_eq_true rfl) (T_X12_placeOf) (?_ : RR _ _ _ _ 83 _ _ _ _)
                    rw [g154]
                    refine R_if_lt (t := 140) dX12_reseat_83 rfl (fun c83 => ?_) (fun c83 => ?_)
                    · exfalso; omega
                    refine R_aload_n dX12_reseat_86 rfl (?_ : RR _ _ _ _ 87 _ _ _ _)
                    refine R_getr dX12_reseat_87 flX12_33 cok_12 rfl (by decide) (?_ : RR _ _ _ _ 90 _ _ _ _)
                    refine R_bipush dX12_reseat_90 rfl (?_ : RR _ _ _ _ 92 _ _ _ _)
                    refine R_iload dX12_reseat_92 rfl (?_ : RR _ _ _ _ 94 _ _ _ _)
                    refine R_iadd dX12_reseat_94 (?_ : RR _ _ _ _ 95 _ _ _ _)
                    refine R_iald dX12_reseat_95 (fun q95 => (?_ : RR _ _ _ _ 96 _ _ _ _))
                    rw [g154, hsI] at q95 ⊢
                    refine R_iload dX12_reseat_96 rfl (?_ : RR _ _ _ _ 98 _ _ _ _)
                    refine R_icmp_eq (t := 140) dX12_reseat_98 rfl (fun c98 => ?_) (fun c98 => ?_)
                    rotate_left
                    · exfalso; omega
                    refine R_iinc dX12_reseat_140 rfl (Nat.le_of_ble_eq_true rfl) (?_ : RR _ _ _ _ 143 [_, _, _, _, _, _, _, _] _ _ _)
                    refine R_goto (t := 49) dX12_reseat_143 rfl (?_ : RR _ _ _ _ 49 _ _ _ _)
                    exact IH2 _
                  · refine R_iload dX12_reseat_49 rfl (?_ : RR _ _ _ _ 51 _ _ _ _)
                    refine R_aload_n dX12_reseat_51 rfl (?_ : RR _ _ _ _ 52 _ _ _ _)
                    refine R_geti (z := 4) dX12_reseat_52 flX12_124 cok_12 rfl (by decide) rfl (fun q52 => (?_ : RR _ _ _ _ 55 _ _ _ _))
                    rw [g4] at q52 ⊢
                    refine R_icmp_ge (t := 146) dX12_reseat_55 rfl (fun c55 => ?_) (fun c55 => ?_)
                    · exfalso; omega
                    refine R_aload_n dX12_reseat_58 rfl (?_ : RR _ _ _ _ 59 _ _ _ _)
                    refine R_aload_n dX12_reseat_59 rfl (?_ : RR _ _ _ _ 60 _ _ _ _)
                    refine R_getr dX12_reseat_60 flX12_33 cok_12 rfl (by decide) (?_ : RR _ _ _ _ 63 _ _ _ _)
                    refine R_cVi1 dX12_reseat_63 mvX12_riding mlX12_303 (by decide) (by decide) (Nat.le_of_ble_eq_true rfl) (Nat.le_of_ble_eq_true rfl) (T_X12_riding (np := np) hsr g5) (?_ : RR _ _ _ _ 66 _ _ _ _)
                    rw [g154]
                    refine R_iload dX12_reseat_66 rfl (?_ : RR _ _ _ _ 68 _ _ _ _)
                    refine R_cSi2 dX12_reseat_68 msX12_has mlX12_288 (by decide) (Nat.le_of_ble_eq_true rfl) (Nat.le_of_ble_eq_true rfl) (T_X12_has (bset_31 (by omega))) (?_ : RR _ _ _ _ 71 _ _ _ _)
                    rw [hbit, if_pos r1]
                    refine R_if_eq (t := 140) dX12_reseat_71 rfl (fun c71 => ?_) (fun c71 => ?_)
                    · exfalso; omega
                    refine R_aload_n dX12_reseat_74 rfl (?_ : RR _ _ _ _ 75 _ _ _ _)
                    refine R_getr dX12_reseat_75 flX12_33 cok_12 rfl (by decide) (?_ : RR _ _ _ _ 78 _ _ _ _)
                    refine R_iload dX12_reseat_78 rfl (?_ : RR _ _ _ _ 80 _ _ _ _)
                    refine R_cSi2 dX12_reseat_80 msX12_placeOf mlX12_130 (by decide) (Nat.le_of_ble_eq_true rfl) (Nat.le_of_ble_eq_true rfl) (T_X12_placeOf) (?_ : RR _ _ _ _ 83 _ _ _ _)
                    rw [g154]
                    refine R_if_lt (t := 140) dX12_reseat_83 rfl (fun c83 => ?_) (fun c83 => ?_)
                    rotate_left
                    · exfalso; omega
                    refine R_iinc dX12_reseat_140 rfl (Nat.le_of_ble_eq_true rfl) (?_ : RR _ _ _ _ 143 [_, _, _, _, _, _, _, _] _ _ _)
                    refine R_goto (t := 49) dX12_reseat_143 rfl (?_ : RR _ _ _ _ 49 _ _ _ _)
                    exact IH2 _
                · refine R_iload dX12_reseat_49 rfl (?_ : RR _ _ _ _ 51 _ _ _ _)
                  refine R_aload_n dX12_reseat_51 rfl (?_ : RR _ _ _ _ 52 _ _ _ _)
                  refine R_geti (z := 4) dX12_reseat_52 flX12_124 cok_12 rfl (by decide) rfl (fun q52 => (?_ : RR _ _ _ _ 55 _ _ _ _))
                  rw [g4] at q52 ⊢
                  refine R_icmp_ge (t := 146) dX12_reseat_55 rfl (fun c55 => ?_) (fun c55 => ?_)
                  · exfalso; omega
                  refine R_aload_n dX12_reseat_58 rfl (?_ : RR _ _ _ _ 59 _ _ _ _)
                  refine R_aload_n dX12_reseat_59 rfl (?_ : RR _ _ _ _ 60 _ _ _ _)
                  refine R_getr dX12_reseat_60 flX12_33 cok_12 rfl (by decide) (?_ : RR _ _ _ _ 63 _ _ _ _)
                  refine R_cVi1 dX12_reseat_63 mvX12_riding mlX12_303 (by decide) (by decide) (Nat.le_of_ble_eq_true rfl) (Nat.le_of_ble_eq_true rfl) (T_X12_riding (np := np) hsr g5) (?_ : RR _ _ _ _ 66 _ _ _ _)
                  rw [g154]
                  refine R_iload dX12_reseat_66 rfl (?_ : RR _ _ _ _ 68 _ _ _ _)
                  refine R_cSi2 dX12_reseat_68 msX12_has mlX12_288 (by decide) (Nat.le_of_ble_eq_true rfl) (Nat.le_of_ble_eq_true rfl) (T_X12_has (bset_31 (by omega))) (?_ : RR _ _ _ _ 71 _ _ _ _)
                  rw [hbit, if_neg r1]
                  refine R_if_eq (t := 140) dX12_reseat_71 rfl (fun c71 => ?_) (fun c71 => ?_)
                  rotate_left
                  · exfalso; omega
                  refine R_iinc dX12_reseat_140 rfl (Nat.le_of_ble_eq_true rfl) (?_ : RR _ _ _ _ 143 [_, _, _, _, _, _, _, _] _ _ _)
                  refine R_goto (t := 49) dX12_reseat_143 rfl (?_ : RR _ _ _ _ 49 _ _ _ _)
                  exact IH2 _
          have g5 : h1 147 5 = np := by rw [hF.2.1 5 (by omega) (by omega), e 147 (by omega)]; exact h5
          refine R_iload dX12_reseat_37 rfl (?_ : RR _ _ _ _ 39 _ _ _ _)
          refine R_aload_n dX12_reseat_39 rfl (?_ : RR _ _ _ _ 40 _ _ _ _)
          refine R_geti (z := 5) dX12_reseat_40 flX12_127 cok_12 rfl (by decide) rfl (fun q40 => (?_ : RR _ _ _ _ 43 _ _ _ _))
          rw [g5] at q40 ⊢
          refine R_icmp_ge (t := 152) dX12_reseat_43 rfl (fun c43 => ?_) (fun c43 => ?_)
          · exfalso; omega
          refine R_iconst dX12_reseat_46 (?_ : RR _ _ _ _ 47 _ _ _ _)
          refine R_istore dX12_reseat_47 (Nat.le_of_ble_eq_true rfl) (?_ : RR _ _ _ _ 49 [_, _, _, _, _, _, _, _] _ _ _)
          exact L2 nc 0 h1 _ (by omega) hF
      obtain ⟨hB, eX⟩ := MBk_l (f := h 154) hs hk e (mlp_0 hs e) (by rw [← hXe]; exact hok) (by omega)
      have hpo := M_outIn (m := n) hB (by omega) (by rw [rup_s]; omega)
      rw [eX, rup_s, rup_n (by omega), rup_n (by omega), E154, ← hXe, show (oMn X (xIt X 0 n (h 154)) : Int) - oMn X (h 154) = s0.1 by rw [hs0]] at hpo
      have L10 := fun h1 hF => L1 np 0 h1 pU pU (by omega) hF
      rw [show it (rsP cn vl nc) s0 0 = s0 from rfl, show s0.2.1 = -1 by rw [hs0], show s0.2.2 = -1 by rw [hs0]] at L10
      refine R_aload_n dX12_reseat_0 rfl (?_ : RR _ _ _ _ 1 _ _ _ _)
      refine R_iconst dX12_reseat_1 (?_ : RR _ _ _ _ 2 _ _ _ _)
      refine R_puti (zk := 0) dX12_reseat_2 flX12_106 cok_12 (by decide) (fun q hq => by cases hq; rfl) rfl (?_ : RR _ _ _ _ 5 _ _ _ _)
      refine R_iload_n dX12_reseat_5 rfl (?_ : RR _ _ _ _ 6 _ _ _ _)
      refine R_i2l dX12_reseat_6 (by first | assumption | omega) (?_ : RR _ _ _ _ 7 _ _ _ _)
      refine R_lconst (z := 1) dX12_reseat_7 rfl (?_ : RR _ _ _ _ 8 _ _ _ _)
      refine R_ldc2 (z := 12) dX12_reseat_8 klX12_430 (?_ : RR _ _ _ _ 11 _ _ _ _)
      refine R_cSi3 dX12_reseat_11 msX12_in mlX12_120 (by decide) (Nat.le_of_ble_eq_true rfl) (Nat.le_of_ble_eq_true rfl) (T_X12_in) (?_ : RR _ _ _ _ 14 _ _ _ _)
      rw [if_pos q]
      refine R_if_ne (t := 19) dX12_reseat_14 rfl (fun c14 => ?_) (fun c14 => ?_)
      rotate_left
      · exfalso; omega
      refine R_aload_n dX12_reseat_19 rfl (?_ : RR _ _ _ _ 20 _ _ _ _)
      refine R_cVv0 dX12_reseat_20 mvX12_puts mlX12_407 (by decide) (by decide) (Nat.le_of_ble_eq_true rfl) (Nat.le_of_ble_eq_true rfl) (T_X12_puts (puts_oor hs e)) (?_ : RR _ _ _ _ 23 _ _ _ _)
      rw [rup_n (by omega), E154]
      refine R_aload_n dX12_reseat_23 rfl (?_ : RR _ _ _ _ 24 _ _ _ _)
      refine R_iload_n dX12_reseat_24 rfl (?_ : RR _ _ _ _ 25 _ _ _ _)
      refine R_qV1 dX12_reseat_25 mvX12_outIn mlX12_415 (by decide) (by decide) (Nat.le_of_ble_eq_true rfl) (Nat.le_of_ble_eq_true rfl) (hpo) (fun r9 g9 hq9 => (?_ : RR _ _ _ _ 28 _ _ _ _))
      obtain ⟨rfl, h6, rfl, hf6, e6⟩ := hq9
      show RR _ _ _ _ _ _ [pI s0.1] _ _
      refine R_istore_n dX12_reseat_28 (Nat.le_of_ble_eq_true rfl) (?_ : RR _ _ _ _ 29 [_, _, _, _, _, _, _, _] _ _ _)
      refine R_iconst dX12_reseat_29 (?_ : RR _ _ _ _ 30 _ _ _ _)
      refine R_istore_n dX12_reseat_30 (Nat.le_of_ble_eq_true rfl) (?_ : RR _ _ _ _ 31 [_, _, _, _, _, _, _, _] _ _ _)
      refine R_iconst dX12_reseat_31 (?_ : RR _ _ _ _ 32 _ _ _ _)
      refine R_istore dX12_reseat_32 (Nat.le_of_ble_eq_true rfl) (?_ : RR _ _ _ _ 34 [_, _, _, _, _, _, _, _] _ _ _)
      refine R_iconst dX12_reseat_34 (?_ : RR _ _ _ _ 35 _ _ _ _)
      refine R_istore dX12_reseat_35 (Nat.le_of_ble_eq_true rfl) (?_ : RR _ _ _ _ 37 [_, _, _, _, _, _, _, _] _ _ _)
      exact L10 h6 (mlp_tn (mlp_0 hs e) hf6 (by rw [e6, E154]; exact xIt_oor (by rw [hXC]; exact x6) (by rw [hXP]; exact x12) _ _))
  · refine A_q hs (z := -1) (o := none) (cQ_no (M := mX11_reseat) (d := 7) (As := [pR 0, pI v]) (MT.of (fun Q hQ => (?_ : RR mX11_reseat _ _ _ _ [pR 0, pI v, pU, pU, pU, pU, pU, pU] _ _ _)))) (fun h3 e => mQ_thr (M := mX12_reseat) (d := 10) (As := [pR 147, pI v]) (MT.of (fun Q hQ => (?_ : RR mX12_reseat _ _ _ _ [pR 147, pI v, pU, pU, pU, pU, pU, pU] _ _ _)))) (fun L e => by cases e)
    · refine R_iload_n dX11_reseat_0 rfl (?_ : RR _ _ _ _ 1 _ _ _ _)
      refine R_iconst dX11_reseat_1 (?_ : RR _ _ _ _ 2 _ _ _ _)
      refine R_icmp_lt (t := 11) dX11_reseat_2 rfl (fun c2 => ?_) (fun c2 => ?_)
      · first
        | (exfalso; omega)
        | (refine R_iconst dX11_reseat_11 (?_ : RR _ _ _ _ 12 _ _ _ _)
           exact R_ireturn dX11_reseat_12 trivial hQ)
      · first
        | (exfalso; omega)
        | (refine R_iload_n dX11_reseat_5 rfl (?_ : RR _ _ _ _ 6 _ _ _ _)
           refine R_bipush dX11_reseat_6 rfl (?_ : RR _ _ _ _ 8 _ _ _ _)
           refine R_icmp_le (t := 13) dX11_reseat_8 rfl (fun c8 => ?_) (fun c8 => ?_)
           · first
             | (exfalso; omega)
             | (exfalso; omega)
           · first
             | (exfalso; omega)
             | (refine R_iconst dX11_reseat_11 (?_ : RR _ _ _ _ 12 _ _ _ _)
                exact R_ireturn dX11_reseat_12 trivial hQ))
    · refine R_aload_n dX12_reseat_0 rfl (?_ : RR _ _ _ _ 1 _ _ _ _)
      refine R_iconst dX12_reseat_1 (?_ : RR _ _ _ _ 2 _ _ _ _)
      refine R_puti (zk := 0) dX12_reseat_2 flX12_106 cok_12 (by decide) (fun q hq => by cases hq; rfl) rfl (?_ : RR _ _ _ _ 5 _ _ _ _)
      try simp (disch := omega) only [rup_rup, rup_sort, rupS_def, rup_s, rup_n, fup_fup, fup_s, fup_n]
      refine R_iload_n dX12_reseat_5 rfl (?_ : RR _ _ _ _ 6 _ _ _ _)
      refine R_i2l dX12_reseat_6 (by first | assumption | omega) (?_ : RR _ _ _ _ 7 _ _ _ _)
      refine R_lconst (z := 1) dX12_reseat_7 rfl (?_ : RR _ _ _ _ 8 _ _ _ _)
      refine R_ldc2 (z := 12) dX12_reseat_8 klX12_430 (?_ : RR _ _ _ _ 11 _ _ _ _)
      refine R_cSi3 dX12_reseat_11 msX12_in mlX12_120 (by decide) (Nat.le_of_ble_eq_true rfl) (Nat.le_of_ble_eq_true rfl) (T_X12_in) (?_ : RR _ _ _ _ 14 _ _ _ _)
      try simp (disch := omega) only [rup_rup, rup_sort, rupS_def, rup_s, rup_n, fup_fup, fup_s, fup_n]
      rw [if_neg q]
      refine R_if_ne (t := 19) dX12_reseat_14 rfl (fun c14 => ?_) (fun c14 => ?_)
      · exfalso; omega
      refine R_iconst dX12_reseat_17 (?_ : RR _ _ _ _ 18 _ _ _ _)
      exact R_ireturn dX12_reseat_18 trivial hQ
end RS
