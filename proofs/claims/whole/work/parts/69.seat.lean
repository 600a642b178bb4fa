/-- the class's frame of looks ahead on the trial train -/
def trF (h h1 : Nat → Int → Int) : Prop := ∀ a, ¬ ((24 ≤ a ∧ a ≤ 28) ∨ a = 31 ∨ a = 35 ∨ (37 ≤ a ∧ a ≤ 43)) → h1 a = h a
/-- and the other's -/
def mlp (h3 h1 : Nat → Int → Int) : Prop := (∀ a, a ≠ 147 → a ≠ 155 → a ≠ 160 → a ≠ 161 → a ≠ 162 → h1 a = h3 a) ∧ (∀ j : Int, j ≠ 0 → j ≠ 30 → h1 147 j = h3 147 j) ∧ (0 ≤ h1 147 30 ∧ h1 147 30 < 64) ∧ oor (h1 155) (h3 154)
section SE
variable {k : Nat} {h h1 h2 h3 h4 : Nat → Int → Int} {sem : Sem} {H np nc len : Nat} {v : Int}
theorem trF_rf : trF h h := fun _ _ => rfl
theorem trF_on (hF : trF h h1) (hf : onF 24 29 (trC h1 24 14) h2) : trF h h2 := fun a q => by
  rw [hf a (by omega) (by omega) (by omega) (by omega) (by omega) (by omega) (by omega), trC_n (by omega)]
  exact hF a q
theorem trF_on2 {s : Int → Int} (hF : trF h h1) (hf : onF 24 29 (rup (trC h1 24 14) (24 + 4) s) h2) : trF h h2 := fun a q => by
  rw [hf a (by omega) (by omega) (by omega) (by omega) (by omega) (by omega) (by omega), rup_n (by omega), trC_n (by omega)]
  exact hF a q
theorem cq_trF (hF : trF h h1) : cqF h h1 := fun a q => hF a (by omega)
theorem tri2 (hs : SRx k h sem H np nc len) (hF : trF h h1) : Cpl (cxM sem h np nc) H (trC h1 24 14) 24 (h 154) len ∧ Cpl (cxM sem h np nc) H (trC h1 24 14) 14 (h 154) len ∧ CO (cxM sem h np nc) H (trC h1 24 14) 3 24 29 ∧ (trC h1 24 14 29 4 = 0 → noN sem) ∧ (trC h1 24 14 29 4 = 0 ∨ trC h1 24 14 29 4 = 1) := by
  have hc : Cpl (cxM sem h np nc) H h1 14 (h 154) len := Cpl_fr hs.2.2.2.1.1 (fun a a1 a2 => hF a (by omega))
  refine ⟨Cpl_cp (sR6 hs) (sR12 hs) hc, Cpl_fr hc (fun a a1 a2 => trC_n (by omega)), CO_24 (CO_f hs.1.2.2.2.2.2.2.1 (fun a q => by rw [trC_n (by omega)]; exact hF a (by omega))), ?_, ?_⟩
  · rw [trC_n (by omega), hF 29 (by omega)]; exact hs.1.2.2.2.2.2.2.2.2.2.1
  · rw [trC_n (by omega), hF 29 (by omega)]; exact hs.1.2.2.2.2.2.2.2.2.1
theorem mlp_0 (hs : SRx k h sem H np nc len) (e : ∀ a, 147 ≤ a → h3 a = h a) : mlp h3 (rup h3 147 (fup (h3 147) 0 0)) := by
  refine ⟨fun a a1 a2 a3 a4 a5 => rup_n a1, fun j j1 j2 => by rw [rup_s, fup_n j1], ?_, ?_⟩
  · rw [rup_s, fup_n (by omega), e 147 (by omega)]; exact hs.2.2.2.2.2.2.2
  · rw [rup_n (by omega), e 155 (by omega), e 154 (by omega)]; exact hs.2.2.2.1.2.2.1
theorem mlp_tn {f : Int → Int} (hm : mlp h3 h1) (hf : tnF (rup h1 155 f) h2) (ho : oor (h2 155) (h3 154)) : mlp h3 h2 :=
  ⟨fun a a1 a2 a3 a4 a5 => by rw [hf.1 a a1 a2 a3 a4 a5, rup_n a2]; exact hm.1 a a1 a2 a3 a4 a5, fun j j1 j2 => by rw [hf.2.1 j j2, rup_n (by omega)]; exact hm.2.1 j j1 j2, hf.2.2, ho⟩
theorem mq_mlp (hs : SRx k h sem H np nc len) (e : ∀ a, 147 ≤ a → h3 a = h a) (hm : mlp h3 h1) : mqF h3 h1 :=
  ⟨fun a q => hm.1 a (by omega) (by omega) (by omega) (by omega) (by omega), fun j q => hm.2.1 j (by omega) (by omega), fun _ => hm.2.2.1, fun j q => by
    rw [hm.2.2.2 j q, e 154 (by omega), e 155 (by omega)]
    exact (hs.2.2.2.1.2.2.1 j q).symm⟩
theorem MBk_l {f : Int → Int} (hs : SRx k h sem H np nc len) (hk : k ≤ 1000) (e : ∀ a, 147 ≤ a → h3 a = h a) (hm : mlp h3 h1) (ho : okF (cxM sem h np nc) H f) (hn : f 1 ≤ 2000000000) : MBk sem (rup h1 155 f) 155 H np nc ∧ cxM sem (rup h1 155 f) np nc = cxM sem h np nc := by
  have fr : ∀ a, a ≠ 147 → a ≠ 155 → a ≠ 160 → a ≠ 161 → a ≠ 162 → 147 ≤ a → rup h1 155 f a = h a := fun a a1 a2 a3 a4 a5 a6 => by rw [rup_n a2, hm.1 a a1 a2 a3 a4 a5]; exact e a a6
  have fj : ∀ j : Int, j ≠ 0 → j ≠ 30 → rup h1 155 f 147 j = h 147 j := fun j j1 j2 => by rw [rup_n (by omega), hm.2.1 j j1 j2, e 147 (by omega)]
  obtain ⟨⟨m1, m2, m3, m4, m5, m6, m7, m8, m9⟩, eX⟩ := MBk_of (h' := rup h1 155 f) hs hk (fun a q => fr a (by omega) (by omega) (by omega) (by omega) (by omega) (by omega)) (fun j q => fj j (by omega) (by omega)) (by rw [rup_n (by omega)]; exact hm.2.2.1)
  exact ⟨⟨m1, by rw [eX, rup_s]; exact ho, m3, m4, m5, by rw [rup_s]; exact hn, m7, isRw_155, Or.inr rfl⟩, eX⟩
theorem fstM_ex {X : Cx} {f : Int → Int} {p : Int} : ∃ c f', fstM X f p c f' := by
  obtain ⟨c, f', hF⟩ := fstO_ex (X := X) (f := f) (p := p) (m := 30)
  rcases hF with ⟨j, a1, a2, a3, a4, a5⟩ | ⟨a1, a2⟩
  · exact ⟨j, f', Or.inl ⟨j, rfl, a2, a3, a4, a5⟩⟩
  · exact ⟨31, f, Or.inr ⟨rfl, a2⟩⟩
theorem fstO_M {X : Cx} {f : Int → Int} {p c o : Int} {m : Nat} {f' g : Int → Int} (hm : m ≤ 30) (a : fstO X f p m c f') (b : fstM X f p o g) : c = if o ≤ m then o else -1 := by
  rcases a with ⟨j, a1, a2, a3, a4, a5⟩ | ⟨a1, a2⟩
  · rcases b with ⟨i, b1, b2, b3, b4, b5⟩ | ⟨b1, b2⟩
    · have : i = j := by
        by_cases q : i < j
        · exact absurd b3 (a4 i q)
        · by_cases q2 : j < i
          · exact absurd a3 (b4 j q2)
          · omega
      subst this
      rw [if_pos (by omega)]
      omega
    · exact absurd a3 (b2 j (by omega))
  · rcases b with ⟨i, b1, b2, b3, b4, b5⟩ | ⟨b1, b2⟩
    · have : ¬ i ≤ m := fun z => a2 i z b3
      rw [if_neg (by omega)]
      exact a1
    · rw [if_neg (by omega)]
      exact a1
theorem fstM_u {X : Cx} {f : Int → Int} {p c o : Int} {f' g : Int → Int} (a : fstM X f p c f') (b : fstM X f p o g) : c = o := by
  rcases a with ⟨j, a1, a2, a3, a4, a5⟩ | ⟨a1, a2⟩
  · rcases b with ⟨i, b1, b2, b3, b4, b5⟩ | ⟨b1, b2⟩
    · have : i = j := by
        by_cases q : i < j
        · exact absurd b3 (a4 i q)
        · by_cases q2 : j < i
          · exact absurd a3 (b4 j q2)
          · omega
      subst this
      omega
    · exact absurd a3 (b2 j (by omega))
  · rcases b with ⟨i, b1, b2, b3, b4, b5⟩ | ⟨b1, b2⟩
    · exact absurd b3 (a2 i b2)
    · omega
/-- which coach is best so far, and by how many runs -/
def stL (P : Nat → Bool) (o : Nat → Int) : Nat → Int × Int
  | 0 => (-2, 31)
  | c + 1 => if P c = true ∧ o c < (stL P o c).2 then ((c : Int), o c) else stL P o c
theorem stL_b {P : Nat → Bool} {o : Nat → Int} (ho : ∀ c, 1 ≤ o c ∧ o c ≤ 31) : ∀ n, (1 ≤ (stL P o n).2 ∧ (stL P o n).2 ≤ 31) ∧ ((stL P o n).1 = -2 ∨ (0 ≤ (stL P o n).1 ∧ (stL P o n).1 < n))
  | 0 => ⟨⟨by show (1 : Int) ≤ 31; omega, by show (31 : Int) ≤ 31; omega⟩, Or.inl rfl⟩
  | n + 1 => by
    have h1 := stL_b ho (P := P) n
    have h2 := ho n
    unfold stL
    split
    · exact ⟨h2, Or.inr ⟨by show (0 : Int) ≤ n; omega, by show (n : Int) < ((n + 1 : Nat) : Int); omega⟩⟩
    · exact ⟨h1.1, by omega⟩
theorem ridP_i {f : Int → Int} {p : Nat} (h : ridP f p = true) : 0 ≤ mS f p ∧ 0 ≤ mP f (mS f p) := by
  unfold ridP at h
  exact of_decide_eq_true h
theorem A_seat (hs : SRx k h sem H np nc len) (hk : k ≤ 1000) (hv : r32 v) : AG mX11_seat mX12_seat 6 10 [pI v] k h := by
  have x6 := sR6 hs
  have x12 := sR12 hs
  have hX := hs.1.2.2.2.2.1
  have hn := hs.2.2.2.1.2.1
  have hc := hs.2.2.2.1.1
  have h11 : h 11 0 = np := hs.1.2.2.2.2.2.2.1.2.1.1
  have h5 : h 147 5 = np := hs.1.2.2.1
  have h4c : h 147 4 = nc := hs.1.2.1
  obtain ⟨hf, e0, e1, e2, e3, ep, ea, es⟩ := id hc
  have e2 : h 14 2 = nc := e2
  have r154 := isRw_154
  have t14 := isTr_14
  have t24 := isTr_24
  by_cases q : 0 ≤ v ∧ v < np
  · obtain ⟨p, rfl⟩ := Int.eq_ofNat_of_zero_le q.1
    have hp : p < np := by omega
    obtain ⟨X, hXe⟩ : ∃ X, X = cxM sem h np nc := ⟨_, rfl⟩
    have hXP : xP X = np := by rw [hXe]; rfl
    have hXC : xC X = nc := by rw [hXe]; rfl
    have hsp := hf.2.2.2.2.2 p hp
    have esp := es p hp
    have hsp : mS (h 154) p = -1 ∨ (0 ≤ mS (h 154) p ∧ mS (h 154) p < nc ∧ _) := hsp
    have hepl : ∀ c : Int, 0 ≤ c → c < nc → h (14 + 2) c = mP (h 154) c := fun c c0 c1 => by
      have := ep c.toNat (show c.toNat < nc by omega)
      rw [show ((c.toNat : Nat) : Int) = c by omega] at this
      exact this
    have fl : len ≤ nc := hf.2.2.1
    have hmpb : ∀ c : Int, 0 ≤ c → c < nc → mP (h 154) c = -1 ∨ (0 ≤ mP (h 154) c ∧ mP (h 154) c < 6) := fun c c0 c1 => by
      have := fOK_pl hf c0 c1
      omega
    by_cases rd : ridP (h 154) p = true
    · have rd' := ridP_i rd
      obtain ⟨o, ho⟩ : ∃ o : Nat → Int, ∀ c : Nat, ∃ g, fstM X (fup (h 154) (14 + p) c) p (o c) g := ⟨fun c : Nat => Classical.choose (fstM_ex (X := X) (f := fup (h 154) (14 + p) c) (p := p)), fun c : Nat => Classical.choose_spec (fstM_ex (X := X) (f := fup (h 154) (14 + p) c) (p := p))⟩
      have hob : ∀ c, 1 ≤ o c ∧ o c ≤ 31 := fun c => by
        obtain ⟨g, hg⟩ := ho c
        rcases hg with ⟨j, a1, a2, a3, a4, a5⟩ | ⟨a1, a2⟩
        · have : j ≠ 0 := fun z => by
            subst z
            have a3 : fup (h 154) (14 + p) c (14 + p) = -1 := a3
            rw [fup_s] at a3
            omega
          omega
        · omega
      obtain ⟨P, hP⟩ : ∃ P : Nat → Bool, P = fun c : Nat => decide (0 ≤ mP (h 154) (c : Int)) := ⟨_, rfl⟩
      have sb := stL_b (P := P) hob
      have hokS : ∀ c : Nat, c < nc → 0 ≤ mP (h 154) c → okF X H (fup (h 154) (14 + p) c) := fun c hcc hm => ok_seat (by rw [hXe]; exact hX) (by rw [hXe]; exact okF_c hc) (by rw [hXC]; exact hcc) (by rw [hXP]; exact hp) (by omega) rd'.2 hm
      refine A_q hs (z := (stL P o nc).1) (o := if (stL P o nc).1 < 0 then none else some [(stL P o nc).2]) ?_ (fun h3 e => ?_) (fun L e => by
        split at e
        · cases e
        · injection e with e; subst e; exact (by omega : 1 ≤ 12))
      · show RR _ _ _ _ _ [pR 0, pI p, pU, pU, pU, pU] _ _ _
        have L : ∀ (j i : Nat) (h1 : Nat → Int → Int) (w : PV), i + j = nc → trF h h1 → RR mX11_seat 6 0 0 36 [pR 0, pI p, pI (stL P o i).1, pI (stL P o i).2, pI i, w] [] (shp0, rf0, h1) (cQ h (stL P o nc).1 (if (stL P o nc).1 < 0 then none else some [(stL P o nc).2])) := by
          intro j
          induction j with
          | zero =>
            intro i h1 w hi hF
            obtain rfl : i = nc := by omega
            have sbi := sb i
            have g2 : h1 14 2 = i := by rw [hF 14 (by omega)]; exact e2
            by_cases y : (stL P o i).1 < 0
            · rw [if_pos y]
              have hq : cQ h (stL P o i).1 none (some (pI (stL P o i).1)) (shp0, rf0, h1) := ⟨h1, rfl, rfl, cq_trF hF, hF 145 (by omega), hF 146 (by omega)⟩
              refine R_iload dX11_seat_36 rfl (?_ : RR _ _ _ _ 38 _ _ _ _)
              refine R_aload_n dX11_seat_38 rfl (?_ : RR _ _ _ _ 39 _ _ _ _)
              refine R_getr dX11_seat_39 flX11_36 cok_11 rfl (by decide) (?_ : RR _ _ _ _ 42 _ _ _ _)
              refine R_geti (z := 2) dX11_seat_42 flX11_349 cok_9 rfl (by decide) rfl (fun q42 => (?_ : RR _ _ _ _ 45 _ _ _ _))
              rw [g2] at q42 ⊢
              refine R_icmp_ge (t := 112) dX11_seat_45 rfl (fun c45 => ?_) (fun c45 => ?_)
              rotate_left
              · exfalso; omega
              refine R_iload_n dX11_seat_112 rfl (?_ : RR _ _ _ _ 113 _ _ _ _)
              refine R_if_lt (t := 132) dX11_seat_113 rfl (fun c113 => ?_) (fun c113 => ?_)
              rotate_left
              · exfalso; omega
              refine R_iload_n dX11_seat_132 rfl (?_ : RR _ _ _ _ 133 _ _ _ _)
              exact R_ireturn dX11_seat_133 trivial hq
            · rw [if_neg y]
              refine R_iload dX11_seat_36 rfl (?_ : RR _ _ _ _ 38 _ _ _ _)
              refine R_aload_n dX11_seat_38 rfl (?_ : RR _ _ _ _ 39 _ _ _ _)
              refine R_getr dX11_seat_39 flX11_36 cok_11 rfl (by decide) (?_ : RR _ _ _ _ 42 _ _ _ _)
              refine R_geti (z := 2) dX11_seat_42 flX11_349 cok_9 rfl (by decide) rfl (fun q42 => (?_ : RR _ _ _ _ 45 _ _ _ _))
              rw [g2] at q42 ⊢
              refine R_icmp_ge (t := 112) dX11_seat_45 rfl (fun c45 => ?_) (fun c45 => ?_)
              rotate_left
              · exfalso; omega
              refine R_iload_n dX11_seat_112 rfl (?_ : RR _ _ _ _ 113 _ _ _ _)
              refine R_if_lt (t := 132) dX11_seat_113 rfl (fun c113 => ?_) (fun c113 => ?_)
              · exfalso; omega
              refine R_aload_n dX11_seat_116 rfl (?_ : RR _ _ _ _ 117 _ _ _ _)
              refine R_getr dX11_seat_117 flX11_87 cok_11 rfl (by decide) (?_ : RR _ _ _ _ 120 _ _ _ _)
              refine R_cVv0 dX11_seat_120 mvX3_clear mlX11_239 (by decide) (by decide) (Nat.le_of_ble_eq_true rfl) (Nat.le_of_ble_eq_true rfl) (T_tlc) (?_ : RR _ _ _ _ 123 _ _ _ _)
              refine R_aload_n dX11_seat_123 rfl (?_ : RR _ _ _ _ 124 _ _ _ _)
              refine R_getr dX11_seat_124 flX11_87 cok_11 rfl (by decide) (?_ : RR _ _ _ _ 127 _ _ _ _)
              refine R_iload_n dX11_seat_127 rfl (?_ : RR _ _ _ _ 128 _ _ _ _)
              refine R_i2l dX11_seat_128 (by first | assumption | omega) (?_ : RR _ _ _ _ 129 _ _ _ _)
              refine R_cVv1 dX11_seat_129 mvX3_add mlX11_243 (by decide) (by decide) (Nat.le_of_ble_eq_true rfl) (Nat.le_of_ble_eq_true rfl) (T_tla (by simp) (by omega)) (?_ : RR _ _ _ _ 132 _ _ _ _)
              refine R_iload_n dX11_seat_132 rfl (?_ : RR _ _ _ _ 133 _ _ _ _)
              exact R_ireturn dX11_seat_133 trivial (cQ_tl (cq_trF hF) rfl)
          | succ j ih =>
            intro i h1 w hi hF
            have sbi := sb i
            have g2 : h1 14 2 = nc := by rw [hF 14 (by omega)]; exact e2
            have g16 : h1 16 i = mP (h 154) i := by rw [hF 16 (by omega)]; exact hepl i (by omega) (by omega)
            have hmi := hmpb i (by omega) (by omega)
            have st1 : stL P o (i + 1) = if P i = true ∧ o i < (stL P o i).2 then ((i : Int), o i) else stL P o i := rfl
            by_cases y : 0 ≤ mP (h 154) i
            · have hPi : P i = true := by rw [hP]; exact decide_eq_true y
              obtain ⟨k1, k2, k3, k4, k5⟩ := tri2 hs hF
              rw [← hXe] at k1 k3
              have kS := cpl_seat (p := p) (c := i) (by rw [hXC]; exact x6) k1 (by rw [hXC]; omega) (by rw [hXP]; exact hp) (by omega) rd'.2 y
              obtain ⟨m, hm⟩ : ∃ m : Nat, (stL P o i).2 - 1 = (m : Int) := ⟨((stL P o i).2 - 1).toNat, by omega⟩
              have hpo := C_runsTillOut (m := m) (p := p) (by rw [hXe]; exact hX) (CO_f k3 (fun a q => rup_n (by omega))) kS (by rw [fup_n (by omega)]; omega) (by omega) (by rw [hXP]; exact hp) (by rw [rup_n (by omega)]; exact k5) (by rw [rup_n (by omega), hXe]; exact k4)
              have K : ∀ (c : Int) (h2 : Nat → Int → Int), trF h h2 → c = (if o i ≤ m then o i else -1) → RR mX11_seat 6 0 0 92 [pR 0, pI p, pI (stL P o i).1, pI (stL P o i).2, pI i, w] [pI c] (shp0, rf0, h2) (cQ h (stL P o nc).1 (if (stL P o nc).1 < 0 then none else some [(stL P o nc).2])) := by
                intro c h2 hF2 hcc
                have IH := fun w => ih (i + 1) h2 w (by omega) hF2
                have hoi := hob i
                by_cases u : o i ≤ m
                · rw [if_pos u] at hcc
                  subst hcc
                  rw [st1, if_pos ⟨hPi, by omega⟩] at IH
                  refine R_istore dX11_seat_92 (Nat.le_of_ble_eq_true rfl) (?_ : RR _ _ _ _ 94 [_, _, _, _, _, _] _ _ _)
                  refine R_iload dX11_seat_94 rfl (?_ : RR _ _ _ _ 96 _ _ _ _)
                  refine R_iconst dX11_seat_96 (?_ : RR _ _ _ _ 97 _ _ _ _)
                  refine R_icmp_eq (t := 106) dX11_seat_97 rfl (fun c97 => ?_) (fun c97 => ?_)
                  · exfalso; omega
                  refine R_iload dX11_seat_100 rfl (?_ : RR _ _ _ _ 102 _ _ _ _)
                  refine R_istore_n dX11_seat_102 (Nat.le_of_ble_eq_true rfl) (?_ : RR _ _ _ _ 103 [_, _, _, _, _, _] _ _ _)
                  refine R_iload dX11_seat_103 rfl (?_ : RR _ _ _ _ 105 _ _ _ _)
                  refine R_istore_n dX11_seat_105 (Nat.le_of_ble_eq_true rfl) (?_ : RR _ _ _ _ 106 [_, _, _, _, _, _] _ _ _)
                  refine R_iinc dX11_seat_106 rfl (Nat.le_of_ble_eq_true rfl) (?_ : RR _ _ _ _ 109 [_, _, _, _, _, _] _ _ _)
                  refine R_goto (t := 36) dX11_seat_109 rfl (?_ : RR _ _ _ _ 36 _ _ _ _)
                  exact IH _
                · rw [if_neg u] at hcc
                  subst hcc
                  rw [st1, if_neg (fun z => by omega)] at IH
                  refine R_istore dX11_seat_92 (Nat.le_of_ble_eq_true rfl) (?_ : RR _ _ _ _ 94 [_, _, _, _, _, _] _ _ _)
                  refine R_iload dX11_seat_94 rfl (?_ : RR _ _ _ _ 96 _ _ _ _)
                  refine R_iconst dX11_seat_96 (?_ : RR _ _ _ _ 97 _ _ _ _)
                  refine R_icmp_eq (t := 106) dX11_seat_97 rfl (fun c97 => ?_) (fun c97 => ?_)
                  rotate_left
                  · exfalso; omega
                  refine R_iinc dX11_seat_106 rfl (Nat.le_of_ble_eq_true rfl) (?_ : RR _ _ _ _ 109 [_, _, _, _, _, _] _ _ _)
                  refine R_goto (t := 36) dX11_seat_109 rfl (?_ : RR _ _ _ _ 36 _ _ _ _)
                  exact IH _
              refine R_iload dX11_seat_36 rfl (?_ : RR _ _ _ _ 38 _ _ _ _)
              refine R_aload_n dX11_seat_38 rfl (?_ : RR _ _ _ _ 39 _ _ _ _)
              refine R_getr dX11_seat_39 flX11_36 cok_11 rfl (by decide) (?_ : RR _ _ _ _ 42 _ _ _ _)
              refine R_geti (z := 2) dX11_seat_42 flX11_349 cok_9 rfl (by decide) rfl (fun q42 => (?_ : RR _ _ _ _ 45 _ _ _ _))
              rw [g2] at q42 ⊢
              refine R_icmp_ge (t := 112) dX11_seat_45 rfl (fun c45 => ?_) (fun c45 => ?_)
              · exfalso; omega
              refine R_aload_n dX11_seat_48 rfl (?_ : RR _ _ _ _ 49 _ _ _ _)
              refine R_getr dX11_seat_49 flX11_36 cok_11 rfl (by decide) (?_ : RR _ _ _ _ 52 _ _ _ _)
              refine R_getr dX11_seat_52 flX11_183 cok_9 rfl (by decide) (?_ : RR _ _ _ _ 55 _ _ _ _)
              refine R_iload dX11_seat_55 rfl (?_ : RR _ _ _ _ 57 _ _ _ _)
              refine R_iald dX11_seat_57 (fun q57 => (?_ : RR _ _ _ _ 58 _ _ _ _))
              rw [g16] at q57 ⊢
              refine R_iconst dX11_seat_58 (?_ : RR _ _ _ _ 59 _ _ _ _)
              refine R_icmp_eq (t := 106) dX11_seat_59 rfl (fun c59 => ?_) (fun c59 => ?_)
              · exfalso; omega
              refine R_aload_n dX11_seat_62 rfl (?_ : RR _ _ _ _ 63 _ _ _ _)
              refine R_getr dX11_seat_63 flX11_43 cok_11 rfl (by decide) (?_ : RR _ _ _ _ 66 _ _ _ _)
              refine R_aload_n dX11_seat_66 rfl (?_ : RR _ _ _ _ 67 _ _ _ _)
              refine R_getr dX11_seat_67 flX11_36 cok_11 rfl (by decide) (?_ : RR _ _ _ _ 70 _ _ _ _)
              refine R_cVv1 dX11_seat_70 mvX9_copyFrom mlX11_231 (by decide) (by decide) (Nat.le_of_ble_eq_true rfl) (Nat.le_of_ble_eq_true rfl) (T_X9_copyFrom) (?_ : RR _ _ _ _ 73 _ _ _ _)
              refine R_aload_n dX11_seat_73 rfl (?_ : RR _ _ _ _ 74 _ _ _ _)
              refine R_getr dX11_seat_74 flX11_43 cok_11 rfl (by decide) (?_ : RR _ _ _ _ 77 _ _ _ _)
              refine R_getr dX11_seat_77 flX11_205 cok_9 rfl (by decide) (?_ : RR _ _ _ _ 80 _ _ _ _)
              refine R_iload_n dX11_seat_80 rfl (?_ : RR _ _ _ _ 81 _ _ _ _)
              refine R_iload dX11_seat_81 rfl (?_ : RR _ _ _ _ 83 _ _ _ _)
              refine R_iast dX11_seat_83 (?_ : RR _ _ _ _ 84 _ _ _ _)
              refine R_aload_n dX11_seat_84 rfl (?_ : RR _ _ _ _ 85 _ _ _ _)
              refine R_iload_n dX11_seat_85 rfl (?_ : RR _ _ _ _ 86 _ _ _ _)
              refine R_iload_n dX11_seat_86 rfl (?_ : RR _ _ _ _ 87 _ _ _ _)
              refine R_iconst dX11_seat_87 (?_ : RR _ _ _ _ 88 _ _ _ _)
              refine R_isub dX11_seat_88 (?_ : RR _ _ _ _ 89 _ _ _ _)
              rw [hm]
              refine R_qV2 dX11_seat_89 mvX11_runsTillOut mlX11_318 (by decide) (by decide) (Nat.le_of_ble_eq_true rfl) (Nat.le_of_ble_eq_true rfl) (hpo) (fun r9 g9 hq9 => (?_ : RR _ _ _ _ 92 _ _ _ _))
              obtain ⟨c2, h5, f5, len5, rfl, rfl, hf5, hc5, hF5⟩ := hq9
              obtain ⟨g, hg⟩ := ho i
              show RR _ _ _ _ _ _ [pI c2] _ _
              exact K c2 h5 (trF_on2 hF hf5) (fstO_M (by omega) hF5 hg)
            · have hPi : ¬ P i = true := by rw [hP]; simpa using y
              have IH := fun w => ih (i + 1) h1 w (by omega) hF
              rw [st1, if_neg (fun z => hPi z.1)] at IH
              refine R_iload dX11_seat_36 rfl (?_ : RR _ _ _ _ 38 _ _ _ _)
              refine R_aload_n dX11_seat_38 rfl (?_ : RR _ _ _ _ 39 _ _ _ _)
              refine R_getr dX11_seat_39 flX11_36 cok_11 rfl (by decide) (?_ : RR _ _ _ _ 42 _ _ _ _)
              refine R_geti (z := 2) dX11_seat_42 flX11_349 cok_9 rfl (by decide) rfl (fun q42 => (?_ : RR _ _ _ _ 45 _ _ _ _))
              rw [g2] at q42 ⊢
              refine R_icmp_ge (t := 112) dX11_seat_45 rfl (fun c45 => ?_) (fun c45 => ?_)
              · exfalso; omega
              refine R_aload_n dX11_seat_48 rfl (?_ : RR _ _ _ _ 49 _ _ _ _)
              refine R_getr dX11_seat_49 flX11_36 cok_11 rfl (by decide) (?_ : RR _ _ _ _ 52 _ _ _ _)
              refine R_getr dX11_seat_52 flX11_183 cok_9 rfl (by decide) (?_ : RR _ _ _ _ 55 _ _ _ _)
              refine R_iload dX11_seat_55 rfl (?_ : RR _ _ _ _ 57 _ _ _ _)
              refine R_iald dX11_seat_57 (fun q57 => (?_ : RR _ _ _ _ 58 _ _ _ _))
              rw [g16] at q57 ⊢
              refine R_iconst dX11_seat_58 (?_ : RR _ _ _ _ 59 _ _ _ _)
              refine R_icmp_eq (t := 106) dX11_seat_59 rfl (fun c59 => ?_) (fun c59 => ?_)
              rotate_left
              · exfalso; omega
              refine R_iinc dX11_seat_106 rfl (Nat.le_of_ble_eq_true rfl) (?_ : RR _ _ _ _ 109 [_, _, _, _, _, _] _ _ _)
              refine R_goto (t := 36) dX11_seat_109 rfl (?_ : RR _ _ _ _ 36 _ _ _ _)
              exact IH _
        refine R_aload_n dX11_seat_0 rfl (?_ : RR _ _ _ _ 1 _ _ _ _)
        refine R_getr dX11_seat_1 flX11_29 cok_11 rfl (by decide) (?_ : RR _ _ _ _ 4 _ _ _ _)
        refine R_iload_n dX11_seat_4 rfl (?_ : RR _ _ _ _ 5 _ _ _ _)
        refine R_cVi1 dX11_seat_5 mvX2_has mlX11_202 (by decide) (by decide) (Nat.le_of_ble_eq_true rfl) (Nat.le_of_ble_eq_true rfl) (T_X2_has) (?_ : RR _ _ _ _ 8 _ _ _ _)
        rw [h11, if_pos q]
        refine R_if_ne (t := 13) dX11_seat_8 rfl (fun c8 => ?_) (fun c8 => ?_)
        rotate_left
        · exfalso; omega
        refine R_aload_n dX11_seat_13 rfl (?_ : RR _ _ _ _ 14 _ _ _ _)
        refine R_getr dX11_seat_14 flX11_36 cok_11 rfl (by decide) (?_ : RR _ _ _ _ 17 _ _ _ _)
        refine R_iload_n dX11_seat_17 rfl (?_ : RR _ _ _ _ 18 _ _ _ _)
        refine R_cVi1 dX11_seat_18 mvX9_carries mlX11_330 (by decide) (by decide) (Nat.le_of_ble_eq_true rfl) (Nat.le_of_ble_eq_true rfl) (T_X9_carries (hs := by rw [esp]; omega)) (?_ : RR _ _ _ _ 21 _ _ _ _)
        rw [if_pos (by rw [esp, hepl _ (by omega) (by omega)]; omega)]
        refine R_if_ne (t := 27) dX11_seat_21 rfl (fun c21 => ?_) (fun c21 => ?_)
        rotate_left
        · exfalso; omega
        refine R_bipush dX11_seat_27 rfl (?_ : RR _ _ _ _ 29 _ _ _ _)
        refine R_istore_n dX11_seat_29 (Nat.le_of_ble_eq_true rfl) (?_ : RR _ _ _ _ 30 [_, _, _, _, _, _] _ _ _)
        refine R_bipush dX11_seat_30 rfl (?_ : RR _ _ _ _ 32 _ _ _ _)
        refine R_istore_n dX11_seat_32 (Nat.le_of_ble_eq_true rfl) (?_ : RR _ _ _ _ 33 [_, _, _, _, _, _] _ _ _)
        refine R_iconst dX11_seat_33 (?_ : RR _ _ _ _ 34 _ _ _ _)
        refine R_istore dX11_seat_34 (Nat.le_of_ble_eq_true rfl) (?_ : RR _ _ _ _ 36 [_, _, _, _, _, _] _ _ _)
        exact L nc 0 h _ (by omega) trF_rf
      · show RR _ _ _ _ _ [pR 147, pI p, pU, pU, pU, pU] _ _ _
        have E154 : h3 154 = h 154 := e 154 (by omega)
        have L : ∀ (j i : Nat) (h1 : Nat → Int → Int) (w : PV), i + j = nc → mlp h3 h1 → RR mX12_seat 10 0 0 42 [pR 147, pI p, pI (stL P o i).1, pI (stL P o i).2, pI i, w] [] (shp0, rf0, h1) (mQ h3 (stL P o nc).1 (if (stL P o nc).1 < 0 then none else some [(stL P o nc).2])) := by
          intro j
          induction j with
          | zero =>
            intro i h1 w hi hF
            obtain rfl : i = nc := by omega
            have sbi := sb i
            have g4 : h1 147 4 = i := by rw [hF.2.1 4 (by omega) (by omega), e 147 (by omega)]; exact h4c
            by_cases y : (stL P o i).1 < 0
            · rw [if_pos y]
              have hq : mQ h3 (stL P o i).1 none (some (pI (stL P o i).1)) (shp0, rf0, h1) := ⟨h1, rfl, rfl, mq_mlp hs e hF, hF.2.1 1 (by omega) (by omega), hF.1 148 (by omega) (by omega) (by omega) (by omega) (by omega)⟩
              refine R_iload dX12_seat_42 rfl (?_ : RR _ _ _ _ 44 _ _ _ _)
              refine R_aload_n dX12_seat_44 rfl (?_ : RR _ _ _ _ 45 _ _ _ _)
              refine R_geti (z := 4) dX12_seat_45 flX12_124 cok_12 rfl (by decide) rfl (fun q45 => (?_ : RR _ _ _ _ 48 _ _ _ _))
              rw [g4] at q45 ⊢
              refine R_icmp_ge (t := 111) dX12_seat_48 rfl (fun c48 => ?_) (fun c48 => ?_)
              rotate_left
              · exfalso; omega
              refine R_iload_n dX12_seat_111 rfl (?_ : RR _ _ _ _ 112 _ _ _ _)
              refine R_if_lt (t := 126) dX12_seat_112 rfl (fun c112 => ?_) (fun c112 => ?_)
              rotate_left
              · exfalso; omega
              refine R_iload_n dX12_seat_126 rfl (?_ : RR _ _ _ _ 127 _ _ _ _)
              exact R_ireturn dX12_seat_127 trivial hq
            · rw [if_neg y]
              refine R_iload dX12_seat_42 rfl (?_ : RR _ _ _ _ 44 _ _ _ _)
              refine R_aload_n dX12_seat_44 rfl (?_ : RR _ _ _ _ 45 _ _ _ _)
              refine R_geti (z := 4) dX12_seat_45 flX12_124 cok_12 rfl (by decide) rfl (fun q45 => (?_ : RR _ _ _ _ 48 _ _ _ _))
              rw [g4] at q45 ⊢
              refine R_icmp_ge (t := 111) dX12_seat_48 rfl (fun c48 => ?_) (fun c48 => ?_)
              rotate_left
              · exfalso; omega
              refine R_iload_n dX12_seat_111 rfl (?_ : RR _ _ _ _ 112 _ _ _ _)
              refine R_if_lt (t := 126) dX12_seat_112 rfl (fun c112 => ?_) (fun c112 => ?_)
              · exfalso; omega
              refine R_aload_n dX12_seat_115 rfl (?_ : RR _ _ _ _ 116 _ _ _ _)
              refine R_iconst dX12_seat_116 (?_ : RR _ _ _ _ 117 _ _ _ _)
              refine R_puti (zk := 1) dX12_seat_117 flX12_113 cok_12 (by decide) (fun q hq => by cases hq; rfl) rfl (?_ : RR _ _ _ _ 120 _ _ _ _)
              show RR _ _ _ _ _ _ _ (shp0, rf0, tmR h1 []) _
              refine R_aload_n dX12_seat_120 rfl (?_ : RR _ _ _ _ 121 _ _ _ _)
              refine R_iload_n dX12_seat_121 rfl (?_ : RR _ _ _ _ 122 _ _ _ _)
              refine R_i2l dX12_seat_122 (by first | assumption | omega) (?_ : RR _ _ _ _ 123 _ _ _ _)
              refine R_cVv1 dX12_seat_123 mvX12_enters mlX12_116 (by decide) (by decide) (Nat.le_of_ble_eq_true rfl) (Nat.le_of_ble_eq_true rfl) (T_tma (by simp) (by omega)) (?_ : RR _ _ _ _ 126 _ _ _ _)
              refine R_iload_n dX12_seat_126 rfl (?_ : RR _ _ _ _ 127 _ _ _ _)
              exact R_ireturn dX12_seat_127 trivial (mQ_tm (mq_mlp hs e hF) rfl)
          | succ j ih =>
            intro i h1 w hi hF
            have sbi := sb i
            have g4 : h1 147 4 = nc := by rw [hF.2.1 4 (by omega) (by omega), e 147 (by omega)]; exact h4c
            have g154 : h1 154 = h 154 := by rw [hF.1 154 (by omega) (by omega) (by omega) (by omega) (by omega)]; exact E154
            have hmi := hmpb i (by omega) (by omega)
            have st1 : stL P o (i + 1) = if P i = true ∧ o i < (stL P o i).2 then ((i : Int), o i) else stL P o i := rfl
            by_cases y : 0 ≤ mP (h 154) i
            · have hPi : P i = true := by rw [hP]; exact decide_eq_true y
              obtain ⟨hB, eX⟩ := MBk_l (f := fup (h 154) (14 + p) i) hs hk e hF (by rw [← hXe]; exact hokS i (by omega) y) (by rw [fup_n (by omega)]; omega)
              have hpo := M_outAfter (p := p) hB hp (by rw [rup_s, fup_n (by omega)]; omega)
              rw [eX, rup_s, ← hXe] at hpo
              have K : ∀ (c : Int) (h2 : Nat → Int → Int), mlp h3 h2 → c = o i → RR mX12_seat 10 0 0 83 [pR 147, pI p, pI (stL P o i).1, pI (stL P o i).2, pI i, w] [pI c] (shp0, rf0, h2) (mQ h3 (stL P o nc).1 (if (stL P o nc).1 < 0 then none else some [(stL P o nc).2])) := by
                intro c h2 hF2 hcc
                have IH := fun w => ih (i + 1) h2 w (by omega) hF2
                have hoi := hob i
                subst hcc
                by_cases u : o i < (stL P o i).2
                · rw [st1, if_pos ⟨hPi, u⟩] at IH
                  refine R_istore dX12_seat_83 (Nat.le_of_ble_eq_true rfl) (?_ : RR _ _ _ _ 85 [_, _, _, _, _, _] _ _ _)
                  refine R_iload dX12_seat_85 rfl (?_ : RR _ _ _ _ 87 _ _ _ _)
                  refine R_iload_n dX12_seat_87 rfl (?_ : RR _ _ _ _ 88 _ _ _ _)
                  refine R_icmp_ge (t := 96) dX12_seat_88 rfl (fun c88 => ?_) (fun c88 => ?_)
                  · exfalso; omega
                  refine R_iload dX12_seat_91 rfl (?_ : RR _ _ _ _ 93 _ _ _ _)
                  refine R_goto (t := 97) dX12_seat_93 rfl (?_ : RR _ _ _ _ 97 _ _ _ _)
                  refine R_istore_n dX12_seat_97 (Nat.le_of_ble_eq_true rfl) (?_ : RR _ _ _ _ 98 [_, _, _, _, _, _] _ _ _)
                  refine R_iload_n dX12_seat_98 rfl (?_ : RR _ _ _ _ 99 _ _ _ _)
                  refine R_iload dX12_seat_99 rfl (?_ : RR _ _ _ _ 101 _ _ _ _)
                  refine R_min dX12_seat_101 mmX12_139 (by decide) (Nat.le_of_ble_eq_true rfl) (?_ : RR _ _ _ _ 104 _ _ _ _)
                  rw [show min (stL P o i).2 (o i) = o i by omega]
                  refine R_istore_n dX12_seat_104 (Nat.le_of_ble_eq_true rfl) (?_ : RR _ _ _ _ 105 [_, _, _, _, _, _] _ _ _)
                  refine R_iinc dX12_seat_105 rfl (Nat.le_of_ble_eq_true rfl) (?_ : RR _ _ _ _ 108 [_, _, _, _, _, _] _ _ _)
                  refine R_goto (t := 42) dX12_seat_108 rfl (?_ : RR _ _ _ _ 42 _ _ _ _)
                  exact IH _
                · rw [st1, if_neg (fun z => u z.2)] at IH
                  refine R_istore dX12_seat_83 (Nat.le_of_ble_eq_true rfl) (?_ : RR _ _ _ _ 85 [_, _, _, _, _, _] _ _ _)
                  refine R_iload dX12_seat_85 rfl (?_ : RR _ _ _ _ 87 _ _ _ _)
                  refine R_iload_n dX12_seat_87 rfl (?_ : RR _ _ _ _ 88 _ _ _ _)
                  refine R_icmp_ge (t := 96) dX12_seat_88 rfl (fun c88 => ?_) (fun c88 => ?_)
                  rotate_left
                  · exfalso; omega
                  refine R_iload_n dX12_seat_96 rfl (?_ : RR _ _ _ _ 97 _ _ _ _)
                  refine R_istore_n dX12_seat_97 (Nat.le_of_ble_eq_true rfl) (?_ : RR _ _ _ _ 98 [_, _, _, _, _, _] _ _ _)
                  refine R_iload_n dX12_seat_98 rfl (?_ : RR _ _ _ _ 99 _ _ _ _)
                  refine R_iload dX12_seat_99 rfl (?_ : RR _ _ _ _ 101 _ _ _ _)
                  refine R_min dX12_seat_101 mmX12_139 (by decide) (Nat.le_of_ble_eq_true rfl) (?_ : RR _ _ _ _ 104 _ _ _ _)
                  rw [show min (stL P o i).2 (o i) = (stL P o i).2 by omega]
                  refine R_istore_n dX12_seat_104 (Nat.le_of_ble_eq_true rfl) (?_ : RR _ _ _ _ 105 [_, _, _, _, _, _] _ _ _)
                  refine R_iinc dX12_seat_105 rfl (Nat.le_of_ble_eq_true rfl) (?_ : RR _ _ _ _ 108 [_, _, _, _, _, _] _ _ _)
                  refine R_goto (t := 42) dX12_seat_108 rfl (?_ : RR _ _ _ _ 42 _ _ _ _)
                  exact IH _
              refine R_iload dX12_seat_42 rfl (?_ : RR _ _ _ _ 44 _ _ _ _)
              refine R_aload_n dX12_seat_44 rfl (?_ : RR _ _ _ _ 45 _ _ _ _)
              refine R_geti (z := 4) dX12_seat_45 flX12_124 cok_12 rfl (by decide) rfl (fun q45 => (?_ : RR _ _ _ _ 48 _ _ _ _))
              rw [g4] at q45 ⊢
              refine R_icmp_ge (t := 111) dX12_seat_48 rfl (fun c48 => ?_) (fun c48 => ?_)
              · exfalso; omega
              refine R_aload_n dX12_seat_51 rfl (?_ : RR _ _ _ _ 52 _ _ _ _)
              refine R_getr dX12_seat_52 flX12_33 cok_12 rfl (by decide) (?_ : RR _ _ _ _ 55 _ _ _ _)
              refine R_iload dX12_seat_55 rfl (?_ : RR _ _ _ _ 57 _ _ _ _)
              refine R_cSi2 dX12_seat_57 msX12_placeOf mlX12_130 (by decide) (Nat.le_of_ble_eq_true rfl) (Nat.le_of_ble_eq_true rfl) (T_X12_placeOf) (?_ : RR _ _ _ _ 60 _ _ _ _)
              rw [g154]
              refine R_if_lt (t := 105) dX12_seat_60 rfl (fun c60 => ?_) (fun c60 => ?_)
              · exfalso; omega
              refine R_aload_n dX12_seat_63 rfl (?_ : RR _ _ _ _ 64 _ _ _ _)
              refine R_cVv0 dX12_seat_64 mvX12_puts mlX12_407 (by decide) (by decide) (Nat.le_of_ble_eq_true rfl) (Nat.le_of_ble_eq_true rfl) (T_X12_puts (by rw [g154, ← E154]; exact hF.2.2.2)) (?_ : RR _ _ _ _ 67 _ _ _ _)
              rw [g154]
              refine R_aload_n dX12_seat_67 rfl (?_ : RR _ _ _ _ 68 _ _ _ _)
              refine R_getr dX12_seat_68 flX12_36 cok_12 rfl (by decide) (?_ : RR _ _ _ _ 71 _ _ _ _)
              refine R_bipush dX12_seat_71 rfl (?_ : RR _ _ _ _ 73 _ _ _ _)
              refine R_iload_n dX12_seat_73 rfl (?_ : RR _ _ _ _ 74 _ _ _ _)
              refine R_iadd dX12_seat_74 (?_ : RR _ _ _ _ 75 _ _ _ _)
              refine R_iload dX12_seat_75 rfl (?_ : RR _ _ _ _ 77 _ _ _ _)
              refine R_iast dX12_seat_77 (?_ : RR _ _ _ _ 78 _ _ _ _)
              simp (disch := omega) only [rup_rup, rup_s]
              refine R_aload_n dX12_seat_78 rfl (?_ : RR _ _ _ _ 79 _ _ _ _)
              refine R_iload_n dX12_seat_79 rfl (?_ : RR _ _ _ _ 80 _ _ _ _)
              refine R_qV1 dX12_seat_80 mvX12_outAfter mlX12_421 (by decide) (by decide) (Nat.le_of_ble_eq_true rfl) (Nat.le_of_ble_eq_true rfl) (hpo) (fun r9 g9 hq9 => (?_ : RR _ _ _ _ 83 _ _ _ _))
              obtain ⟨c2, h5, rfl, rfl, hf5, ho5, hM5⟩ := hq9
              obtain ⟨g, hg⟩ := ho i
              show RR _ _ _ _ _ _ [pI c2] _ _
              exact K c2 h5 (mlp_tn hF hf5 (by rw [E154]; exact oor_tr ho5 (fup_oor (by omega)))) (fstM_u hM5 hg)
            · have hPi : ¬ P i = true := by rw [hP]; simpa using y
              have IH := fun w => ih (i + 1) h1 w (by omega) hF
              rw [st1, if_neg (fun z => hPi z.1)] at IH
              refine R_iload dX12_seat_42 rfl (?_ : RR _ _ _ _ 44 _ _ _ _)
              refine R_aload_n dX12_seat_44 rfl (?_ : RR _ _ _ _ 45 _ _ _ _)
              refine R_geti (z := 4) dX12_seat_45 flX12_124 cok_12 rfl (by decide) rfl (fun q45 => (?_ : RR _ _ _ _ 48 _ _ _ _))
              rw [g4] at q45 ⊢
              refine R_icmp_ge (t := 111) dX12_seat_48 rfl (fun c48 => ?_) (fun c48 => ?_)
              · exfalso; omega
              refine R_aload_n dX12_seat_51 rfl (?_ : RR _ _ _ _ 52 _ _ _ _)
              refine R_getr dX12_seat_52 flX12_33 cok_12 rfl (by decide) (?_ : RR _ _ _ _ 55 _ _ _ _)
              refine R_iload dX12_seat_55 rfl (?_ : RR _ _ _ _ 57 _ _ _ _)
              refine R_cSi2 dX12_seat_57 msX12_placeOf mlX12_130 (by decide) (Nat.le_of_ble_eq_true rfl) (Nat.le_of_ble_eq_true rfl) (T_X12_placeOf) (?_ : RR _ _ _ _ 60 _ _ _ _)
              rw [g154]
              refine R_if_lt (t := 105) dX12_seat_60 rfl (fun c60 => ?_) (fun c60 => ?_)
              rotate_left
              · exfalso; omega
              refine R_iinc dX12_seat_105 rfl (Nat.le_of_ble_eq_true rfl) (?_ : RR _ _ _ _ 108 [_, _, _, _, _, _] _ _ _)
              refine R_goto (t := 42) dX12_seat_108 rfl (?_ : RR _ _ _ _ 42 _ _ _ _)
              exact IH _
        have g5 : h3 147 5 = np := by rw [e 147 (by omega)]; exact h5
        have hsr : ∀ j : Nat, j < np → mS (rup h3 147 (fup (h3 147) 0 0) 154) j = -1 ∨ (0 ≤ mS (rup h3 147 (fup (h3 147) 0 0) 154) j ∧ mS (rup h3 147 (fup (h3 147) 0 0) 154) j < 6) := fun j hj => by
          rw [rup_n (by omega), E154]
          have : mS (h 154) j = -1 ∨ (0 ≤ mS (h 154) j ∧ mS (h 154) j < nc ∧ _) := hf.2.2.2.2.2 j hj
          omega
        refine R_aload_n dX12_seat_0 rfl (?_ : RR _ _ _ _ 1 _ _ _ _)
        refine R_iconst dX12_seat_1 (?_ : RR _ _ _ _ 2 _ _ _ _)
        refine R_puti (zk := 0) dX12_seat_2 flX12_106 cok_12 (by decide) (fun q hq => by cases hq; rfl) rfl (?_ : RR _ _ _ _ 5 _ _ _ _)
        refine R_aload_n dX12_seat_5 rfl (?_ : RR _ _ _ _ 6 _ _ _ _)
        refine R_iload_n dX12_seat_6 rfl (?_ : RR _ _ _ _ 7 _ _ _ _)
        refine R_cVi1 dX12_seat_7 mvX12_isPassenger mlX12_325 (by decide) (by decide) (Nat.le_of_ble_eq_true rfl) (Nat.le_of_ble_eq_true rfl) (T_X12_isPassenger (by simp (disch := omega) only [rup_s, fup_n]; rw [g5]; omega)) (?_ : RR _ _ _ _ 10 _ _ _ _)
        simp (disch := omega) only [rup_s, fup_n]
        rw [g5, if_pos (by omega)]
        refine R_if_ne (t := 15) dX12_seat_10 rfl (fun c10 => ?_) (fun c10 => ?_)
        rotate_left
        · exfalso; omega
        refine R_aload_n dX12_seat_15 rfl (?_ : RR _ _ _ _ 16 _ _ _ _)
        refine R_aload_n dX12_seat_16 rfl (?_ : RR _ _ _ _ 17 _ _ _ _)
        refine R_getr dX12_seat_17 flX12_33 cok_12 rfl (by decide) (?_ : RR _ _ _ _ 20 _ _ _ _)
        refine R_cVi1 dX12_seat_20 mvX12_riding mlX12_303 (by decide) (by decide) (Nat.le_of_ble_eq_true rfl) (Nat.le_of_ble_eq_true rfl) (T_X12_riding (np := np) hsr (by simp (disch := omega) only [rup_s, fup_n]; exact g5)) (?_ : RR _ _ _ _ 23 _ _ _ _)
        refine R_iload_n dX12_seat_23 rfl (?_ : RR _ _ _ _ 24 _ _ _ _)
        refine R_cSi2 dX12_seat_24 msX12_has mlX12_288 (by decide) (Nat.le_of_ble_eq_true rfl) (Nat.le_of_ble_eq_true rfl) (T_X12_has (bset_31 (by omega))) (?_ : RR _ _ _ _ 27 _ _ _ _)
        rw [rup_n (by omega), E154, if_pos (by rw [bset_bit, rd]; simp [hp])]
        refine R_if_ne (t := 33) dX12_seat_27 rfl (fun c27 => ?_) (fun c27 => ?_)
        rotate_left
        · exfalso; omega
        refine R_bipush dX12_seat_33 rfl (?_ : RR _ _ _ _ 35 _ _ _ _)
        refine R_istore_n dX12_seat_35 (Nat.le_of_ble_eq_true rfl) (?_ : RR _ _ _ _ 36 [_, _, _, _, _, _] _ _ _)
        refine R_bipush dX12_seat_36 rfl (?_ : RR _ _ _ _ 38 _ _ _ _)
        refine R_istore_n dX12_seat_38 (Nat.le_of_ble_eq_true rfl) (?_ : RR _ _ _ _ 39 [_, _, _, _, _, _] _ _ _)
        refine R_iconst dX12_seat_39 (?_ : RR _ _ _ _ 40 _ _ _ _)
        refine R_istore dX12_seat_40 (Nat.le_of_ble_eq_true rfl) (?_ : RR _ _ _ _ 42 [_, _, _, _, _, _] _ _ _)
        exact L nc 0 _ _ (by omega) (mlp_0 hs e)
    · have rd2 : ¬ (0 ≤ mS (h 154) p ∧ 0 ≤ mP (h 154) (mS (h 154) p)) := fun z => rd (by unfold ridP; exact decide_eq_true z)
      have rd3 : ¬ (h (14 + 4) p ≠ -1 ∧ h (14 + 2) (h (14 + 4) p) ≠ -1) := fun z => rd2 (by
        rw [esp] at z
        rw [hepl _ (by omega) (by omega)] at z
        have := hmpb (mS (h 154) p) (by omega) (by omega)
        omega)
      refine A_q hs (z := -3) (o := none) (cQ_no (M := mX11_seat) (d := 6) (As := [pR 0, pI p]) (MT.of (fun Q hQ => (?_ : RR mX11_seat _ _ _ _ [pR 0, pI p, pU, pU, pU, pU] _ _ _)))) (fun h3 e => mQ_thr (M := mX12_seat) (d := 10) (As := [pR 147, pI p]) (MT.of (fun Q hQ => (?_ : RR mX12_seat _ _ _ _ [pR 147, pI p, pU, pU, pU, pU] _ _ _)))) (fun L e => by cases e)
      · refine R_aload_n dX11_seat_0 rfl (?_ : RR _ _ _ _ 1 _ _ _ _)
        refine R_getr dX11_seat_1 flX11_29 cok_11 rfl (by decide) (?_ : RR _ _ _ _ 4 _ _ _ _)
        refine R_iload_n dX11_seat_4 rfl (?_ : RR _ _ _ _ 5 _ _ _ _)
        refine R_cVi1 dX11_seat_5 mvX2_has mlX11_202 (by decide) (by decide) (Nat.le_of_ble_eq_true rfl) (Nat.le_of_ble_eq_true rfl) (T_X2_has) (?_ : RR _ _ _ _ 8 _ _ _ _)
        rw [h11, if_pos q]
        refine R_if_ne (t := 13) dX11_seat_8 rfl (fun c8 => ?_) (fun c8 => ?_)
        rotate_left
        · exfalso; omega
        refine R_aload_n dX11_seat_13 rfl (?_ : RR _ _ _ _ 14 _ _ _ _)
        refine R_getr dX11_seat_14 flX11_36 cok_11 rfl (by decide) (?_ : RR _ _ _ _ 17 _ _ _ _)
        refine R_iload_n dX11_seat_17 rfl (?_ : RR _ _ _ _ 18 _ _ _ _)
        refine R_cVi1 dX11_seat_18 mvX9_carries mlX11_330 (by decide) (by decide) (Nat.le_of_ble_eq_true rfl) (Nat.le_of_ble_eq_true rfl) (T_X9_carries (hs := by rw [esp]; omega)) (?_ : RR _ _ _ _ 21 _ _ _ _)
        rw [if_neg rd3]
        refine R_if_ne (t := 27) dX11_seat_21 rfl (fun c21 => ?_) (fun c21 => ?_)
        · exfalso; omega
        refine R_bipush dX11_seat_24 rfl (?_ : RR _ _ _ _ 26 _ _ _ _)
        exact R_ireturn dX11_seat_26 trivial hQ
      · have g5 : h3 147 5 = np := by rw [e 147 (by omega)]; exact h5
        have E154 : h3 154 = h 154 := e 154 (by omega)
        have hsr : ∀ j : Nat, j < np → mS (rup h3 147 (fup (h3 147) 0 0) 154) j = -1 ∨ (0 ≤ mS (rup h3 147 (fup (h3 147) 0 0) 154) j ∧ mS (rup h3 147 (fup (h3 147) 0 0) 154) j < 6) := fun j hj => by
          rw [rup_n (by omega), E154]
          have : mS (h 154) j = -1 ∨ (0 ≤ mS (h 154) j ∧ mS (h 154) j < nc ∧ _) := hf.2.2.2.2.2 j hj
          omega
        refine R_aload_n dX12_seat_0 rfl (?_ : RR _ _ _ _ 1 _ _ _ _)
        refine R_iconst dX12_seat_1 (?_ : RR _ _ _ _ 2 _ _ _ _)
        refine R_puti (zk := 0) dX12_seat_2 flX12_106 cok_12 (by decide) (fun q hq => by cases hq; rfl) rfl (?_ : RR _ _ _ _ 5 _ _ _ _)
        refine R_aload_n dX12_seat_5 rfl (?_ : RR _ _ _ _ 6 _ _ _ _)
        refine R_iload_n dX12_seat_6 rfl (?_ : RR _ _ _ _ 7 _ _ _ _)
        refine R_cVi1 dX12_seat_7 mvX12_isPassenger mlX12_325 (by decide) (by decide) (Nat.le_of_ble_eq_true rfl) (Nat.le_of_ble_eq_true rfl) (T_X12_isPassenger (by simp (disch := omega) only [rup_s, fup_n]; rw [g5]; omega)) (?_ : RR _ _ _ _ 10 _ _ _ _)
        simp (disch := omega) only [rup_s, fup_n]
        rw [g5, if_pos (by omega)]
        refine R_if_ne (t := 15) dX12_seat_10 rfl (fun c10 => ?_) (fun c10 => ?_)
        rotate_left
        · exfalso; omega
        refine R_aload_n dX12_seat_15 rfl (?_ : RR _ _ _ _ 16 _ _ _ _)
        refine R_aload_n dX12_seat_16 rfl (?_ : RR _ _ _ _ 17 _ _ _ _)
        refine R_getr dX12_seat_17 flX12_33 cok_12 rfl (by decide) (?_ : RR _ _ _ _ 20 _ _ _ _)
        refine R_cVi1 dX12_seat_20 mvX12_riding mlX12_303 (by decide) (by decide) (Nat.le_of_ble_eq_true rfl) (Nat.le_of_ble_eq_true rfl) (T_X12_riding (np := np) hsr (by simp (disch := omega) only [rup_s, fup_n]; exact g5)) (?_ : RR _ _ _ _ 23 _ _ _ _)
        refine R_iload_n dX12_seat_23 rfl (?_ : RR _ _ _ _ 24 _ _ _ _)
        refine R_cSi2 dX12_seat_24 msX12_has mlX12_288 (by decide) (Nat.le_of_ble_eq_true rfl) (Nat.le_of_ble_eq_true rfl) (T_X12_has (bset_31 (by omega))) (?_ : RR _ _ _ _ 27 _ _ _ _)
        rw [rup_n (by omega), E154, if_neg (by rw [bset_bit]; simpa [hp] using rd)]
        refine R_if_ne (t := 33) dX12_seat_27 rfl (fun c27 => ?_) (fun c27 => ?_)
        · exfalso; omega
        refine R_bipush dX12_seat_30 rfl (?_ : RR _ _ _ _ 32 _ _ _ _)
        exact R_ireturn dX12_seat_32 trivial hQ
  · refine A_q hs (z := -1) (o := none) (cQ_no (M := mX11_seat) (d := 6) (As := [pR 0, pI v]) (MT.of (fun Q hQ => (?_ : RR mX11_seat _ _ _ _ [pR 0, pI v, pU, pU, pU, pU] _ _ _)))) (fun h3 e => mQ_thr (M := mX12_seat) (d := 10) (As := [pR 147, pI v]) (MT.of (fun Q hQ => (?_ : RR mX12_seat _ _ _ _ [pR 147, pI v, pU, pU, pU, pU] _ _ _)))) (fun L e => by cases e)
    · refine R_aload_n dX11_seat_0 rfl (?_ : RR _ _ _ _ 1 _ _ _ _)
      refine R_getr dX11_seat_1 flX11_29 cok_11 rfl (by decide) (?_ : RR _ _ _ _ 4 _ _ _ _)
      refine R_iload_n dX11_seat_4 rfl (?_ : RR _ _ _ _ 5 _ _ _ _)
      refine R_cVi1 dX11_seat_5 mvX2_has mlX11_202 (by decide) (by decide) (Nat.le_of_ble_eq_true rfl) (Nat.le_of_ble_eq_true rfl) (T_X2_has) (?_ : RR _ _ _ _ 8 _ _ _ _)
      rw [h11, if_neg q]
      refine R_if_ne (t := 13) dX11_seat_8 rfl (fun c8 => ?_) (fun c8 => ?_)
      · exfalso; omega
      refine R_iconst dX11_seat_11 (?_ : RR _ _ _ _ 12 _ _ _ _)
      exact R_ireturn dX11_seat_12 trivial hQ
    · have g5 : h3 147 5 = np := by rw [e 147 (by omega)]; exact h5
      refine R_aload_n dX12_seat_0 rfl (?_ : RR _ _ _ _ 1 _ _ _ _)
      refine R_iconst dX12_seat_1 (?_ : RR _ _ _ _ 2 _ _ _ _)
      refine R_puti (zk := 0) dX12_seat_2 flX12_106 cok_12 (by decide) (fun q hq => by cases hq; rfl) rfl (?_ : RR _ _ _ _ 5 _ _ _ _)
      refine R_aload_n dX12_seat_5 rfl (?_ : RR _ _ _ _ 6 _ _ _ _)
      refine R_iload_n dX12_seat_6 rfl (?_ : RR _ _ _ _ 7 _ _ _ _)
      refine R_cVi1 dX12_seat_7 mvX12_isPassenger mlX12_325 (by decide) (by decide) (Nat.le_of_ble_eq_true rfl) (Nat.le_of_ble_eq_true rfl) (T_X12_isPassenger (by simp (disch := omega) only [rup_s, fup_n]; rw [g5]; omega)) (?_ : RR _ _ _ _ 10 _ _ _ _)
      simp (disch := omega) only [rup_s, fup_n]
      rw [g5, if_neg (fun z => q ⟨z.1, by omega⟩)]
      refine R_if_ne (t := 15) dX12_seat_10 rfl (fun c10 => ?_) (fun c10 => ?_)
      · exfalso; omega
      refine R_iconst dX12_seat_13 (?_ : RR _ _ _ _ 14 _ _ _ _)
      exact R_ireturn dX12_seat_14 trivial hQ
end SE
