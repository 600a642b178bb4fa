section AP3
variable {k : Nat} {h h1 h2 h3 h4 hb : Nat → Int → Int} {sem : Sem} {H np nc len : Nat}
theorem A_passengers (hs : SRx k h sem H np nc len) (hk : k ≤ 1000) : AG mX11_passengers mX12_passengers 3 3 [] k h := by
  have x6 := sR6 hs
  have x12 := sR12 hs
  have hH := sRH hs
  have h3H : h 3 0 = H := hs.1.2.2.2.1
  have h147 : h 147 3 = H := hs.1.1
  have h4c : h 147 4 = nc := hs.1.2.1
  have h5p : h 147 5 = np := hs.1.2.2.1
  have h11 : h 11 0 = np := hs.1.2.2.2.2.2.2.1.2.1.1
  obtain ⟨n, n1, n2, n3, n4⟩ := hs.2.1
  have hcp := hs.2.2.2.1.1
  have e2 : h 14 2 = nc := hcp.2.2.2.1
  have hch := hs.2.2.2.1.2.2.2.2.1
  have hfo := hcp.1
  have hf0 : 0 ≤ h 154 0 ∧ h 154 0 < H := hfo.1
  obtain ⟨b, hb⟩ : ∃ b, b = min n 47 := ⟨_, rfl⟩
  obtain ⟨σ, hσe⟩ : ∃ σ : Int → Int, σ = fun p => if 0 ≤ p ∧ p < (b : Int) then h 156 p else -1 := ⟨_, rfl⟩
  have hσi : ∀ p : Nat, p < b → σ p = h 156 p := fun p hp => by rw [hσe]; exact if_pos (by omega)
  have hσn : ∀ p : Nat, b ≤ p → σ p = -1 := fun p hp => by rw [hσe]; exact if_neg (by omega)
  have hσb : ∀ p : Int, -1 ≤ σ p ∧ σ p ≤ 255 := fun p => by
    rw [hσe]
    dsimp only
    split
    · rename_i q
      have := (n4 p.toNat (by omega)).2
      rw [show ((p.toNat : Nat) : Int) = p by omega] at this
      omega
    · omega
  have hσc : ∀ h1 : Nat → Int → Int, h1 1 2 = min (n : Int) 47 → h1 2 = h 2 → ∀ p : Int, 0 ≤ p → signAt h1 p = σ p := fun h1 g1 g2 p p0 => by
    unfold signAt
    rw [hσe, g1, g2]
    dsimp only
    by_cases q : p < min (n : Int) 47
    · rw [if_pos (by omega), if_pos (by omega)]
      have := (n4 p.toNat (by omega)).1
      rw [show ((p.toNat : Nat) : Int) = p by omega] at this
      exact this
    · rw [if_neg (by omega), if_neg (by omega)]
  have hPH : ∀ c : Int, 0 ≤ c → c < nc → r32 (paH (h 154) c) := fun c c0 c1 => by
    have := fOK_pl hfo c0 (show c < nc from c1)
    unfold paH
    split <;> exact ⟨by omega, by omega⟩
  obtain ⟨h9, h9e⟩ : ∃ h9, h9 = rup h 1 (fup (h 1) 2 (min (n : Int) 47)) := ⟨_, rfl⟩
  /- the reference's end -/
  have K78 : ∀ (h3 hb : Nat → Int → Int) (m : Nat) (Q : Option PV → PH → Prop), (∀ a, 147 ≤ a → h3 a = h a) → np + m ≤ 12 → mrF h3 hb → hb 147 20 = m → rdP σ m hb → (∀ i, i < m → paOK σ H nc np i) → (∀ h2, mpP hb σ (h 154) np m h2 → Q (some (pI m)) (shp0, rf0, if 0 < m then rup h2 147 (fup (fup (h2 147) 28 0) 6 (h2 147 6 + 1)) else h2)) → RR mX12_passengers 3 0 0 78 [pR 147, pI n, pI 1, pI 0, pI 0, pU] [] (shp0, rf0, hb) Q := by
    intro h3 hb m Q e3 hm f1 e20 hrd hok hQ
    have K := MPA_81 (n := n) (f := h 154) hm e20 hrd hok x6 hH.2 hPH (by rw [f1.2.1 6 (by omega) (by omega) (by omega) (by omega) (by omega) (by omega), e3 147 (by omega)]; omega) hQ m 0 hb (by omega) ⟨fun _ _ _ _ _ => rfl, fun _ _ => rfl, by rw [f1.2.1 5 (by omega) (by omega) (by omega) (by omega) (by omega) (by omega), e3 147 (by omega)]; exact h5p, rfl, rfl, by rw [f1.1 154 (by omega) (by omega)]; exact e3 154 (by omega)⟩
    refine R_iconst dX12_passengers_78 (?_ : RR _ _ _ _ 79 _ _ _ _)
    refine R_istore dX12_passengers_79 (Nat.le_of_ble_eq_true rfl) (?_ : RR _ _ _ _ 81 [_, _, _, _, _, _] _ _ _)
    exact K
  /- the text alone -/
  have htx : ∀ g : Nat → Int → Int, mrF (rup h 1 (fup (fup (h 1) 2 (min (n : Int) 47)) 1 0)) g → SR (k + 1) g := fun g f1 => SR_text hs (by rw [f1.1 1 (by omega) (by omega), rup_s, fup_s]) (fun a q1 q2 q3 => by rw [f1.1 a q2 q3, rup_n q1]) (fun j q1 q2 q3 q4 q5 q6 => by rw [f1.2.1 j q1 q2 q3 q4 q5 q6, rup_n (by omega)]) f1.2.2
  by_cases z : n = 0
  · refine RR.post (C_pass_no (r := 0) n1 n3 (by omega) (by omega) (by rw [if_pos z])) (fun r' g' q => ?_)
    obtain ⟨rfl, rfl⟩ := q
    refine ⟨_, rfl, M_pass (b := b) (by rw [rup_n (by omega)]; exact n2) n3 hb (fun h4 f4 g16 g17 g20 => ?_)⟩
    rw [if_neg (by omega)]
    refine MPA_60y (by rw [g16]; omega) (by rw [g17]; omega) (by omega) (K78 _ h4 0 _ (fun a ha => rup_n (by omega)) (by omega) f4 g20 (fun i hi => by omega) (fun i hi => by omega) (fun h2 f2 => ?_))
    rw [if_neg (by omega)]
    refine ⟨rfl, h2, rfl, htx h2 ⟨fun a a1 a2 => ?_, fun j j1 j2 j3 j4 j5 j6 => ?_, ?_⟩⟩
    · by_cases y2 : a = 152
      · rw [y2, f2.2.2.2.1, ← f4.1 152 (by omega) (by omega)]; rfl
      · by_cases y3 : a = 153
        · rw [y3, f2.2.2.2.2.1, ← f4.1 153 (by omega) (by omega)]; rfl
        · by_cases y4 : a = 154
          · rw [y4, f2.2.2.2.2.2, rup_n (by omega)]; rfl
          · rw [f2.1 a a1 y2 y3 y4]; exact f4.1 a a1 a2
    · by_cases y : j = 5
      · rw [y, f2.2.2.1, rup_n (by omega), h5p]; rfl
      · rw [f2.2.1 j y]; exact f4.2.1 j j1 j2 j3 j4 j5 j6
    · rw [f2.2.1 15 (by omega)]; exact f4.2.2
  · obtain ⟨l, r, hl12, hg, hr⟩ := pa_ex (σ := σ) (H := H) (nc := nc) (np := np) (n := n)
    have hck := T_X11_checkPassengers (h := h9) (hσc h9 (by rw [h9e, rup_s, fup_s]) (by rw [h9e, rup_n (by omega)])) hσb (by rw [h9e, rup_s, fup_n (by omega)]; exact n1) n3 (by rw [h9e, rup_n (by omega)]; exact h3H) hH.2 (by rw [h9e, rup_n (by omega)]; exact e2) x6 (by rw [h9e, rup_n (by omega)]; exact h11) x12 hl12 hg hr
    rw [h9e] at hck
    have hread : ∀ (h3 : Nat → Int → Int) (Q : Option PV → PH → Prop), (∀ a, 147 ≤ a → h3 a = h a) → (∀ h1, r < 0 → mrF h3 h1 → Q (some (pI r)) (shp0, rf0, h1)) → (∀ h1, r = l + 1 → (∀ j, j ≤ l → paOK σ H nc np j) → mrF h3 h1 → h1 147 20 = l + 1 → rdP σ (l + 1) h1 → RR mX12_passengers 3 0 0 78 [pR 147, pI n, pI 1, pI 0, pI 0, pU] [] (shp0, rf0, h1) Q) → RR mX12_passengers 3 0 0 0 (pm_ent [pR 147] 6) [] (shp0, rf0, h3) Q := fun h3 Q e3 hno hye => M_pass (b := b) (by rw [e3 147 (by omega)]; exact n2) n3 hb (fun h4 f4 g16 g17 g20 => by
      rw [if_pos (by omega)]
      exact MPA_29 (h := h3) (l := l) (r := r) (by rw [e3 147 (by omega)]; exact h147) hH (by rw [e3 147 (by omega)]; exact h4c) x6 (by rw [e3 147 (by omega)]; exact h5p) x12 hb n3 (fun p hp => by rw [e3 156 (by omega), hσi p hp]; exact ⟨rfl, (n4 p (by omega)).2⟩) hσn hg hr hno hye l 0 h4 (by omega) f4 (by rw [g16]; rfl) g17 (by omega) g20 (fun i hi => by omega))
    by_cases hr0 : r < 0
    · have hrb : -1000 ≤ r := by
        rcases hr with ⟨r1, r2⟩ | ⟨r1, r2, r3⟩ | ⟨r1, r2, r3, r4⟩ | ⟨r1, r4, r5⟩ | ⟨r1, r4, r5, r6⟩ <;> omega
      refine RR.post (C_pass_no (r := r) n1 n3 (by omega) hrb (by rw [if_neg z]; exact hck)) (fun r' g' q => ?_)
      obtain ⟨rfl, rfl⟩ := q
      refine ⟨_, rfl, hread _ _ (fun a ha => rup_n (by omega)) (fun h1 _ f1 => ⟨rfl, h1, rfl, htx h1 f1⟩) (fun h1 q1 => by omega)⟩
    · have hrl : r = ((l + 1 : Nat) : Int) ∧ ∀ j, j ≤ l → paOK σ H nc np j := by
        rcases hr with ⟨r1, r2⟩ | ⟨r1, r2, r3⟩ | ⟨r1, r2, r3, r4⟩ | ⟨r1, r4, r5⟩ | ⟨r1, r4, r5, r6⟩
        · omega
        · omega
        · omega
        · refine ⟨by omega, fun j hj => ?_⟩
          by_cases y : j = l
          · rw [y]; exact r1
          · exact (hg j (by omega)).1
        · omega
      obtain ⟨hrl, hall⟩ := hrl
      have hm12 : np + (l + 1) ≤ 12 := by have := (hall l (by omega)).1.1; omega
      rw [hrl] at hck
      refine RR.post (C_pass (m := l + 1) hs n1 (by omega) n3 (by omega) hm12 hσc hσb (fun i hi => hall i (by omega)) hck) (fun r' g' q => ?_)
      obtain ⟨rfl, h3, rfl, c1, c2, c3, c4, c5, c6, c7, c8, c9⟩ := q
      refine ⟨_, rfl, hread _ _ (fun a ha => c1 a (by omega)) (fun h1 q1 => by omega) (fun h1 _ _ f1 g20 hrd => ?_)⟩
      refine K78 h3 h1 (l + 1) _ (fun a ha => c1 a (by omega)) hm12 f1 (by rw [g20]; omega) hrd (fun i hi => hall i (by omega)) (fun h2 f2 => ?_)
      rw [if_pos (by omega)]
      exact ⟨rfl, _, rfl, SR_pass hs (by omega) hm12 (fun i hi => hall i (by omega)) c1 c2 c3 c4 c5 c6 c7 c8 c9 f1 f2 rfl⟩
end AP3
