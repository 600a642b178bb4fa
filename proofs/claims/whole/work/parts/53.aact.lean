/-! an act as a call -/
def cAct (X : Cx) (H : Nat) (h : Nat → Int → Int) (x U len : Nat) (w : Int × (Int → Int)) (TC : (Nat → Int → Int) → Prop) (r' : Option PV) (g' : PH) : Prop := ∃ h3 len', g' = (shp0, rf0, h3) ∧ r' = some (pI w.1) ∧ Cpl X H h3 14 w.2 len' ∧ TC h3 ∧
  (∀ a, ¬ ((14 ≤ a ∧ a ≤ 18) ∨ (19 ≤ a ∧ a ≤ 23) ∨ a = 31 ∨ a = 35 ∨ (37 ≤ a ∧ a ≤ 43) ∨ a = 145 ∨ a = 146) → (w.1 < 0 ∨ ¬ (a = 44 ∨ (48 + 5 * x ≤ a ∧ a ≤ 48 + 5 * x + 4))) → h3 a = h a) ∧
  (0 ≤ w.1 → Cpl X H h3 (48 + 5 * x) (h 154) len ∧ h3 44 3 = min 15 (U + 1) ∧ h3 44 4 = ((x + 1) % 15 : Nat))
def mAct (h : Nat → Int → Int) (U : Nat) (w : Int × (Int → Int)) (TM : (Nat → Int → Int) → Prop) (r' : Option PV) (g' : PH) : Prop := ∃ h4, g' = (shp0, rf0, h4) ∧ r' = some (pI w.1) ∧ h4 154 = w.2 ∧ TM h4 ∧
  (∀ a, a ≠ 147 → a ≠ 148 → a ≠ 154 → a ≠ 160 → a ≠ 161 → a ≠ 162 → a ≠ 163 → h4 a = h a) ∧ (∀ j : Int, j ≠ 0 → j ≠ 1 → j ≠ 28 → j ≠ 30 → h4 147 j = h 147 j) ∧ (0 ≤ h4 147 30 ∧ h4 147 30 < 64) ∧
  (w.1 < 0 → h4 147 28 = h 147 28 ∧ (h4 163 = put (26 * U) (h 154) (h 163) 26 ∨ h4 163 = h 163)) ∧
  (0 ≤ w.1 → h4 147 28 = min 15 (U + 1) ∧ h4 163 = if U < 15 then put (26 * U) (h 154) (h 163) 26 else shf (put (26 * U) (h 154) (h 163) 26) 390)
section AA
variable {k : Nat} {h : Nat → Int → Int} {sem : Sem} {H np nc len : Nat}
theorem SUn_put {k' : Nat} {g : Nat → Int → Int} {X : Cx} {U : Nat} {f : Int → Int} (h6 : xC X ≤ 6) (h12 : xP X ≤ 12) (hk : k ≤ k') (hs : SUn k h X H) (hU : h 147 28 = U) (g1 : ∀ a, (a = 44 ∨ (48 ≤ a ∧ a ≤ 122)) → g a = h a) (g3 : g 147 28 = h 147 28) (g5 : g 163 = put (26 * U) f (h 163) 26 ∨ g 163 = h 163) : SUn k' g X H := by
  obtain ⟨U', x, u4, u5, u6, u7, u8, u9⟩ := hs
  have e : U' = U := by rw [hU] at u5; omega
  subst e
  refine ⟨U', x, by rw [g1 44 (by omega)]; exact u4, by rw [g3]; exact u5, u6, by rw [g1 44 (by omega)]; exact u7, u8, fun j hj => ?_⟩
  obtain ⟨l, c1, c2⟩ := u9 j hj
  have key : ∀ z : Int, 0 ≤ z → z < 26 → g 163 (26 * j + z) = h 163 (26 * j + z) := fun z z0 z1 => by
    rcases g5 with e | e
    · rw [e]; exact put_out (by omega)
    · rw [e]
  exact ⟨l, Cpl_fr (Cpl_E h6 h12 c1 (fun z z0 z1 => key z z0 z1) rfl rfl (fun _ _ => rfl)) (fun a a1 a2 => g1 a (by omega)), by rw [key 1 (by omega) (by omega)]; omega⟩
theorem A_act {Mc Mm : PMt} {dc dm x U : Nat} {As : List PV} {w : Int × (Int → Int)} {TC TM : (Nat → Int → Int) → Prop} (hs : SRx k h sem H np nc len) (hU : h 44 3 = U) (hx : h 44 4 = x)
    (hcls : RR Mc dc 0 0 0 (pm_ent (pR 0 :: As) Mc.2.2.1) [] (shp0, rf0, h) (cAct (cxM sem h np nc) H h x U len w TC))
    (hmod : ∀ h3 : Nat → Int → Int, (∀ a, 147 ≤ a → h3 a = h a) → RR Mm dm 0 0 0 (pm_ent (pR 147 :: As) Mm.2.2.1) [] (shp0, rf0, h3) (mAct h3 U w TM))
    (hN : w.2 1 ≤ 600 * (k + 1 : Nat)) (hO : oor w.2 (h 154)) (hD : ∀ h3 h4 : Nat → Int → Int, TC h3 → TM h4 → h4 145 = h3 145 → h4 146 = h3 146 → SD h4) : AG Mc Mm dc dm As k h := by
  refine RR.post hcls (fun r' g' q => ?_)
  obtain ⟨h3, len', rfl, rfl, c1, c2, c3, c4⟩ := q
  refine ⟨h3, rfl, RR.post (hmod h3 (fun a ha => c3 a (by omega) ?_)) (fun r'' g'' q => ?_)⟩
  · have hx15 : x < 15 := by
      obtain ⟨U', x', u4, u5, u6, u7, u8, u9⟩ := SU_un hs.2.2.2.1
      rw [hx] at u7
      omega
    omega
  obtain ⟨h4, rfl, rfl, m1, m2, m3, m4, m5, m6, m7⟩ := q
  refine ⟨rfl, h4, rfl, ?_⟩
  obtain ⟨s1, s2, s3, s4, s5, s6⟩ := id hs
  obtain ⟨U', x', u4, u5, u6, u7, u8, u9⟩ := SU_un s4
  have eU : U' = U := by rw [hU] at u4; omega
  have ex : x' = x := by rw [hx] at u7; omega
  subst eU
  subst ex
  have e147 : h3 147 = h 147 := c3 147 (by omega) (by omega)
  have e154 : h3 154 = h 154 := c3 154 (by omega) (by omega)
  have e163 : h3 163 = h 163 := c3 163 (by omega) (by omega)
  have e155 : h3 155 = h 155 := c3 155 (by omega) (by omega)
  have fr : ∀ a, ¬ ((14 ≤ a ∧ a ≤ 18) ∨ (19 ≤ a ∧ a ≤ 23) ∨ a = 31 ∨ a = 35 ∨ (37 ≤ a ∧ a ≤ 43) ∨ a = 145 ∨ a = 146) → ¬ (a = 44 ∨ (48 ≤ a ∧ a ≤ 122)) → a ≠ 147 → a ≠ 148 → a ≠ 154 → a ≠ 160 → a ≠ 161 → a ≠ 162 → a ≠ 163 → h4 a = h a := fun a q1 q2 a1 a2 a3 a4 a5 a6 a7 => (m3 a a1 a2 a3 a4 a5 a6 a7).trans (c3 a q1 (Or.inr (by omega)))
  have fj : ∀ j : Int, j ≠ 0 → j ≠ 1 → j ≠ 28 → j ≠ 30 → h4 147 j = h 147 j := fun j j1 j2 j3 j4 => by rw [m4 j j1 j2 j3 j4, e147]
  have hF : gF (fun a => (14 ≤ a ∧ a ≤ 18) ∨ a = 44 ∨ (48 ≤ a ∧ a ≤ 122) ∨ a = 154 ∨ a = 163 ∨ a = 1028 ∨ a = 1 ∨ a = 2 ∨ a = 156 ∨ a = 1015) h h4 := ⟨fun a q1 q2 => fr a (by omega) (by omega) (by omega) (by omega) (by omega) (by omega) (by omega) (by omega) (by omega), fun j q1 q2 => fj j (by omega) (by omega) (by omega) (by omega), fun _ => m5, fun j q => by rw [fr 155 (by omega) (by omega) (by omega) (by omega) (by omega) (by omega) (by omega) (by omega) (by omega)]⟩
  have hA : SA h4 := SA_fr s2 (by rw [fr 1 (by omega) (by omega) (by omega) (by omega) (by omega) (by omega) (by omega) (by omega) (by omega)]) (fj 15 (by omega) (by omega) (by omega) (by omega)) (fr 2 (by omega) (by omega) (by omega) (by omega) (by omega) (by omega) (by omega) (by omega) (by omega)) (fr 156 (by omega) (by omega) (by omega) (by omega) (by omega) (by omega) (by omega) (by omega) (by omega))
  refine SR_a hs hF hA (hD h3 h4 c2 m2 (m3 145 (by omega) (by omega) (by omega) (by omega) (by omega) (by omega) (by omega)) (m3 146 (by omega) (by omega) (by omega) (by omega) (by omega) (by omega) (by omega))) (len2 := len') ?_ ?_ ?_ ?_
  · rw [m1]
    exact Cpl_fr c1 (fun a a1 a2 => m3 a (by omega) (by omega) (by omega) (by omega) (by omega) (by omega) (by omega))
  · rw [m1]; exact hN
  · rw [m1, fr 155 (by omega) (by omega) (by omega) (by omega) (by omega) (by omega) (by omega) (by omega) (by omega)]
    exact fun j q => (s4.2.2.1 j q).trans (hO j q).symm
  · by_cases q : w.1 < 0
    · obtain ⟨n1, n2⟩ := m6 q
      rw [e147] at n1
      rw [e154, e163] at n2
      refine SUn_put (sR6 hs) (sR12 hs) (Nat.le_succ k) (SU_un s4) u5 (fun a ha => (m3 a (by omega) (by omega) (by omega) (by omega) (by omega) (by omega) (by omega)).trans (c3 a (by omega) (Or.inl q))) n1 n2
    · obtain ⟨n1, n2⟩ := m7 (by omega)
      obtain ⟨k1, k2, k3⟩ := c4 (by omega)
      rw [e154, e163] at n2
      have hn := s4.2.1
      refine SUn_add (f := h 154) (len := len) (sR6 hs) (sR12 hs) u4 u6 u7 u8 u9 (Cpl_fr k1 (fun a a1 a2 => m3 a (by omega) (by omega) (by omega) (by omega) (by omega) (by omega) (by omega))) hn ?_ ?_ n1 (fun a a1 a2 a3 => (m3 a (by omega) (by omega) (by omega) (by omega) (by omega) (by omega) (by omega)).trans (c3 a (by omega) (Or.inr (by omega)))) n2
      · rw [m3 44 (by omega) (by omega) (by omega) (by omega) (by omega) (by omega) (by omega)]; exact k2
      · rw [m3 44 (by omega) (by omega) (by omega) (by omega) (by omega) (by omega) (by omega)]; exact k3
/-- the class's part: noted -/
theorem T_X11_noted {z : Int} {x U : Nat} (hx : h 44 4 = x) (hU : h 44 3 = U) (hx15 : x < 15) (hU15 : U ≤ 15) (hz : r32 z) : MT mX11_noted 3 [pR 0, pI z] h (some (pI z)) (if z < 0 then h else rup (trC h (48 + 5 * x) 19) 44 (fup (fup (h 44) 4 (((x + 1) % 15 : Nat) : Int)) 3 (min 15 (U + 1)))) := by
  refine MT.of (fun Q hQ => (?_ : RR mX11_noted _ _ _ _ [pR 0, pI z] _ _ _))
  have hT := isTr_19
  refine R_iload_n dX11_noted_0 rfl (?_ : RR _ _ _ _ 1 _ _ _ _)
  refine R_if_lt (t := 15) dX11_noted_1 rfl (fun c1 => ?_) (fun c1 => ?_)
  · rw [if_pos c1] at hQ
    refine R_iload_n dX11_noted_15 rfl (?_ : RR _ _ _ _ 16 _ _ _ _)
    exact R_ireturn dX11_noted_16 trivial hQ
  · rw [if_neg (by omega)] at hQ
    refine R_aload_n dX11_noted_4 rfl (?_ : RR _ _ _ _ 5 _ _ _ _)
    refine R_getr dX11_noted_5 flX11_66 cok_11 rfl (by decide) (?_ : RR _ _ _ _ 8 _ _ _ _)
    refine R_aload_n dX11_noted_8 rfl (?_ : RR _ _ _ _ 9 _ _ _ _)
    refine R_getr dX11_noted_9 flX11_40 cok_11 rfl (by decide) (?_ : RR _ _ _ _ 12 _ _ _ _)
    refine R_cVv1 dX11_noted_12 mvX1_add mlX11_237 (by decide) (by decide) (Nat.le_of_ble_eq_true rfl) (Nat.le_of_ble_eq_true rfl) (T_X1_add hx hU hx15 hU15) (?_ : RR _ _ _ _ 15 _ _ _ _)
    refine R_iload_n dX11_noted_15 rfl (?_ : RR _ _ _ _ 16 _ _ _ _)
    exact R_ireturn dX11_noted_16 trivial hQ
/-- behind the act: noted -/
theorem cAct_noted {X : Cx} {h2 : Nat → Int → Int} {x U len2 : Nat} {w : Int × (Int → Int)} (h6 : xC X ≤ 6) (h12 : xP X ≤ 12) (hc : Cpl X H h 14 (h 154) len) (hx15 : x < 15) (hU : h 44 3 = U) (hx : h 44 4 = x) (hf : aFr (trC h 19 14) h2) (hc2 : Cpl X H h2 14 w.2 len2) : cAct X H h x U len w (fun h3 => h3 145 = h 145 ∧ h3 146 = h 146) (some (pI w.1)) (shp0, rf0, if w.1 < 0 then h2 else rup (trC h2 (48 + 5 * x) 19) 44 (fup (fup (h2 44) 4 (((x + 1) % 15 : Nat) : Int)) 3 (min 15 (U + 1)))) := by
  have f2 : ∀ a, ¬ ((14 ≤ a ∧ a ≤ 18) ∨ (19 ≤ a ∧ a ≤ 23) ∨ a = 31 ∨ a = 35 ∨ (37 ≤ a ∧ a ≤ 43)) → h2 a = h a := fun a q => (hf a (by omega)).trans (trC_n (by omega))
  by_cases q : w.1 < 0
  · rw [if_pos q]
    exact ⟨h2, len2, rfl, rfl, hc2, ⟨f2 145 (by omega), f2 146 (by omega)⟩, fun a q1 _ => f2 a (by omega), fun z => by omega⟩
  · rw [if_neg q]
    have hb : Cpl X H h2 19 (h 154) len := Cpl_fr (Cpl_cp (t := 19) h6 h12 hc) (fun a a1 a2 => hf a (by omega))
    refine ⟨_, len2, rfl, rfl, ?_, ⟨?_, ?_⟩, fun a q1 q2 => ?_, fun _ => ⟨?_, ?_, ?_⟩⟩
    · refine Cpl_fr hc2 (fun a a1 a2 => ?_)
      rw [rup_n (by omega), trC_n (by omega)]
    · rw [rup_n (by omega), trC_n (by omega)]; exact f2 145 (by omega)
    · rw [rup_n (by omega), trC_n (by omega)]; exact f2 146 (by omega)
    · rw [rup_n (by omega), trC_n (by omega)]; exact f2 a (by omega)
    · exact Cpl_fr (Cpl_cp (t := 48 + 5 * x) h6 h12 hb) (fun a a1 a2 => by rw [rup_n (by omega)])
    · rw [rup_s, fup_s]; omega
    · rw [rup_s, fup_n (by omega), fup_s]
end AA
