section SF
variable {k k' H2 : Nat} {h h' : Nat → Int → Int} {sem sem' : Sem} {H np nc len : Nat} {X X' : Cx}
theorem SB_fr (hb : SB h sem H np nc) (e3 : h' 3 0 = h 3 0) (e : ∀ a, (a = 4 ∨ a = 5 ∨ a = 6 ∨ a = 11 ∨ a = 12 ∨ a = 13 ∨ a = 29 ∨ a = 30 ∨ a = 149 ∨ a = 150 ∨ a = 151 ∨ a = 152 ∨ a = 153 ∨ a = 158) → h' a = h a) (e2 : ∀ j : Int, (j = 3 ∨ j = 4 ∨ j = 5 ∨ j = 23) → h' 147 j = h 147 j) : SB h' sem H np nc := by
  obtain ⟨b1, b2, b3, b4, b5, b6, b7, b8, b9, b10, b11⟩ := hb
  have eX : cxM sem h' np nc = cxM sem h np nc := cxM_fr (fun a a1 a2 => e a (by omega))
  refine ⟨?_, ?_, ?_, ?_, ?_, ?_, ?_, ?_, ?_, ?_, b11⟩
  · rw [e2 3 (by omega)]; exact b1
  · rw [e2 4 (by omega)]; exact b2
  · rw [e2 5 (by omega)]; exact b3
  · rw [e3]; exact b4
  · rw [eX]; exact b5
  · rw [e 149 (by omega), e 150 (by omega), e 151 (by omega)]; exact b6
  · rw [eX]
    obtain ⟨c1, c2, c3, c4, c5, c6, c7⟩ := b7
    unfold CO NetC RidC ruOK
    rw [e (3 + 1) (by omega), e (3 + 2) (by omega), e (3 + 3) (by omega), e 11 (by omega), e 12 (by omega), e 13 (by omega), e 29 (by omega), e (29 + 1) (by omega)]
    exact ⟨c1, c2, c3, c4, c5, c6, c7⟩
  · exact mrOK_fr b8 (e2 23 (by omega)) (e 158 (by omega))
  · rw [e 29 (by omega)]; exact b9
  · rw [e 29 (by omega)]; exact b10
theorem SA_fr (ha : SA h) (e1 : h' 1 1 = h 1 1) (e2 : h' 147 15 = h 147 15) (e3 : h' 2 = h 2) (e4 : h' 156 = h 156) : SA h' := by
  unfold SA
  rw [e1, e2, e3, e4]
  exact ha
theorem SS_fr (ha : SS h H) (e1 : h' 138 = h 138) (e2 : h' 147 40 = h 147 40) (e3 : h' 139 = h 139) (e4 : h' 170 = h 170) (e5 : h' 171 = h 171) (e6 : h' 172 = h 172) : SS h' H := by
  unfold SS
  rw [e1, e2, e3, e4, e5, e6]
  exact ha
theorem SP_fr (ha : SP h) (e1 : h' 10 = h 10) (e8 : h' 8 = h 8) (e9 : h' 9 = h 9) (e2 : h' 32 = h 32) (e3 : 0 ≤ h' 147 30 ∧ h' 147 30 < 64) : SP h' := by
  unfold SP
  rw [e1, e2, e8, e9]
  exact ⟨ha.1, ha.2.1, e3⟩
/-- what was kept -/
def SKp (k : Nat) (h : Nat → Int → Int) (X : Cx) (H : Nat) : Prop :=
  (0 ≤ h 147 6 ∧ h 147 6 ≤ k) ∧
  (∀ i : Nat, i < 3 → (h 47 i = 0 ∨ h 47 i = 1) ∧ (h 175 i = 0 ∨ h 175 i = 1) ∧ (h 47 i = 1 ↔ (h 175 i = 1 ∧ h 176 i = h 147 6)) ∧ h 176 i ≤ h 147 6 ∧ (h 47 i = 1 → ∃ l, Cpl X H h (123 + 5 * i) (fun z => h 177 (26 * i + z)) l ∧ h 177 (26 * i + 1) ≤ 600 * k))
/-- what may be undone -/
def SUn (k : Nat) (h : Nat → Int → Int) (X : Cx) (H : Nat) : Prop :=
  (∃ U x : Nat, h 44 3 = U ∧ h 147 28 = U ∧ U ≤ 15 ∧ h 44 4 = x ∧ x < 15 ∧ ∀ j : Nat, j < U → ∃ l, Cpl X H h (48 + 5 * ((x + 15 - U + j) % 15)) (fun z => h 163 (26 * j + z)) l ∧ h 163 (26 * j + 1) ≤ 600 * k)
theorem SU_mk (h1 : Cpl X H h 14 (h 154) len) (h2 : h 154 1 ≤ 600 * k) (h3 : oor (h 155) (h 154)) (h4 : SUn k h X H) (h5 : SKp k h X H) : SU k h X H len := ⟨h1, h2, h3, h4, h5.1, h5.2⟩
theorem SU_un (hs : SU k h X H len) : SUn k h X H := hs.2.2.2.1
theorem SU_kp (hs : SU k h X H len) : SKp k h X H := ⟨hs.2.2.2.2.1, hs.2.2.2.2.2⟩
theorem fE_rf {f : Int → Int} : fE f f := fun _ _ _ => rfl
theorem SKp_fr (h6 : xC X ≤ 6) (h12 : xP X ≤ 12) (hs : SKp k h X H) (hk : k ≤ k') (e1 : xC X' = xC X) (e2 : xP X' = xP X) (e3 : ∀ p : Nat, p < xP X → xW X' p = xW X p) (e : ∀ a, (a = 47 ∨ (123 ≤ a ∧ a ≤ 137) ∨ (175 ≤ a ∧ a ≤ 177)) → h' a = h a) (e4 : h' 147 6 = h 147 6) : SKp k' h' X' H := by
  obtain ⟨h1, h2⟩ := hs
  refine ⟨by rw [e4]; omega, fun i hi => ?_⟩
  obtain ⟨v1, v2, v3, v4, v5⟩ := h2 i hi
  rw [e 47 (by omega), e 175 (by omega), e 176 (by omega), e 177 (by omega), e4]
  refine ⟨v1, v2, v3, v4, fun q => ?_⟩
  obtain ⟨l, c1, c2⟩ := v5 q
  exact ⟨l, Cpl_fr (Cpl_E h6 h12 c1 fE_rf e1 e2 e3) (fun a a1 a2 => e a (by omega)), by omega⟩
theorem SUn_fr (h6 : xC X ≤ 6) (h12 : xP X ≤ 12) (hs : SUn k h X H) (hk : k ≤ k') (e1 : xC X' = xC X) (e2 : xP X' = xP X) (e3 : ∀ p : Nat, p < xP X → xW X' p = xW X p) (e : ∀ a, (a = 44 ∨ (48 ≤ a ∧ a ≤ 122) ∨ a = 163) → h' a = h a) (e4 : h' 147 28 = h 147 28) : SUn k' h' X' H := by
  obtain ⟨U, x, u4, u5, u6, u7, u8, u9⟩ := hs
  refine ⟨U, x, by rw [e 44 (by omega)]; exact u4, by rw [e4]; exact u5, u6, by rw [e 44 (by omega)]; exact u7, u8, fun j hj => ?_⟩
  obtain ⟨l, c1, c2⟩ := u9 j hj
  rw [e 163 (by omega)]
  exact ⟨l, Cpl_fr (Cpl_E h6 h12 c1 fE_rf e1 e2 e3) (fun a a1 a2 => e a (by omega)), by omega⟩
/-- nothing is left to undo -/
theorem SUn_0 (hs : SUn k h X H) (e1 : h' 44 3 = 0) (e2 : h' 147 28 = 0) (e3 : h' 44 4 = h 44 4) : SUn k' h' X' H2 := by
  obtain ⟨U, x, u4, u5, u6, u7, u8, u9⟩ := hs
  exact ⟨0, x, e1, e2, by omega, e3.trans u7, u8, fun j hj => by omega⟩
/-- nothing is kept -/
theorem SKp_0 (hs : SKp k h X H) (e1 : ∀ i : Nat, i < 3 → h' 47 i = 0) (e2 : h' 175 = h 175) (e3 : h' 176 = h 176) (e4 : h' 147 6 = h 147 6 + 1) : SKp (k + 1) h' X' H2 := by
  obtain ⟨h1, h2⟩ := hs
  refine ⟨by rw [e4]; omega, fun i hi => ?_⟩
  obtain ⟨v1, v2, v3, v4, v5⟩ := h2 i hi
  rw [e1 i hi, e2, e3, e4]
  exact ⟨Or.inl rfl, v2, ⟨fun q => by omega, fun q => by omega⟩, by omega, fun q => by omega⟩
end SF
