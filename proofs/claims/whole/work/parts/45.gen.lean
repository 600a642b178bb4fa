/-! which numbers a call changes: a set of rows, and (from 1000 on) of the other's own numbers -/
abbrev scr (a : Nat) : Prop := (a = 0 ∨ (19 ≤ a ∧ a ≤ 28) ∨ a = 31 ∨ (34 ≤ a ∧ a ≤ 43) ∨ (140 ≤ a ∧ a ≤ 146)) ∨ (a = 147 ∨ a = 148 ∨ a = 155 ∨ a = 157 ∨ (159 ≤ a ∧ a ≤ 162) ∨ (164 ≤ a ∧ a ≤ 169) ∨ a = 173 ∨ a = 174)
def gF (S : Nat → Prop) (h g : Nat → Int → Int) : Prop := (∀ a, ¬ scr a → ¬ S a → g a = h a) ∧ (∀ j : Nat, (j = 3 ∨ j = 4 ∨ j = 5 ∨ j = 6 ∨ j = 15 ∨ j = 23 ∨ j = 28 ∨ j = 40) → ¬ S (1000 + j) → g 147 j = h 147 j) ∧ (0 ≤ h 147 30 ∧ h 147 30 < 64 → 0 ≤ g 147 30 ∧ g 147 30 < 64) ∧ oor (g 155) (h 155)
section GF
variable {k : Nat} {h g g2 : Nat → Int → Int} {sem : Sem} {H np nc len : Nat} {S : Nat → Prop}
theorem gF_tr (a : gF S h g) (b : gF S g g2) : gF S h g2 := ⟨fun x q q2 => (b.1 x q q2).trans (a.1 x q q2), fun x q q2 => (b.2.1 x q q2).trans (a.2.1 x q q2), fun q => b.2.2.1 (a.2.2.1 q), fun j q => (b.2.2.2 j q).trans (a.2.2.2 j q)⟩
theorem gF_c (a : cqF h g) : gF S h g := ⟨fun x q _ => a x (fun z => q (Or.inl z)), fun j q _ => by rw [a 147 (by omega)], fun q => by rw [a 147 (by omega)]; exact q, fun j q => by rw [a 155 (by omega)]⟩
theorem gF_m (a : mqF h g) : gF S h g := ⟨fun x q _ => a.1 x (fun z => q (Or.inr z)), fun j q _ => a.2.1 j (by omega), a.2.2.1, a.2.2.2⟩
theorem gB (hF : gF S h g) (hb : SB h sem H np nc) (hS : ∀ a, (a = 3 ∨ a = 4 ∨ a = 5 ∨ a = 6 ∨ a = 11 ∨ a = 12 ∨ a = 13 ∨ a = 29 ∨ a = 30 ∨ a = 149 ∨ a = 150 ∨ a = 151 ∨ a = 152 ∨ a = 153 ∨ a = 158 ∨ a = 1003 ∨ a = 1004 ∨ a = 1005 ∨ a = 1023) → ¬ S a) : SB g sem H np nc :=
  SB_fr hb (by rw [hF.1 3 (by omega) (hS 3 (by omega))]) (fun a q => hF.1 a (by omega) (hS a (by omega))) (fun j q => by
    rcases q with rfl | rfl | rfl | rfl
    · exact hF.2.1 3 (by omega) (hS 1003 (by omega))
    · exact hF.2.1 4 (by omega) (hS 1004 (by omega))
    · exact hF.2.1 5 (by omega) (hS 1005 (by omega))
    · exact hF.2.1 23 (by omega) (hS 1023 (by omega)))
theorem gA (hF : gF S h g) (ha : SA h) (hS : ∀ a, (a = 1 ∨ a = 2 ∨ a = 156 ∨ a = 1015) → ¬ S a) : SA g :=
  SA_fr ha (by rw [hF.1 1 (by omega) (hS 1 (by omega))]) (hF.2.1 15 (by omega) (hS 1015 (by omega))) (hF.1 2 (by omega) (hS 2 (by omega))) (hF.1 156 (by omega) (hS 156 (by omega)))
theorem gS (hF : gF S h g) (ha : SS h H) (hS : ∀ a, (a = 138 ∨ a = 139 ∨ a = 170 ∨ a = 171 ∨ a = 172 ∨ a = 1040) → ¬ S a) : SS g H :=
  SS_fr ha (hF.1 138 (by omega) (hS 138 (by omega))) (hF.2.1 40 (by omega) (hS 1040 (by omega))) (hF.1 139 (by omega) (hS 139 (by omega))) (hF.1 170 (by omega) (hS 170 (by omega))) (hF.1 171 (by omega) (hS 171 (by omega))) (hF.1 172 (by omega) (hS 172 (by omega)))
theorem gP (hF : gF S h g) (ha : SP h) (hS : ∀ a, (a = 8 ∨ a = 9 ∨ a = 10 ∨ a = 32) → ¬ S a) : SP g :=
  SP_fr ha (hF.1 10 (by omega) (hS 10 (by omega))) (hF.1 8 (by omega) (hS 8 (by omega))) (hF.1 9 (by omega) (hS 9 (by omega))) (hF.1 32 (by omega) (hS 32 (by omega))) (hF.2.2.1 ha.2.2)
theorem gK {X X' : Cx} (hF : gF S h g) (hs : SKp k h X H) (h6 : xC X ≤ 6) (h12 : xP X ≤ 12) (e1 : xC X' = xC X) (e2 : xP X' = xP X) (e3 : ∀ p : Nat, p < xP X → xW X' p = xW X p) (hS : ∀ a, (a = 47 ∨ (123 ≤ a ∧ a ≤ 137) ∨ (175 ≤ a ∧ a ≤ 177) ∨ a = 1006) → ¬ S a) : SKp (k + 1) g X' H :=
  SKp_fr h6 h12 hs (Nat.le_succ k) e1 e2 e3 (fun a q => hF.1 a (by omega) (hS a (by omega))) (hF.2.1 6 (by omega) (hS 1006 (by omega)))
theorem gU {X X' : Cx} (hF : gF S h g) (hs : SUn k h X H) (h6 : xC X ≤ 6) (h12 : xP X ≤ 12) (e1 : xC X' = xC X) (e2 : xP X' = xP X) (e3 : ∀ p : Nat, p < xP X → xW X' p = xW X p) (hS : ∀ a, (a = 44 ∨ (48 ≤ a ∧ a ≤ 122) ∨ a = 163 ∨ a = 1028) → ¬ S a) : SUn (k + 1) g X' H :=
  SUn_fr h6 h12 hs (Nat.le_succ k) e1 e2 e3 (fun a q => hF.1 a (by omega) (hS a (by omega))) (hF.2.1 28 (by omega) (hS 1028 (by omega)))
theorem gX (hF : gF S h g) (hS : ∀ a, 149 ≤ a → a ≤ 153 → ¬ S a) : cxM sem g np nc = cxM sem h np nc := cxM_fr (fun a a1 a2 => hF.1 a (by omega) (hS a a1 a2))
theorem sR6 (hs : SRx k h sem H np nc len) : nc ≤ 6 := hs.1.2.2.2.2.1.2.2.2.1
theorem sR12 (hs : SRx k h sem H np nc len) : np ≤ 12 := hs.1.2.2.2.2.1.2.2.1
theorem sRH (hs : SRx k h sem H np nc len) : 1 ≤ H ∧ H ≤ 9 := ⟨hs.1.2.2.2.2.1.1, hs.1.2.2.2.2.1.2.1⟩
/-- the trains of now, unchanged -/
theorem gT {X X' : Cx} (hF : gF S h g) (hs : SU k h X H len) (h6 : xC X ≤ 6) (h12 : xP X ≤ 12) (e1 : xC X' = xC X) (e2 : xP X' = xP X) (e3 : ∀ p : Nat, p < xP X → xW X' p = xW X p) (hU : SUn (k + 1) g X' H) (hK : SKp (k + 1) g X' H) (hS : ∀ a, ((14 ≤ a ∧ a ≤ 18) ∨ a = 154) → ¬ S a) : SU (k + 1) g X' H len := by
  have e154 := hF.1 154 (by omega) (hS 154 (by omega))
  refine SU_mk ?_ ?_ ?_ hU hK
  · rw [e154]
    exact Cpl_fr (Cpl_E h6 h12 hs.1 fE_rf e1 e2 e3) (fun a a1 a2 => hF.1 a (by omega) (hS a (by omega)))
  · rw [e154]
    have := hs.2.1
    omega
  · rw [e154]
    exact fun j q => (hF.2.2.2 j q).trans (hs.2.2.1 j q)
/-- a call that changes the text, the row alone -/
theorem SR_t (hs : SRx k h sem H np nc len) (hF : gF (fun a => a = 1 ∨ a = 2 ∨ a = 156 ∨ a = 1015) h g) (hA : SA g) (hD : SD g) : SR (k + 1) g := by
  have eX := gX (sem := sem) (np := np) (nc := nc) hF (fun a a1 a2 z => by omega)
  obtain ⟨s1, s2, s3, s4, s5, s6⟩ := id hs
  refine ⟨sem, H, np, nc, len, gB hF s1 (fun a q z => by omega), hA, hD, ?_, gS hF s5 (fun a q z => by omega), gP hF s6 (fun a q z => by omega)⟩
  rw [eX]
  exact gT hF s4 (sR6 hs) (sR12 hs) rfl rfl (fun _ _ => rfl) (gU hF (SU_un s4) (sR6 hs) (sR12 hs) rfl rfl (fun _ _ => rfl) (fun a q z => by omega)) (gK hF (SU_kp s4) (sR6 hs) (sR12 hs) rfl rfl (fun _ _ => rfl) (fun a q z => by omega)) (fun a q z => by omega)
/-- one that changes what was seen -/
theorem SR_s (hs : SRx k h sem H np nc len) (hF : gF (fun a => a = 138 ∨ a = 139 ∨ a = 170 ∨ a = 171 ∨ a = 172 ∨ a = 1040) h g) (hS : SS g H) (hD : SD g) : SR (k + 1) g := by
  have eX := gX (sem := sem) (np := np) (nc := nc) hF (fun a a1 a2 z => by omega)
  obtain ⟨s1, s2, s3, s4, s5, s6⟩ := id hs
  refine ⟨sem, H, np, nc, len, gB hF s1 (fun a q z => by omega), gA hF s2 (fun a q z => by omega), hD, ?_, hS, gP hF s6 (fun a q z => by omega)⟩
  rw [eX]
  exact gT hF s4 (sR6 hs) (sR12 hs) rfl rfl (fun _ _ => rfl) (gU hF (SU_un s4) (sR6 hs) (sR12 hs) rfl rfl (fun _ _ => rfl) (fun a q z => by omega)) (gK hF (SU_kp s4) (sR6 hs) (sR12 hs) rfl rfl (fun _ _ => rfl) (fun a q z => by omega)) (fun a q z => by omega)
/-- one that keeps -/
theorem SR_k (hs : SRx k h sem H np nc len) (hF : gF (fun a => a = 47 ∨ (123 ≤ a ∧ a ≤ 137) ∨ (175 ≤ a ∧ a ≤ 177)) h g) (hK : SKp (k + 1) g (cxM sem h np nc) H) (hD : SD g) : SR (k + 1) g := by
  have eX := gX (sem := sem) (np := np) (nc := nc) hF (fun a a1 a2 z => by omega)
  obtain ⟨s1, s2, s3, s4, s5, s6⟩ := id hs
  refine ⟨sem, H, np, nc, len, gB hF s1 (fun a q z => by omega), gA hF s2 (fun a q z => by omega), hD, ?_, gS hF s5 (fun a q z => by omega), gP hF s6 (fun a q z => by omega)⟩
  rw [eX]
  exact gT hF s4 (sR6 hs) (sR12 hs) rfl rfl (fun _ _ => rfl) (gU hF (SU_un s4) (sR6 hs) (sR12 hs) rfl rfl (fun _ _ => rfl) (fun a q z => by omega)) hK (fun a q z => by omega)
/-- one that acts -/
theorem SR_a {len2 : Nat} (hs : SRx k h sem H np nc len) (hF : gF (fun a => (14 ≤ a ∧ a ≤ 18) ∨ a = 44 ∨ (48 ≤ a ∧ a ≤ 122) ∨ a = 154 ∨ a = 163 ∨ a = 1028 ∨ a = 1 ∨ a = 2 ∨ a = 156 ∨ a = 1015) h g) (hA : SA g) (hD : SD g) (hT : Cpl (cxM sem h np nc) H g 14 (g 154) len2) (hN : g 154 1 ≤ 600 * (k + 1 : Nat)) (hO : oor (g 155) (g 154)) (hU : SUn (k + 1) g (cxM sem h np nc) H) : SR (k + 1) g := by
  have eX := gX (sem := sem) (np := np) (nc := nc) hF (fun a a1 a2 z => by omega)
  obtain ⟨s1, s2, s3, s4, s5, s6⟩ := id hs
  refine ⟨sem, H, np, nc, len2, gB hF s1 (fun a q z => by omega), hA, hD, ?_, gS hF s5 (fun a q z => by omega), gP hF s6 (fun a q z => by omega)⟩
  rw [eX]
  exact SU_mk hT hN hO hU (gK hF (SU_kp s4) (sR6 hs) (sR12 hs) rfl rfl (fun _ _ => rfl) (fun a q z => by omega))
end GF
