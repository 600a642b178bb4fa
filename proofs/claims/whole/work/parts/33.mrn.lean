/-! the other's runs, in those words -/
section MR
variable {sem : Sem} {h : Nat → Int → Int} {r np nc len H : Nat} {ord : Int → Int}
theorem mOK_of (hX : xOK (cxM sem h np nc) H) (hf : fOK (cxM sem h np nc) H (h r) ord len) : mOK h r np := by
  obtain ⟨x1, x2, x3, x4, x5, x6, x7, x8, x9⟩ := hX
  have x3 : np ≤ 12 := x3
  have x4 : nc ≤ 6 := x4
  obtain ⟨f0, f1, fl, fo, fp, fs⟩ := id hf
  have fl : len ≤ nc := fl
  have fs : ∀ p : Nat, p < np → mS (h r) p = -1 ∨ (0 ≤ mS (h r) p ∧ mS (h r) p < nc ∧ halS (h r 0) (mP (h r)) (mA (h r)) (mS (h r) p) ≠ h 152 p) := fs
  refine ⟨x5, x6, x7, fun j hj => ?_, fun j hj hn => ?_, fun j hj => ?_, f1⟩
  · have := fs j hj
    omega
  · have h1 := fs j hj
    have h2 := fOK_pl hf (c := mS (h r) j) (by omega) (show mS (h r) j < nc by omega)
    have h3 := fOK_hal hf (c := mS (h r) j) (by omega) (show mS (h r) j < nc by omega)
    omega
  · have : 0 ≤ h 152 j ∧ h 152 j < H := x9 j hj
    omega
/-- behind the other's run -/
def rnP (X : Cx) (h : Nat → Int → Int) (r len : Nat) (c : Int) (r' : Option PV) (h' : Nat → Int → Int) : Prop :=
  (∀ a, a ≠ 147 → a ≠ r → a ≠ 160 → a ≠ 161 → a ≠ 162 → h' a = h a) ∧ h' r = xRun X (h r) len c ∧ r' = some (pI (if c ≠ 2 ∧ 0 ≤ xE X (2 * h r 0 + c) then c else 2)) ∧
  h' 147 = fup (h 147) 30 (if c ≠ 2 ∧ 0 ≤ xE X (2 * h r 0 + c) then (bset (lefP (h r) (xAl X (h r) len c)) (xC X) : Int) else 0)
theorem ruP_rn {c : Int} {r' : Option PV} {h' : Nat → Int → Int} (hp : ruP sem h r np nc len c r' h') : rnP (cxM sem h np nc) h r len c r' h' := by
  obtain ⟨h1, h2, h3⟩ := hp
  by_cases q : c ≠ 2 ∧ 0 ≤ h 149 (2 * h r 0 + c)
  · obtain ⟨g1, g2, g3⟩ := h3 q _ rfl
    refine ⟨h1, ?_, ?_, ?_⟩
    · rw [g3]
      unfold xRun
      rw [if_pos (show c ≠ 2 ∧ 0 ≤ xE (cxM sem h np nc) (2 * h r 0 + c) from q)]
      rfl
    · rw [g1, if_pos (show c ≠ 2 ∧ 0 ≤ xE (cxM sem h np nc) (2 * h r 0 + c) from q)]
    · rw [g2, if_pos (show c ≠ 2 ∧ 0 ≤ xE (cxM sem h np nc) (2 * h r 0 + c) from q)]
      rfl
  · obtain ⟨g1, g2, g3⟩ := h2 q
    refine ⟨h1, ?_, ?_, ?_⟩
    · rw [g2]
      unfold xRun
      rw [if_neg (show ¬ (c ≠ 2 ∧ 0 ≤ xE (cxM sem h np nc) (2 * h r 0 + c)) from q)]
    · rw [g1, if_neg (show ¬ (c ≠ 2 ∧ 0 ≤ xE (cxM sem h np nc) (2 * h r 0 + c)) from q)]
    · rw [g3, if_neg (show ¬ (c ≠ 2 ∧ 0 ≤ xE (cxM sem h np nc) (2 * h r 0 + c)) from q)]
theorem cxM_fr {h' : Nat → Int → Int} (hf : ∀ a, 149 ≤ a → a ≤ 153 → h' a = h a) : cxM sem h' np nc = cxM sem h np nc := by
  unfold cxM
  rw [hf 149 (by omega) (by omega), hf 150 (by omega) (by omega), hf 151 (by omega) (by omega), hf 152 (by omega) (by omega), hf 153 (by omega) (by omega)]
theorem rnP_fr {h1 h' : Nat → Int → Int} {c : Int} {r' : Option PV} (hr : r = 154 ∨ r = 155) (hf : ∀ a, a ≠ 160 → a ≠ 161 → a ≠ 162 → h1 a = h a) (hp : rnP (cxM sem h1 np nc) h1 r len c r' h') : rnP (cxM sem h np nc) h r len c r' h' := by
  rw [cxM_fr (h := h) (fun a a1 a2 => hf a (by omega) (by omega) (by omega))] at hp
  obtain ⟨p1, p2, p3, p4⟩ := hp
  rw [hf r (by omega) (by omega) (by omega)] at p2 p3 p4
  rw [hf 147 (by omega) (by omega) (by omega)] at p4
  exact ⟨fun a a1 a2 a3 a4 a5 => (p1 a a1 a2 a3 a4 a5).trans (hf a a3 a4 a5), p2, p3, p4⟩
theorem T_X12_runs (hX : xOK (cxM sem h np nc) H) (hf : fOK (cxM sem h np nc) H (h r) ord len) (hm : mrOK h sem) (hnp : h 147 5 = np) (hnc : h 147 4 = nc) (hnow : h r 1 ≤ 2000000000) (hr : isRw r := by assumption) (hrb : r = 154 ∨ r = 155 := by omega) : RR mX12_runs 8 0 0 0 (pm_ent [pR 147, pR r] 2) [] (shp0, rf0, h) (fun r' g' => ∃ h', g' = (shp0, rf0, h') ∧ rnP (cxM sem h np nc) h r len (xCrs (cxM sem h np nc) (h r) 0) r' h') := by
  suffices hSS : ∀ Q : Option PV → PH → Prop, (∀ r' h', rnP (cxM sem h np nc) h r len (xCrs (cxM sem h np nc) (h r) 0) r' h' → pm_ok (some .int) r' → Q r' (shp0, rf0, h')) → RR mX12_runs 8 0 0 0 [pR 147, pR r] [] (shp0, rf0, h) Q from hSS _ (fun r' h' q _ => ⟨h', rfl, q⟩)
  intro Q hQ
  have hk := mOK_of hX hf
  have x3 : np ≤ 12 := hX.2.2.1
  have x4 : nc ≤ 6 := hX.2.2.2.1
  have x2 : H ≤ 9 := hX.2.1
  have fl : len ≤ nc := hf.2.2.1
  have f0 := hf.1
  have hle : sm (fun c => if 0 ≤ mP (h r) c then 1 else 0) nc = len := fOK_len hf
  have hca : ∀ i : Nat, i < len → 0 ≤ caS (h r) i nc ∧ caS (h r) i nc < 6 := fun i hi => by
    have e : caS (h r) i nc = ord i := fOK_ca hf hi
    have h1 := hf.2.2.2.1 i hi
    have h2 : ord i < nc := h1.2.1
    rw [e]
    omega
  obtain ⟨c, hc⟩ : ∃ c, c = xCrs (cxM sem h np nc) (h r) 0 := ⟨_, rfl⟩
  have hcb := xCrs_b (X := cxM sem h np nc) (f := h r) (bh := 0)
  rw [← hc] at hQ hcb
  have hce : mvS sem h r np (ridP (h r)) = c := by
    rw [hc]
    rfl
  have K7 : ∀ h1 : Nat → Int → Int, (∀ a, a ≠ 160 → a ≠ 161 → a ≠ 162 → h1 a = h a) → RR mX12_runs 8 0 0 7 [pR 147, pR r] [pI c, pR r, pR 147] (shp0, rf0, h1) Q := by
    intro h1 hf1
    have er := hf1 r (by omega) (by omega) (by omega)
    have e147 := hf1 147 (by omega) (by omega) (by omega)
    have e149 := hf1 149 (by omega) (by omega) (by omega)
    have e150 := hf1 150 (by omega) (by omega) (by omega)
    have e151 := hf1 151 (by omega) (by omega) (by omega)
    have e152 := hf1 152 (by omega) (by omega) (by omega)
    have e158 := hf1 158 (by omega) (by omega) (by omega)
    refine R_qV2 dX12_runs_7 mvX12_runsBy mlX12_361 (by decide) (by decide) (Nat.le_of_ble_eq_true rfl) (Nat.le_of_ble_eq_true rfl) (T_X12_runsBy (sem := sem) (np := np) (nc := nc) (len := len) (mOK_fr hk e149 e150 e151 e152 er) (mrOK_fr hm (by rw [e147]) e158) (by rw [e147]; exact hnp) (by rw [e147]; exact hnc) (by rw [er]; exact hle) (by rw [er]; exact hca) (by rw [er]; omega) (by rw [er]; exact hnow)) (fun r9 g9 hq9 => (?_ : RR _ _ _ _ 10 _ _ _ _))
    obtain ⟨h2, rfl, hp⟩ := hq9
    have hp2 := rnP_fr hrb hf1 (ruP_rn hp)
    obtain ⟨z, hz⟩ : ∃ z, r9 = some (pI z) := ⟨_, hp2.2.2.1⟩
    subst hz
    show RR _ _ _ _ _ _ [pI z] _ _
    exact R_ireturn dX12_runs_10 trivial (hQ _ _ hp2 trivial)
  refine R_aload_n dX12_runs_0 rfl (?_ : RR _ _ _ _ 1 _ _ _ _)
  refine R_aload_n dX12_runs_1 rfl (?_ : RR _ _ _ _ 2 _ _ _ _)
  refine R_aload_n dX12_runs_2 rfl (?_ : RR _ _ _ _ 3 _ _ _ _)
  refine R_aload_n dX12_runs_3 rfl (?_ : RR _ _ _ _ 4 _ _ _ _)
  refine R_qV1 dX12_runs_4 mvX12_trainVote mlX12_358 (by decide) (by decide) (Nat.le_of_ble_eq_true rfl) (Nat.le_of_ble_eq_true rfl) (T_X12_trainVote (sem := sem) (np := np) hk hm hnp) (fun r9 g9 hq9 => (?_ : RR _ _ _ _ 7 _ _ _ _))
  obtain ⟨rfl, h1, rfl, hp⟩ := hq9
  rw [hce]
  show RR _ _ _ _ _ _ [pI c, pR r, pR 147] _ _
  exact K7 h1 hp.1
end MR
