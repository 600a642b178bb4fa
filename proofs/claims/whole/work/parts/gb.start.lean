/-! the first state -/
def hFst (h : Nat → Int → Int) : Prop := (∀ a i, ¬ (a = 3 ∨ a = 4 ∨ a = 7 ∨ a = 8 ∨ a = 29 ∨ a = 30 ∨ a = 32 ∨ a = 33 ∨ a = 139 ∨ a = 147 ∨ a = 149) → h a i = 0) ∧ h 3 0 = 1 ∧ (∀ e : Int, 0 ≤ e → e < 18 → h 4 e = -1 ∧ h 8 e = -1 ∧ h 149 e = -1) ∧ h 29 2 = 1 ∧ h 29 4 = 0 ∧ h 32 4 = 0 ∧ h 30 0 = 1000 ∧ (∀ k : Nat, k ≤ 12 → h 139 k = 511) ∧ h 147 3 = 1 ∧ ∀ j : Int, j ≠ 3 → h 147 j = 0
def sem0 : Sem := fun a _ _ _ _ _ => a
theorem t511 : ∀ c : Nat, c < 9 → Nat.testBit 511 c = true := by decide
section ST0
variable {h : Nat → Int → Int}
theorem f0_SA (q : hFst h) : SA h := ⟨0, q.1 1 1 (by omega), q.2.2.2.2.2.2.2.2.2 15 (by omega), by omega, fun i hi => by omega⟩
theorem f0_SD (q : hFst h) : SD h := ⟨0, q.1 145 1 (by omega), q.2.2.2.2.2.2.2.2.2 1 (by omega), by omega, fun i hi => by omega⟩
theorem f0_SS (q : hFst h) : SS h 1 := ⟨0, q.1 138 0 (by omega), q.2.2.2.2.2.2.2.2.2 40 (by omega), by omega, fun i hi => by omega, by rw [q.1 138 1 (by omega)]; rfl, fun k hk => ⟨511, by omega, q.2.2.2.2.2.2.2.1 k hk, fun c hc => by rw [t511 c hc]; rfl⟩⟩
theorem f0_SP (q : hFst h) : SP h := ⟨⟨fun z _ _ => by rw [q.1 10 z (by omega)]; omega, fun e e0 e1 => by rw [(q.2.2.1 e e0 e1).2.1]; omega, fun e _ _ => by rw [q.1 9 e (by omega)]; omega⟩, Or.inl q.2.2.2.2.2.1, by rw [q.2.2.2.2.2.2.2.2.2 30 (by omega)]; omega, by rw [q.2.2.2.2.2.2.2.2.2 30 (by omega)]; omega⟩
theorem f0_Cpl (q : hFst h) : Cpl (cxM sem0 h 0 0) 1 h 14 (h 154) 0 := by
  refine ⟨⟨⟨by rw [q.1 154 0 (by omega)]; omega, by rw [q.1 154 0 (by omega)]; omega⟩, by rw [q.1 154 1 (by omega)]; omega, Nat.le_refl 0, fun j hj => by omega, fun c hc => absurd hc (Nat.not_lt_zero c), fun p hp => absurd hp (Nat.not_lt_zero p)⟩, by rw [q.1 14 0 (by omega), q.1 154 0 (by omega)], by rw [q.1 14 1 (by omega), q.1 154 1 (by omega)], by rw [q.1 14 2 (by omega)]; rfl, by rw [q.1 14 3 (by omega)]; rfl, fun c hc => absurd hc (Nat.not_lt_zero c), fun c hc => absurd hc (Nat.not_lt_zero c), fun p hp => absurd hp (Nat.not_lt_zero p)⟩
theorem f0_SU (q : hFst h) : SU 0 h (cxM sem0 h 0 0) 1 0 := by
  refine ⟨f0_Cpl q, by rw [q.1 154 1 (by omega)]; omega, fun j _ => by rw [q.1 155 j (by omega), q.1 154 j (by omega)], ⟨0, 0, q.1 44 3 (by omega), q.2.2.2.2.2.2.2.2.2 28 (by omega), by omega, q.1 44 4 (by omega), by omega, fun j hj => by omega⟩, ⟨by rw [q.2.2.2.2.2.2.2.2.2 6 (by omega)]; omega, by rw [q.2.2.2.2.2.2.2.2.2 6 (by omega)]; omega⟩, fun i hi => ⟨Or.inl (q.1 47 i (by omega)), Or.inl (q.1 175 i (by omega)), ?_, by rw [q.1 176 i (by omega), q.2.2.2.2.2.2.2.2.2 6 (by omega)]; omega, fun z => by rw [q.1 47 i (by omega)] at z; omega⟩⟩
  rw [q.1 47 i (by omega), q.1 175 i (by omega)]
  omega
theorem f0_D (q : hFst h) : ∀ z : Int, nds (h 151) z = 0 := fun z => by unfold nds; rw [q.1 151 z (by omega)]; rfl
theorem f0_xOK (q : hFst h) : xOK (cxM sem0 h 0 0) 1 := ⟨by omega, by omega, Nat.zero_le _, Nat.zero_le _, fun e e0 e1 => by show -1 ≤ h 149 e ∧ h 149 e ≤ 8; rw [(q.2.2.1 e e0 e1).2.2]; omega, fun e _ _ => by show 0 ≤ h 150 e ∧ h 150 e ≤ 9; rw [q.1 150 e (by omega)]; omega, fun i _ _ => by show (0 ≤ h 151 i ∧ h 151 i < 1000) ∨ h 151 i = 1000000; rw [q.1 151 i (by omega)]; omega, fun e he => by show h 149 e < ((1 : Nat) : Int); rw [(q.2.2.1 e (by omega) (by omega)).2.2]; omega, fun p hp => absurd hp (Nat.not_lt_zero p)⟩
theorem f0_exK (q : hFst h) : exK 1 (h 149) (h 150) := fun e e0 e1 => Or.inl (q.2.2.1 e e0 (by omega)).2.2
theorem f0_wyG (q : hFst h) : wyG 1 (h 149) (h 150) (nds (h 151)) := ⟨fun z _ _ => by rw [f0_D q]; omega, fun a _ _ => f0_D q _, fun a b a0 a1 b0 b1 z => absurd z (by omega), fun e e0 e1 z => absurd (q.2.2.1 e e0 (by omega)).2.2 z⟩
theorem f0_ru (q : hFst h) : ruOK h 29 sem0 := ⟨1, q.2.2.2.1, by omega, fun i hi => by
    obtain rfl : i = 0 := by omega
    show -1000 ≤ h 30 0 ∧ h 30 0 < 1006
    rw [q.2.2.2.2.2.2.1]; omega, fun th sk _ => by
    show (vbR (h 30) th 0 (sk, 0)).1 0 = th 0
    unfold vbR
    rw [show h 30 ((0 : Nat) : Int) = 1000 from q.2.2.2.2.2.2.1]
    rfl⟩
theorem f0_mr (q : hFst h) : mrOK h sem0 := ⟨0, q.2.2.2.2.2.2.2.2.2 23 (by omega), by omega, fun i hi => by omega, fun th sk i hi => by omega, fun th sk _ => rfl⟩
theorem f0_CO (q : hFst h) : CO (cxM sem0 h 0 0) 1 h 3 14 29 := by
  refine ⟨⟨fun e e0 e1 => ⟨by show h 4 e = h 149 e; rw [(q.2.2.1 e e0 (by omega)).1, (q.2.2.1 e e0 (by omega)).2.2], by show h 5 e = h 150 e; rw [q.1 5 e (by omega), q.1 150 e (by omega)]⟩, fun a b _ _ _ _ => by show h 6 _ = nds (h 151) _; rw [f0_D q, q.1 6 _ (by omega)]⟩, ⟨q.1 11 0 (by omega), fun p hp => absurd hp (Nat.not_lt_zero p)⟩, f0_ru q, fun e e0 e1 => by show -1 ≤ h 4 e ∧ h 4 e ≤ 8; rw [(q.2.2.1 e e0 e1).1]; omega, fun e _ _ => by show 0 ≤ h 5 e ∧ h 5 e ≤ 9; rw [q.1 5 e (by omega)]; omega, fun z _ _ => by show 0 ≤ h 6 z ∧ h 6 z ≤ 100000; rw [q.1 6 z (by omega)]; omega, ⟨isTr_14, isNet_3, isRule_29⟩, by omega, by omega, by omega, by omega⟩
theorem f0_SR (q : hFst h) : SR 0 h := ⟨sem0, 1, 0, 0, 0, ⟨q.2.2.2.2.2.2.2.2.1, q.2.2.2.2.2.2.2.2.2 4 (by omega), q.2.2.2.2.2.2.2.2.2 5 (by omega), q.2.1, f0_xOK q, ⟨f0_exK q, f0_wyG q⟩, f0_CO q, f0_mr q, Or.inl q.2.2.2.2.1, fun _ => (fun a b c d e x y => rfl), fun z => by omega⟩, f0_SA q, f0_SD q, f0_SU q, f0_SS q, f0_SP q⟩
end ST0
