section MFF
variable {h h0 h1 h2 : Nat → Int → Int} {W R F : Int → Int} {G H : Nat} {en : Int} {st : Nat → Bool}
def ftH (W R F : Int → Int) (G H : Nat) (st : Nat → Bool) (en : Int) : Prop := farB F ∧ G = cG st H ∧ G ≤ 6 ∧ H ≤ 9 ∧ (∀ g : Nat, g ≤ G → 0 ≤ R g ∧ R g < 9) ∧ (∀ c : Nat, c < H → st c = true → R (cG st c) = (c : Int)) ∧ (0 ≤ en ∧ en < 9) ∧ (∀ i c : Nat, i ≤ G → c < H → st c = true → toD W R i (cG st c) = nds F (R i * 9 + c)) ∧ ∀ i : Nat, i ≤ G → toE W R en i = nds F (R i * 9 + en)
theorem ftH_D (hh : ftH W R F G H st en) : ∀ i g, i ≤ G → g < G → (0 ≤ toD W R i g ∧ toD W R i g < 1000) ∨ toD W R i g = 100000 := fun i g hi hg => by
  obtain ⟨f1, f2, f3, f4, f5, f6, f7, f8, f9⟩ := hh
  obtain ⟨c, c1, c2, c3, c4⟩ := ptR_p (st := st) (p0 := fun _ => 0) H g (by omega)
  have h1 := f8 i c hi c1 c2
  rw [c3] at h1
  rw [h1]
  have h2 := f5 i hi
  have h3 := f1 (R i * 9 + c) (by omega) (by omega)
  unfold nds
  split <;> omega
theorem ftH_E (hh : ftH W R F G H st en) : ∀ i, i ≤ G → (0 ≤ toE W R en i ∧ toE W R en i < 1000) ∨ toE W R en i = 100000 := fun i hi => by
  obtain ⟨f1, f2, f3, f4, f5, f6, f7, f8, f9⟩ := hh
  rw [f9 i hi]
  have h2 := f5 i hi
  have h3 := f1 (R i * 9 + en) (by omega) (by omega)
  unfold nds
  split <;> omega
def ftC (W R F : Int → Int) (G H : Nat) (st : Nat → Bool) (en : Int) (n : Nat) : Prop := ∀ (M S i : Nat) (far : Int) (P : List Int) (b : Int) (L : List Int) (h1 : Nat → Int → Int), pop 12 M = n → M < 4096 → (∀ g, M.testBit g = true → g < G) → relS H st M S → i ≤ G → P.length + n = G → (0 ≤ far ∧ far ≤ 1000 * P.length) → (b ≤ 1000000 ∧ -1000000 ≤ b) → prP P h1 → bsP b L h1 → h1 147 3 = H → h1 151 = F → RR mX12_fetches (n + 1) 0 0 0 (pm_ent [pR 147, pI (R i), pI S, pI P.length, pI far, pI en] 7) [] (shp0, rf0, h1) (fun r' g' => r' = none ∧ ∃ h2, g' = (shp0, rf0, h2) ∧ ftE h1 h2 ∧ (∀ k : Nat, k < P.length → h2 167 k = h1 167 k) ∧ bsP (cmb far P b L (toS W R G en n M i)).1 (cmb far P b L (toS W R G en n M i)).2 h2)
theorem getD_l {P Q : List Int} {k : Nat} (hk : k < P.length) : (P ++ Q).getD k 0 = P.getD k 0 := by
  simp [List.getD_eq_getElem?_getD, List.getElem?_append_left hk]
theorem getD_e {P : List Int} {x : Int} : (P ++ [x]).getD P.length 0 = x := by
  simp [List.getD_eq_getElem?_getD]
theorem prP_s {P : List Int} {x : Int} (hp : prP P h) (hx : 0 ≤ x ∧ x ≤ 8) : prP (P ++ [x]) (rup h 167 (fup (h 167) P.length x)) := fun k hk => by
  rw [rup_s]
  by_cases z : k = P.length
  · rw [z, fup_s, getD_e]; exact ⟨rfl, hx⟩
  · have hk2 : k < P.length := by simp at hk; omega
    rw [fup_n (by omega), getD_l hk2]
    exact hp k hk2
theorem bsP_fr {b : Int} {L : List Int} (hb : bsP b L h) (e1 : h1 147 = h 147) (e2 : h1 168 = h 168) : bsP b L h1 := by
  unfold bsP
  rw [e1, e2]
  exact hb
theorem cmb_lo {far b : Int} {P L : List Int} {r : Int × List Int} (hb : -1000000 ≤ b) (hf : 0 ≤ far) (hr : 0 ≤ r.1 ∨ r.1 = 100000) : -1000000 ≤ (cmb far P b L r).1 := by
  unfold cmb
  split
  · dsimp only; omega
  · exact hb
theorem sp_nn {D : Nat → Nat → Int} {y : Nat → Int} {M i : Nat} {q : Nat → Int × List Int} (m : Nat) (hq : ∀ g, g < m → 0 ≤ D i g + (q g).1) : 0 ≤ (it (spF D M i q y) (100000, []) m).1 := by
  rcases (sp_I (D := D) (M := M) (i := i) (q := q) (y := y) m).1 with u | ⟨g, g1, g2, g3, g4⟩
  · rw [u]; decide
  · rw [g3]; exact hq g g1
/-- one goal on -/
theorem FT_c {n S c pl : Nat} {at0 far d : Int} {Q : Option PV → PH → Prop} {Z : (Nat → Int → Int) → Prop} {Y : (Nat → Int → Int) → Prop} {X : (Nat → Int → Int) → Prop} (hH9 : H ≤ 9) (hc : c < H) (ha : 0 ≤ at0 ∧ at0 < 9) (hpl : pl ≤ 5) (hS : S < 4096) (hen : 0 ≤ en ∧ en < 9) (hfar : 0 ≤ far ∧ far ≤ 6000) (hbit : S.testBit c = true) (g3 : h1 147 3 = H) (hTT : ∀ h', h' 151 = h1 151 → MT mX12_farOf 0 [pR 147, pI at0, pI c] h' (some (pI d)) h') (hd0 : 0 ≤ d) (hd : d < 1000000) (hcall : RR mX12_fetches (n + 1) 0 0 0 (pm_ent [pR 147, pI (c : Int), pI (oth S c : Nat), pI ((pl + 1 : Nat) : Int), pI (far + d), pI en] 7) [] (shp0, rf0, rup h1 167 (fup (h1 167) pl c)) (fun r' g' => r' = none ∧ ∃ h2, g' = (shp0, rf0, h2) ∧ X h2 ∧ Y h2 ∧ Z h2)) (KK : ∀ h5 : Nat → Int → Int, X h5 → Y h5 → Z h5 → RR mX12_fetches (n + 2) 0 0 73 [pR 147, pI at0, pI S, pI pl, pI far, pI en, pI ((c : Int) + 1)] [] (shp0, rf0, h5) Q) : RR mX12_fetches (n + 2) 0 0 73 [pR 147, pI at0, pI S, pI pl, pI far, pI en, pI c] [] (shp0, rf0, h1) Q := by
  have hsh := iShl_one c (by omega)
  have hand := othI2 (g := c) hS (by omega)
  have hT := hTT h1 rfl
  have hT2 := hTT (rup h1 167 (fup (h1 167) pl c)) (rup_n (by omega))
  generalize 2 ^ c = B at hsh hand
  have hol : oth S c < 4096 := oth_lt
  generalize oth S c = O at hand hcall hol
  refine R_iload dX12_fetches_73 rfl (?_ : RR _ _ _ _ 75 _ _ _ _)
  refine R_aload_n dX12_fetches_75 rfl (?_ : RR _ _ _ _ 76 _ _ _ _)
  refine R_geti (z := 3) dX12_fetches_76 flX12_13 cok_12 rfl (by decide) rfl (fun q76 => (?_ : RR _ _ _ _ 79 _ _ _ _))
  rw [g3] at q76 ⊢
  refine R_icmp_ge (t := 146) dX12_fetches_79 rfl (fun c79 => ?_) (fun c79 => ?_)
  · exfalso; omega
  refine R_iload_n dX12_fetches_82 rfl (?_ : RR _ _ _ _ 83 _ _ _ _)
  refine R_iload dX12_fetches_83 rfl (?_ : RR _ _ _ _ 85 _ _ _ _)
  refine R_cSi2 dX12_fetches_85 msX12_has mlX12_288 (by omega) (Nat.le_of_ble_eq_true rfl) (Nat.le_of_ble_eq_true rfl) (T_X12_has (by omega)) (?_ : RR _ _ _ _ 88 _ _ _ _)
  rw [if_pos hbit]
  refine R_if_eq (t := 140) dX12_fetches_88 rfl (fun c88 => ?_) (fun c88 => ?_)
  · exfalso; omega
  refine R_aload_n dX12_fetches_91 rfl (?_ : RR _ _ _ _ 92 _ _ _ _)
  refine R_iload_n dX12_fetches_92 rfl (?_ : RR _ _ _ _ 93 _ _ _ _)
  refine R_iload dX12_fetches_93 rfl (?_ : RR _ _ _ _ 95 _ _ _ _)
  refine R_cVi2 dX12_fetches_95 mvX12_farOf mlX12_145 (by decide) (by omega) (Nat.le_of_ble_eq_true rfl) (Nat.le_of_ble_eq_true rfl) (hT) (?_ : RR _ _ _ _ 98 _ _ _ _)
  refine R_ldc (z := 1000000) dX12_fetches_98 kwX12_138 (?_ : RR _ _ _ _ 100 _ _ _ _)
  refine R_icmp_ge (t := 140) dX12_fetches_100 rfl (fun c100 => ?_) (fun c100 => ?_)
  · exfalso; omega
  refine R_aload_n dX12_fetches_103 rfl (?_ : RR _ _ _ _ 104 _ _ _ _)
  refine R_getr dX12_fetches_104 flX12_72 cok_12 rfl (by decide) (?_ : RR _ _ _ _ 107 _ _ _ _)
  refine R_iload_n dX12_fetches_107 rfl (?_ : RR _ _ _ _ 108 _ _ _ _)
  refine R_iload dX12_fetches_108 rfl (?_ : RR _ _ _ _ 110 _ _ _ _)
  refine R_iast dX12_fetches_110 (?_ : RR _ _ _ _ 111 _ _ _ _)
  refine R_aload_n dX12_fetches_111 rfl (?_ : RR _ _ _ _ 112 _ _ _ _)
  refine R_iload dX12_fetches_112 rfl (?_ : RR _ _ _ _ 114 _ _ _ _)
  refine R_iload_n dX12_fetches_114 rfl (?_ : RR _ _ _ _ 115 _ _ _ _)
  refine R_iconst dX12_fetches_115 (?_ : RR _ _ _ _ 116 _ _ _ _)
  refine R_iload dX12_fetches_116 rfl (?_ : RR _ _ _ _ 118 _ _ _ _)
  refine R_ishl dX12_fetches_118 (?_ : RR _ _ _ _ 119 _ _ _ _)
  rw [hsh]
  refine R_iconst dX12_fetches_119 (?_ : RR _ _ _ _ 120 _ _ _ _)
  refine R_ixor dX12_fetches_120 (?_ : RR _ _ _ _ 121 _ _ _ _)
  refine R_iand dX12_fetches_121 (?_ : RR _ _ _ _ 122 _ _ _ _)
  rw [hand]
  refine R_iload_n dX12_fetches_122 rfl (?_ : RR _ _ _ _ 123 _ _ _ _)
  refine R_iconst dX12_fetches_123 (?_ : RR _ _ _ _ 124 _ _ _ _)
  refine R_iadd dX12_fetches_124 (?_ : RR _ _ _ _ 125 _ _ _ _)
  refine R_iload dX12_fetches_125 rfl (?_ : RR _ _ _ _ 127 _ _ _ _)
  refine R_aload_n dX12_fetches_127 rfl (?_ : RR _ _ _ _ 128 _ _ _ _)
  refine R_iload_n dX12_fetches_128 rfl (?_ : RR _ _ _ _ 129 _ _ _ _)
  refine R_iload dX12_fetches_129 rfl (?_ : RR _ _ _ _ 131 _ _ _ _)
  refine R_cVi2 dX12_fetches_131 mvX12_farOf mlX12_145 (by decide) (by omega) (Nat.le_of_ble_eq_true rfl) (Nat.le_of_ble_eq_true rfl) (hT2) (?_ : RR _ _ _ _ 134 _ _ _ _)
  refine R_iadd dX12_fetches_134 (?_ : RR _ _ _ _ 135 _ _ _ _)
  refine R_iload dX12_fetches_135 rfl (?_ : RR _ _ _ _ 137 _ _ _ _)
  refine R_qV5 dX12_fetches_137 mvX12_fetches mlX12_438 (by decide) (by omega) (Nat.le_of_ble_eq_true rfl) (Nat.le_of_ble_eq_true rfl) (hcall) (fun r9 g9 hq9 => (?_ : RR _ _ _ _ 140 _ _ _ _))
  obtain ⟨rfl, h5, rfl, hx5, hy5, hz5⟩ := hq9
  show RR _ _ _ _ _ _ [] _ _
  refine R_iinc dX12_fetches_140 rfl (Nat.le_of_ble_eq_true rfl) (?_ : RR _ _ _ _ 143 [_, _, _, _, _, _, _] _ _ _)
  refine R_goto (t := 73) dX12_fetches_143 rfl (?_ : RR _ _ _ _ 73 _ _ _ _)
  exact KK h5 hx5 hy5 hz5
theorem FT_73 {n M S i : Nat} {far b : Int} {P L : List Int} {Q : Option PV → PH → Prop} (hh : ftH W R F G H st en) (hC : ftC W R F G H st en n) (hpM : pop 12 M = n + 1) (hM : M < 4096) (hMG : ∀ g, M.testBit g = true → g < G) (hr : relS H st M S) (hi : i ≤ G) (hPl : P.length + (n + 1) = G) (hfar : 0 ≤ far ∧ far ≤ 1000 * P.length) (hb : b ≤ 1000000 ∧ -1000000 ≤ b) (hp : prP P h0) (e3 : h0 147 3 = H) (e151 : h0 151 = F) (hQ : ∀ h2, ftE h0 h2 → (∀ k : Nat, k < P.length → h2 167 k = h0 167 k) → bsP (cmb far P b L (toS W R G en (n + 1) M i)).1 (cmb far P b L (toS W R G en (n + 1) M i)).2 h2 → Q none (shp0, rf0, h2)) : ∀ (j c : Nat) (h1 : Nat → Int → Int), c + j = H → ftE h0 h1 → (∀ k : Nat, k < P.length → h1 167 k = h0 167 k) → bsP (cmb far P b L (it (spF (toD W R) M i (fun g => toS W R G en n (oth M g) g) (fun g => R g)) (100000, []) (cG st c))).1 (cmb far P b L (it (spF (toD W R) M i (fun g => toS W R G en n (oth M g) g) (fun g => R g)) (100000, []) (cG st c))).2 h1 → RR mX12_fetches (n + 2) 0 0 73 [pR 147, pI (R i), pI S, pI P.length, pI far, pI en, pI c] [] (shp0, rf0, h1) Q := by
  have hDb := ftH_D hh
  have hEb := ftH_E hh
  have hsb := toS_b hDb hEb
  obtain ⟨f1, f2, f3, f4, f5, f6, f7, f8, f9⟩ := hh
  have r1 := f5 i hi
  intro j
  induction j with
  | zero =>
    intro c h1 hc hf hk hbs
    obtain rfl : c = H := by omega
    have g3 : h1 147 3 = c := by rw [hf.2 3 (by omega) (by omega)]; exact e3
    rw [← f2] at hbs
    have hq := hQ h1 hf hk hbs
    refine R_iload dX12_fetches_73 rfl (?_ : RR _ _ _ _ 75 _ _ _ _)
    refine R_aload_n dX12_fetches_75 rfl (?_ : RR _ _ _ _ 76 _ _ _ _)
    refine R_geti (z := 3) dX12_fetches_76 flX12_13 cok_12 rfl (by decide) rfl (fun q76 => (?_ : RR _ _ _ _ 79 _ _ _ _))
    rw [g3] at q76 ⊢
    refine R_icmp_ge (t := 146) dX12_fetches_79 rfl (fun c79 => ?_) (fun c79 => ?_)
    rotate_left
    · exfalso; omega
    exact R_return dX12_fetches_146 trivial hq
  | succ j ih =>
    intro c h1 hc hf hk hbs
    have g3 : h1 147 3 = H := by rw [hf.2 3 (by omega) (by omega)]; exact e3
    have g151 : h1 151 = F := by rw [hf.1 151 (by omega) (by omega) (by omega)]; exact e151
    have IH := ih (c + 1)
    have hbit := hr.2 c
    rw [decide_eq_true (show c < H by omega), Bool.true_and] at hbit
    have hfb := f1 (R i * 9 + c) (by omega) (by omega)
    have hT : MT mX12_farOf 0 [pR 147, pI (R i), pI c] h1 (some (pI (F (R i * 9 + c)))) h1 := by
      rw [← g151]
      exact T_X12_farOf
    have hI := (sp_I (D := toD W R) (M := M) (i := i) (q := fun g => toS W R G en n (oth M g) g) (y := fun g => R g) (cG st c)).2.1
    have hI0 := sp_nn (D := toD W R) (M := M) (i := i) (q := fun g => toS W R G en n (oth M g) g) (y := fun g => R g) (cG st c) (fun g hg => by
      have hm := cG_mono (st := st) (show c ≤ H by omega)
      have h1 := hDb i g hi (by omega)
      have h2 := hsb n (oth M g) g (by omega) (by omega)
      omega)
    have eC : cG st (c + 1) = cG st c + (if st c then 1 else 0) := rfl
    by_cases z : st c = true
    · rw [z, if_pos rfl] at eC
      rw [eC, show it (spF (toD W R) M i (fun g => toS W R G en n (oth M g) g) (fun g => R g)) (100000, []) (cG st c + 1) = spF (toD W R) M i (fun g => toS W R G en n (oth M g) g) (fun g => R g) (cG st c) (it (spF (toD W R) M i (fun g => toS W R G en n (oth M g) g) (fun g => R g)) (100000, []) (cG st c)) from rfl] at IH
      generalize it (spF (toD W R) M i (fun g => toS W R G en n (oth M g) g) (fun g => R g)) (100000, []) (cG st c) = r at hI hI0 hbs IH
      rw [z, Bool.true_and] at hbit
      have hRc := f6 c (by omega) z
      have hgl : cG st c < G := by have := cG_t z (show c < H by omega); omega
      have hDc := f8 i c hi (by omega) z
      have hqb := hsb n (oth M (cG st c)) (cG st c) (by omega) (by omega)
      have hS12 := hr.1
      unfold spF at IH
      dsimp only at IH
      by_cases y : M.testBit (cG st c) = true
      · by_cases u : F (R i * 9 + c) < 1000000
        · have hDe : toD W R i (cG st c) = F (R i * 9 + c) := by rw [hDc]; unfold nds; rw [if_neg (by omega)]
          have hpo := pop_oth hM y
          have hbc := cmb_b (far := far) (P := P) (L := L) (r := r) hb.1
          have hbl : -1000000 ≤ (cmb far P b L r).1 := by
            exact cmb_lo hb.2 hfar.1 (Or.inl hI0)
          have hcs := cmb_s (far := far) (D := toD W R i (cG st c)) (b := b) (x := (c : Int)) (P := P) (L := L) (q := toS W R G en n (oth M (cG st c)) (cG st c)) (r := r) (by rw [hDe]; omega) (by omega) hI
          have hcall := hC (oth M (cG st c)) (oth S c) (cG st c) (far + F (R i * 9 + c)) (P ++ [(c : Int)]) (cmb far P b L r).1 (cmb far P b L r).2 (rup h1 167 (fup (h1 167) P.length c)) (by omega) oth_lt (fun g hg => hMG g (by rw [oth_bit hM] at hg; simp only [Bool.and_eq_true] at hg; exact hg.1)) (relS_oth hr hM z) (by omega) (by simp; omega) (by simp; omega) ⟨hbc, hbl⟩ (prP_s (fun k hk' => by rw [hk k hk']; exact hp k hk') (by omega)) (bsP_fr hbs (rup_n (by omega)) (rup_n (by omega))) (by rw [rup_n (by omega)]; exact g3) (by rw [rup_n (by omega)]; exact g151)
          rw [← hDe, hcs, hRc, List.length_append, List.length_singleton] at hcall
          rw [show (if M.testBit (cG st c) = true ∧ toD W R i (cG st c) + (toS W R G en n (oth M (cG st c)) (cG st c)).1 < r.1 then (toD W R i (cG st c) + (toS W R G en n (oth M (cG st c)) (cG st c)).1, R (cG st c) :: (toS W R G en n (oth M (cG st c)) (cG st c)).2) else r) = (if toD W R i (cG st c) + (toS W R G en n (oth M (cG st c)) (cG st c)).1 < r.1 then (toD W R i (cG st c) + (toS W R G en n (oth M (cG st c)) (cG st c)).1, (c : Int) :: (toS W R G en n (oth M (cG st c)) (cG st c)).2) else r) by simp only [y, true_and, hRc]] at IH
          generalize (if toD W R i (cG st c) + (toS W R G en n (oth M (cG st c)) (cG st c)).1 < r.1 then (toD W R i (cG st c) + (toS W R G en n (oth M (cG st c)) (cG st c)).1, (c : Int) :: (toS W R G en n (oth M (cG st c)) (cG st c)).2) else r) = r2 at IH hcall
          rw [hDe] at hcall
          rw [y] at hbit
          have IH2 : ∀ h5 : Nat → Int → Int, ftE (rup h1 167 (fup (h1 167) P.length c)) h5 → (∀ k : Nat, k < P.length + 1 → h5 167 k = rup h1 167 (fup (h1 167) P.length c) 167 k) → bsP (cmb far P b L r2).1 (cmb far P b L r2).2 h5 → RR mX12_fetches (n + 2) 0 0 73 [pR 147, pI (R i), pI S, pI P.length, pI far, pI en, pI ((c : Int) + 1)] [] (shp0, rf0, h5) Q := fun h5 hf5 hk5 hb5 => IH h5 (by omega) (ftE_tr (ftE_tr hf ⟨fun a a1 a2 a3 => rup_n a2, fun j j1 j2 => by rw [rup_n (by omega)]⟩) hf5) (fun k hk' => by rw [hk5 k (by omega), rup_s, fup_n (by omega)]; exact hk k hk') hb5
          exact FT_c (n := n) (by omega) (by omega) r1 (by omega) hS12 f7 (by omega) hbit g3 (fun h' q => by rw [← g151, ← q]; exact T_X12_farOf) (by omega) u hcall IH2
        · have hDe : toD W R i (cG st c) = 100000 := by rw [hDc]; unfold nds; rw [if_pos (by omega)]
          rw [if_neg (by omega)] at IH
          have IH2 := IH h1 (by omega) hf hk hbs
          rw [y] at hbit
          refine R_iload dX12_fetches_73 rfl (?_ : RR _ _ _ _ 75 _ _ _ _)
          refine R_aload_n dX12_fetches_75 rfl (?_ : RR _ _ _ _ 76 _ _ _ _)
          refine R_geti (z := 3) dX12_fetches_76 flX12_13 cok_12 rfl (by decide) rfl (fun q76 => (?_ : RR _ _ _ _ 79 _ _ _ _))
          rw [g3] at q76 ⊢
          refine R_icmp_ge (t := 146) dX12_fetches_79 rfl (fun c79 => ?_) (fun c79 => ?_)
          · exfalso; omega
          refine R_iload_n dX12_fetches_82 rfl (?_ : RR _ _ _ _ 83 _ _ _ _)
          refine R_iload dX12_fetches_83 rfl (?_ : RR _ _ _ _ 85 _ _ _ _)
          refine R_cSi2 dX12_fetches_85 msX12_has mlX12_288 (by omega) (Nat.le_of_ble_eq_true rfl) (Nat.le_of_ble_eq_true rfl) (T_X12_has (by omega)) (?_ : RR _ _ _ _ 88 _ _ _ _)
          rw [if_pos hbit]
          refine R_if_eq (t := 140) dX12_fetches_88 rfl (fun c88 => ?_) (fun c88 => ?_)
          · exfalso; omega
          refine R_aload_n dX12_fetches_91 rfl (?_ : RR _ _ _ _ 92 _ _ _ _)
          refine R_iload_n dX12_fetches_92 rfl (?_ : RR _ _ _ _ 93 _ _ _ _)
          refine R_iload dX12_fetches_93 rfl (?_ : RR _ _ _ _ 95 _ _ _ _)
          refine R_cVi2 dX12_fetches_95 mvX12_farOf mlX12_145 (by decide) (by omega) (Nat.le_of_ble_eq_true rfl) (Nat.le_of_ble_eq_true rfl) (hT) (?_ : RR _ _ _ _ 98 _ _ _ _)
          refine R_ldc (z := 1000000) dX12_fetches_98 kwX12_138 (?_ : RR _ _ _ _ 100 _ _ _ _)
          refine R_icmp_ge (t := 140) dX12_fetches_100 rfl (fun c100 => ?_) (fun c100 => ?_)
          rotate_left
          · exfalso; omega
          refine R_iinc dX12_fetches_140 rfl (Nat.le_of_ble_eq_true rfl) (?_ : RR _ _ _ _ 143 [_, _, _, _, _, _, _] _ _ _)
          refine R_goto (t := 73) dX12_fetches_143 rfl (?_ : RR _ _ _ _ 73 _ _ _ _)
          exact IH2
      · rw [if_neg (fun w => y w.1)] at IH
        have IH2 := IH h1 (by omega) hf hk hbs
        rw [show M.testBit (cG st c) = false by simpa using y] at hbit
        refine R_iload dX12_fetches_73 rfl (?_ : RR _ _ _ _ 75 _ _ _ _)
        refine R_aload_n dX12_fetches_75 rfl (?_ : RR _ _ _ _ 76 _ _ _ _)
        refine R_geti (z := 3) dX12_fetches_76 flX12_13 cok_12 rfl (by decide) rfl (fun q76 => (?_ : RR _ _ _ _ 79 _ _ _ _))
        rw [g3] at q76 ⊢
        refine R_icmp_ge (t := 146) dX12_fetches_79 rfl (fun c79 => ?_) (fun c79 => ?_)
        · exfalso; omega
        refine R_iload_n dX12_fetches_82 rfl (?_ : RR _ _ _ _ 83 _ _ _ _)
        refine R_iload dX12_fetches_83 rfl (?_ : RR _ _ _ _ 85 _ _ _ _)
        refine R_cSi2 dX12_fetches_85 msX12_has mlX12_288 (by omega) (Nat.le_of_ble_eq_true rfl) (Nat.le_of_ble_eq_true rfl) (T_X12_has (by omega)) (?_ : RR _ _ _ _ 88 _ _ _ _)
        rw [if_neg (by rw [hbit]; simp)]
        refine R_if_eq (t := 140) dX12_fetches_88 rfl (fun c88 => ?_) (fun c88 => ?_)
        rotate_left
        · exfalso; omega
        refine R_iinc dX12_fetches_140 rfl (Nat.le_of_ble_eq_true rfl) (?_ : RR _ _ _ _ 143 [_, _, _, _, _, _, _] _ _ _)
        refine R_goto (t := 73) dX12_fetches_143 rfl (?_ : RR _ _ _ _ 73 _ _ _ _)
        exact IH2
    · have z : st c = false := by simpa using z
      rw [z] at eC hbit
      rw [show cG st (c + 1) = cG st c by rw [eC]; rfl] at IH
      have IH2 := IH h1 (by omega) hf hk hbs
      have hS12 := hr.1
      rw [Bool.false_and] at hbit
      refine R_iload dX12_fetches_73 rfl (?_ : RR _ _ _ _ 75 _ _ _ _)
      refine R_aload_n dX12_fetches_75 rfl (?_ : RR _ _ _ _ 76 _ _ _ _)
      refine R_geti (z := 3) dX12_fetches_76 flX12_13 cok_12 rfl (by decide) rfl (fun q76 => (?_ : RR _ _ _ _ 79 _ _ _ _))
      rw [g3] at q76 ⊢
      refine R_icmp_ge (t := 146) dX12_fetches_79 rfl (fun c79 => ?_) (fun c79 => ?_)
      · exfalso; omega
      refine R_iload_n dX12_fetches_82 rfl (?_ : RR _ _ _ _ 83 _ _ _ _)
      refine R_iload dX12_fetches_83 rfl (?_ : RR _ _ _ _ 85 _ _ _ _)
      refine R_cSi2 dX12_fetches_85 msX12_has mlX12_288 (by omega) (Nat.le_of_ble_eq_true rfl) (Nat.le_of_ble_eq_true rfl) (T_X12_has (by omega)) (?_ : RR _ _ _ _ 88 _ _ _ _)
      rw [if_neg (by rw [hbit]; simp)]
      refine R_if_eq (t := 140) dX12_fetches_88 rfl (fun c88 => ?_) (fun c88 => ?_)
      rotate_left
      · exfalso; omega
      refine R_iinc dX12_fetches_140 rfl (Nat.le_of_ble_eq_true rfl) (?_ : RR _ _ _ _ 143 [_, _, _, _, _, _, _] _ _ _)
      refine R_goto (t := 73) dX12_fetches_143 rfl (?_ : RR _ _ _ _ 73 _ _ _ _)
      exact IH2
theorem FT_all (hh : ftH W R F G H st en) : ∀ n : Nat, ftC W R F G H st en n
  | 0 => fun M S i far P b L h1 hpM hM hMG hr hi hPl hfar hb hp hbs e3 e151 => by
    obtain ⟨f1, f2, f3, f4, f5, f6, f7, f8, f9⟩ := hh
    have hM0 := pop_z 12 M hM hpM
    rw [hM0] at hr
    rw [relS_0 hr]
    exact FT_0 (d := 0) e151 f1 (f5 i hi) f7 (f9 i hi) (by omega) hfar hb hp hbs
  | n + 1 => fun M S i far P b L h1 hpM hM hMG hr hi hPl hfar hb hp hbs e3 e151 => by
    have hC := FT_all hh n
    show RR _ _ _ _ _ [pR 147, pI (R i), pI S, pI P.length, pI far, pI en, pU] _ _ _
    have hM0 : M ≠ 0 := fun z => by rw [z, pop_0] at hpM; omega
    have hS0 := relS_1 (p0 := fun _ => 0) hr hM0 (fun g hg => by have := hMG g hg; rw [hh.2.1] at this; exact this)
    have r1 := hh.2.2.2.2.1 i hi
    have f3 := hh.2.2.1
    have f7 := hh.2.2.2.2.2.2.1
    have hS12 := hr.1
    have K := FT_73 (h0 := h1) (Q := fun r' g' => r' = none ∧ ∃ h2, g' = (shp0, rf0, h2) ∧ ftE h1 h2 ∧ (∀ k : Nat, k < P.length → h2 167 k = h1 167 k) ∧ bsP (cmb far P b L (toS W R G en (n + 1) M i)).1 (cmb far P b L (toS W R G en (n + 1) M i)).2 h2) hh hC hpM hM hMG hr hi hPl hfar hb hp e3 e151 (fun h2 q1 q2 q3 => ⟨rfl, h2, rfl, q1, q2, q3⟩) H 0 h1 (by omega) ftE_rf (fun _ _ => rfl) (by
      show bsP (cmb far P b L (100000, [])).1 (cmb far P b L (100000, [])).2 h1
      rw [cmb_0]; exact hbs)
    have hPb : P.length ≤ 6 := by omega
    clear hPl hpM hC hp hbs
    generalize P.length = pl at *
    refine R_iload_n dX12_fetches_0 rfl (?_ : RR _ _ _ _ 1 _ _ _ _)
    refine R_if_ne (t := 70) dX12_fetches_1 rfl (fun c1 => ?_) (fun c1 => ?_)
    rotate_left
    · exfalso; omega
    refine R_iconst dX12_fetches_70 (?_ : RR _ _ _ _ 71 _ _ _ _)
    refine R_istore dX12_fetches_71 (Nat.le_of_ble_eq_true rfl) (?_ : RR _ _ _ _ 73 [_, _, _, _, _, _, _] _ _ _)
    exact K
end MFF
