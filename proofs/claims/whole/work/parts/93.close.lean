/-! an exit shut for a while -/
theorem begW_M {E M M' ds : Int → Int} {e w : Int} (hM : ∀ e, E e ≠ -1 → M' e = M e) : begW E M' ds e w = begW E M ds e w := by
  unfold begW
  by_cases q : E e = -1
  · simp [q]
  · rw [hM e q]
theorem xWi_M {s : Sem} {E M M' F W R : Int → Int} {p c : Nat} {f : Int → Int} (hM : ∀ e, E e ≠ -1 → M' e = M e) : xWi (s, E, M', F, W, R, p, c) f = xWi (s, E, M, F, W, R, p, c) f := by
  funext q
  unfold xWi wiS wishS
  rw [begW_M hM]
theorem xVote_M {s : Sem} {E M M' F W R : Int → Int} {p c : Nat} {f : Int → Int} {P : Nat → Bool} (hM : ∀ e, E e ≠ -1 → M' e = M e) : xVote (s, E, M', F, W, R, p, c) f P = xVote (s, E, M, F, W, R, p, c) f P := by
  unfold xVote
  rw [xWi_M hM]
  rfl
theorem xStep_M {s : Sem} {E M M' F W R : Int → Int} {p c : Nat} {f : Int → Int} {bh : Int} (hM : ∀ e, E e ≠ -1 → M' e = M e) : xStep (s, E, M', F, W, R, p, c) bh f = xStep (s, E, M, F, W, R, p, c) bh f := by
  have hv := fun P => xVote_M (s := s) (F := F) (W := W) (R := R) (p := p) (c := c) (f := f) (P := P) hM
  have hc : xCrs (s, E, M', F, W, R, p, c) f bh = xCrs (s, E, M, F, W, R, p, c) f bh := by
    unfold xCrs xHd
    simp only [hv]
  have ha : ∀ l z, xAl (s, E, M', F, W, R, p, c) f l z = xAl (s, E, M, F, W, R, p, c) f l z := fun l z => by
    unfold xAl
    simp only [hv]
  unfold xStep
  rw [hc]
  show xRun _ f (xLn (s, E, M, F, W, R, p, c) f) _ = _
  generalize xLn (s, E, M, F, W, R, p, c) f = l
  generalize xCrs (s, E, M, F, W, R, p, c) f bh = z
  unfold xRun
  rw [ha]
  by_cases q : z ≠ 2 ∧ 0 ≤ E (2 * f 0 + z)
  · rw [if_pos q, if_pos q]
    show moF W (fup (fup (mlF f _ c) 1 (f 1 + M' (2 * f 0 + z))) 0 _) p = _
    rw [hM _ (by omega)]
  · rw [if_neg q, if_neg q]
theorem xIt_M {s : Sem} {E M M' F W R : Int → Int} {p c : Nat} {bh : Int} (hM : ∀ e, E e ≠ -1 → M' e = M e) : ∀ (n : Nat) (f : Int → Int), xIt (s, E, M', F, W, R, p, c) bh n f = xIt (s, E, M, F, W, R, p, c) bh n f
  | 0, f => rfl
  | n + 1, f => by
    show xIt _ bh n (xStep _ bh f) = xIt _ bh n (xStep _ bh f)
    rw [xStep_M hM]
    exact xIt_M hM n _
theorem wyG_c {H : Nat} {ex mi ex' mi' D : Int → Int} (hD : wyG H ex mi D) (h1 : ∀ e : Int, 0 ≤ e → e < 2 * H → ex' e = ex e) (h2 : ∀ e : Int, 0 ≤ e → e < 2 * H → ex e ≠ -1 → mi' e = mi e) : wyG H ex' mi' D := by
  obtain ⟨d1, d2, d3, d4⟩ := hD
  refine ⟨d1, d2, fun a b a0 a1 b0 b1 => ?_, fun e e0 e1 e2 b b0 b1 => ?_⟩
  · intro q1 q2
    obtain ⟨e, e0, e1, e2, e3, e4⟩ := d3 a b a0 a1 b0 b1 q1 q2
    exact ⟨e, e0, e1, e2, by rw [h1 e e0 e1]; exact e3, by rw [h1 e e0 e1, h2 e e0 e1 e3]; exact e4⟩
  · rw [h1 e e0 e1] at e2 ⊢
    rw [h2 e e0 e1 e2]
    exact d4 e e0 e1 e2 b b0 b1
theorem lAll_id {H : Nat} {ex mi f F : Int → Int} (hH : H ≤ 9) (hE : exK H ex mi) (hD : wyG H ex mi (nds F)) (hF : farB F) (ho : ∀ i : Int, ¬ (0 ≤ i ∧ i / 9 < H ∧ i % 9 < H) → f i = F i) : lAll H ex mi f = F := by
  funext i
  by_cases q : 0 ≤ i ∧ i / 9 < H ∧ i % 9 < H
  · have h1 := lAll_eq (f := f) hH hE hD (i / 9) (i % 9) (by omega) q.2.1 (by omega) q.2.2
    dsimp only at h1
    rw [show 9 * (i / 9) + i % 9 = i by omega] at h1
    rw [h1]
    unfold fP
    rw [show i / 9 * 9 + i % 9 = i by omega]
    unfold nds
    have := hF i q.1 (by omega)
    by_cases z : 1000000 ≤ F i
    · rw [if_pos z, if_neg (by omega)]; omega
    · rw [if_neg z, if_pos (by omega)]
  · rw [lAll_out hH q, ho i q]
theorem lAll_same {H : Nat} {ex mi f g : Int → Int} (hH : H ≤ 9) (hE : exK H ex mi) (hxb : exB ex) (hmb : miB mi) (ho : ∀ i : Int, ¬ (0 ≤ i ∧ i / 9 < H ∧ i % 9 < H) → f i = g i) : lAll H ex mi f = lAll H ex mi g := by
  funext i
  by_cases q : 0 ≤ i ∧ i / 9 < H ∧ i % 9 < H
  · have hD := wAll_G (f := fun _ => 0) hH hE (fun z z0 z1 => by dsimp only; omega) hxb hmb
    have h1 := lAll_eq (f := f) hH hE hD (i / 9) (i % 9) (by omega) q.2.1 (by omega) q.2.2
    have h2 := lAll_eq (f := g) hH hE hD (i / 9) (i % 9) (by omega) q.2.1 (by omega) q.2.2
    dsimp only at h1 h2
    rw [show 9 * (i / 9) + i % 9 = i by omega] at h1 h2
    rw [h1, h2]
  · rw [lAll_out hH q, lAll_out hH q, ho i q]
theorem nds_fP {D F : Int → Int} {a b : Int} (hb : 0 ≤ D (a * 9 + b) ∧ D (a * 9 + b) ≤ 100000) (e : F (9 * a + b) = fP D a b) : D (a * 9 + b) = nds F (a * 9 + b) := by
  unfold nds
  rw [show F (a * 9 + b) = F (9 * a + b) by rw [Int.mul_comm], e]
  unfold fP
  by_cases q : D (a * 9 + b) < 100000
  · rw [if_pos q, if_neg (by omega)]
  · rw [if_neg q, if_pos (by omega)]; omega
theorem exB_s {f : Int → Int} {e : Int} (h : exB f) : exB (fup f e (-1)) := fun z z0 z1 => by
  unfold fup
  split
  · omega
  · exact h z z0 z1
theorem miB_s {f : Int → Int} {e : Int} (h : miB f) : miB (fup f e 0) := fun z z0 z1 => by
  unfold fup
  split
  · omega
  · exact h z z0 z1
/-- the context with an exit shut -/
def clY (sem : Sem) (h : Nat → Int → Int) (np nc H : Nat) (e : Int) : Cx := (sem, fup (h 149) e (-1), h 150, lAll H (fup (h 149) e (-1)) (h 150) (h 151), h 152, h 153, np, nc)
def clX (sem : Sem) (h : Nat → Int → Int) (np nc H : Nat) (e : Int) : Cx := (sem, fup (h 149) e (-1), fup (h 150) e 0, lAll H (fup (h 149) e (-1)) (h 150) (h 151), h 152, h 153, np, nc)
section CLO
variable {k : Nat} {h h1 h2 h3 h4 : Nat → Int → Int} {sem : Sem} {H np nc len : Nat} {v : Int} {X : Cx}
theorem exK_s {ex mi : Int → Int} {e : Int} (hE : exK H ex mi) : exK H (fup ex e (-1)) mi := fun z z0 z1 => by
  unfold fup
  split
  · exact Or.inl rfl
  · exact hE z z0 z1
theorem clX_it {e bh : Int} {n : Nat} {f : Int → Int} : xIt (clX sem h np nc H e) bh n f = xIt (clY sem h np nc H e) bh n f := xIt_M (fun z hz => by
  by_cases q : z = e
  · rw [q, fup_s] at hz; exact absurd rfl hz
  · rw [fup_n q]) n f
theorem clY_ok {e : Int} (hs : SRx k h sem H np nc len) : xOK (clY sem h np nc H e) H := by
  obtain ⟨o1, o2, o3, o4, o5, o6, o7, o8, o9⟩ : xOK (cxM sem h np nc) H := hs.1.2.2.2.2.1
  have hE : exK H (h 149) (h 150) := hs.1.2.2.2.2.2.1.1
  have o5 : exB (h 149) := o5
  have o6 : miB (h 150) := o6
  have o7 : farB (h 151) := o7
  refine ⟨o1, o2, o3, o4, exB_s o5, o6, lAll_farB (f' := fun _ => 0) o2 (exK_s hE) (exB_s o5) o6 (fun z z0 z1 => by dsimp only; omega) o7, fun z hz => ?_, o9⟩
  show fup (h 149) e (-1) z < H
  unfold fup
  split
  · omega
  · exact o8 z hz
theorem clX_ok {e : Int} (hs : SRx k h sem H np nc len) : xOK (clX sem h np nc H e) H := by
  obtain ⟨o1, o2, o3, o4, o5, o6, o7, o8, o9⟩ := clY_ok (e := e) hs
  exact ⟨o1, o2, o3, o4, o5, miB_s o6, o7, o8, o9⟩
theorem clY_no {e : Int} (hs : SRx k h sem H np nc len) (he : h 149 e = -1) : clY sem h np nc H e = cxM sem h np nc := by
  obtain ⟨o1, o2, o3, o4, o5, o6, o7, o8, o9⟩ : xOK (cxM sem h np nc) H := hs.1.2.2.2.2.1
  obtain ⟨hE, hD⟩ := hs.1.2.2.2.2.2.1
  unfold clY cxM
  rw [← he, fup_self, lAll_id o2 hE hD o7 (fun _ _ => rfl)]
/-- how many are out with the exit shut -/
def clV (sem : Sem) (h : Nat → Int → Int) (np nc H m : Nat) (e : Int) : Int := oMn (cxM sem h np nc) (xIt (clY sem h np nc H e) 0 m (h 154)) - oMn (cxM sem h np nc) (h 154)
def clB (sem : Sem) (h : Nat → Int → Int) (np nc m : Nat) : Int := oMn (cxM sem h np nc) (xIt (cxM sem h np nc) 0 m (h 154)) - oMn (cxM sem h np nc) (h 154)
def clS (V : Int → Int) (e : Nat) (s : Int × Int) : Int × Int := if s.1 < V e then (V e, (e : Int)) else s
theorem clV_no {e : Int} {m : Nat} (hs : SRx k h sem H np nc len) (he : h 149 e = -1) : clV sem h np nc H m e = clB sem h np nc m := by
  unfold clV clB
  rw [clY_no hs he]
theorem clV_b {e : Int} {m : Nat} (hs : SRx k h sem H np nc len) : 0 ≤ clV sem h np nc H m e ∧ clV sem h np nc H m e ≤ 12 := by
  have x6 := sR6 hs
  have x12 := sR12 hs
  have b1 := oMn_it (X := clY sem h np nc H e) (bh := 0) x6 x12 m (h 154)
  have b2 := oMn_b (X := cxM sem h np nc) (f := xIt (clY sem h np nc H e) 0 m (h 154)) x12
  unfold clV
  have b1 : oMn (cxM sem h np nc) (h 154) ≤ oMn (cxM sem h np nc) (xIt (clY sem h np nc H e) 0 m (h 154)) := b1
  omega
theorem clB_b {m : Nat} (hs : SRx k h sem H np nc len) : 0 ≤ clB sem h np nc m ∧ clB sem h np nc m ≤ 12 := by
  have x6 := sR6 hs
  have x12 := sR12 hs
  have b1 := oMn_it (X := cxM sem h np nc) (bh := 0) x6 x12 m (h 154)
  have b2 := oMn_b (X := cxM sem h np nc) (f := xIt (cxM sem h np nc) 0 m (h 154)) x12
  unfold clB
  omega
theorem clS_b {V : Int → Int} {b : Int} (hb : 0 ≤ b ∧ b ≤ 12) (hV : ∀ e, 0 ≤ V e ∧ V e ≤ 12) : ∀ e : Nat, (b ≤ (it (clS V) (b, -3) e).1 ∧ (it (clS V) (b, -3) e).1 ≤ 12) ∧ -3 ≤ (it (clS V) (b, -3) e).2 ∧ (it (clS V) (b, -3) e).2 < (e : Int)
  | 0 => ⟨⟨Int.le_refl _, hb.2⟩, by show (-3 : Int) ≤ -3; omega, by show (-3 : Int) < (0 : Nat); omega⟩
  | e + 1 => by
    have ih := clS_b hb hV e
    have hv := hV e
    show (b ≤ (clS V e (it (clS V) (b, -3) e)).1 ∧ (clS V e (it (clS V) (b, -3) e)).1 ≤ 12) ∧ -3 ≤ (clS V e (it (clS V) (b, -3) e)).2 ∧ (clS V e (it (clS V) (b, -3) e)).2 < ((e + 1 : Nat) : Int)
    generalize it (clS V) (b, -3) e = s at ih ⊢
    unfold clS
    split
    · dsimp only; omega
    · omega
end CLO
