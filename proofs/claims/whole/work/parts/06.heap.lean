def fup (f : Int → Int) (i z : Int) : Int → Int := fun j => if j = i then z else f j
def rup (h : Nat → Int → Int) (a : Nat) (f : Int → Int) : Nat → Int → Int := fun b => if b = a then f else h b
theorem rup_s {h : Nat → Int → Int} {a : Nat} {f : Int → Int} : rup h a f a = f := if_pos rfl
theorem rup_n {h : Nat → Int → Int} {a b : Nat} {f : Int → Int} (hb : b ≠ a) : rup h a f b = h b := if_neg hb
theorem fup_s {f : Int → Int} {i z : Int} : fup f i z i = z := if_pos rfl
theorem fup_n {f : Int → Int} {i j z : Int} (hj : j ≠ i) : fup f i z j = f j := if_neg hj
/-- a field that an instruction of a file names: its owner's number, its place -/
def pm_fl (own : String) (idx ci k : Nat) : Prop := ∃ q : vw_C, pm_cl[ci]? = some q ∧ k < q.2.2 ∧ Cond.fieldLink own idx (q.2.1 k).1 (q.2.1 k).2.1 (q.2.1 k).2.2.1 ∈ tblG
/-- what the tables say of the files themselves -/
def pm_cok (ci : Nat) : Prop := ∀ q : vw_C, pm_cl[ci]? = some q → (∀ w ∈ u_ws q.1 q.2.1 q.2.2, w ∈ tblG) ∧ (∀ k, k < q.2.2 → parseFieldDescriptor (q.2.1 k).2.2.1 = some (pm_ty ci k)) ∧ (∀ a, a < q.2.2 → ∀ b, b < q.2.2 → a ≠ b → (q.2.1 a).2.1 ≠ (q.2.1 b).2.1) ∧ q.2.2 = pm_nf ci
theorem pm_ce_eq {E : PE} {g g' : PH} {a : Nat} {q : Nat × Nat} (h1 : g'.2.1 a = g.2.1 a) (h2 : g'.2.2 a = g.2.2 a) : pm_ce E g' a q = pm_ce E g a q := by
  unfold pm_ce
  have : pm_fv E g' a q.1 = pm_fv E g a q.1 := by funext j; unfold pm_fv; rw [h1, h2]
  rw [this, h1, h2]
section PMH
variable {M : PMt} {d kc ks pc : Nat} {ls st : List PV} {Q : Option PV → PH → Prop} {S : List (Nat × Nat)} {F : Nat → Nat → Option Nat} {h : Nat → Int → Int}
/-- the world behind a write of one row of numbers -/
theorem pm_put {E : PE} {a : Nat} {q : Nat × Nat} {f : Int → Int} {x : va_E} {H1 : Heap} (hc : S[a]? = some q) (hx : pm_ce E (S, F, rup h a f) a q = x) (hf : ∀ i, (q.1 ≠ 102 → r32 (f i)) ∧ r64 (f i)) (hz : pm_nz (S, F, h))
    (hP : va_P E.1 pm_cl ((pm_wl E (S, F, h)).set a (E.2.2.1 a, x)) H1) (hD : va_D (pm_A E) ((pm_wl E (S, F, h)).set a (E.2.2.1 a, x))) : pm_Rel E (S, F, rup h a f) H1 := by
  have e : (pm_wl E (S, F, h)).set a (E.2.2.1 a, x) = pm_wl E (S, F, rup h a f) := by
    have e1 : (E.2.2.1 a, x) = pm_w E (S, F, rup h a f) a := by
      unfold pm_w
      rw [← hx]
      show _ = (E.2.2.1 a, pm_ce E (S, F, rup h a f) a (S.getD a (100, 0)))
      rw [List.getD_eq_getElem?_getD, hc]
      rfl
    rw [e1]
    refine pm_set (F := pm_w E (S, F, h)) (fun j _ hj => ?_)
    unfold pm_w
    rw [pm_ce_eq (g := (S, F, h)) (g' := (S, F, rup h a f)) rfl (rup_n hj)]
  rw [e] at hP hD
  refine ⟨hP, hD, fun b q' hb i => ?_⟩
  by_cases hba : b = a
  · subst hba
    have : q' = q := Option.some.inj (hb.symm.trans hc)
    subst this
    show (_ → r32 (rup h b f b i)) ∧ r64 (rup h b f b i)
    rw [rup_s]
    exact hf i
  · show (_ → r32 (rup h a f b i)) ∧ r64 (rup h a f b i)
    rw [rup_n hba]
    exact hz b q' hb i
theorem R_geti {a idx ci k n : Nat} {z : Int} (hd : decode M.2.1 pc = .ok (.getfield idx, 3)) (hf : pm_fl M.1.cls idx ci k) (hk : pm_cok ci) (hn : pm_nu ci k = true) (hl : ci < 50) (hz : (k : Int) = z) (kk : r32 (h a z) → RR M d kc ks (pc + 3) ls (pI (h a z) :: st) (S, F, h) Q) (hc : S[a]? = some (ci, n) := by first | assumption | rfl) : RR M d kc ks pc ls (pR a :: st) (S, F, h) Q := by
  intro E p l e R s m args below meth c H locs cells slots Qf L hF h1 h2 h3 h4 hR hS hL hq
  obtain ⟨q, q1, q2, q3⟩ := hf
  obtain ⟨k1, k2, k3, k4⟩ := hk q q1
  subst hz
  refine va_get (D := E.1) (ci := ci) (C := q.1) (T := q.2.1) (N := q.2.2) (v := .int (Int32.ofInt (h a k))) hF.1 hF.2.1 hF.2.2.2.2.2.2.1 k1 hF.2.2.2.2.2.1 hF.2.2.2.2.2.2.2.1 hR.1 a (fs := (List.range (pm_nf ci)).map (pm_fv E (S, F, h) a ci)) ?_ q1 k q2 (hF.2.2.2.2.2.2.1 _ q3) (fun _ x => x) ?_ hd (kk ((hR.2.2 a _ hc k).1 (by show ci ≠ 102; omega)) E p l e R s m args below meth c H locs cells slots Qf L hF h1 h2 h3 h4 hR hS hL hq)
  · rw [pm_wl_at (g := (S, F, h)) hc]
    unfold pm_ce
    rw [if_pos hl]
  · rw [List.getElem?_map, List.getElem?_range (by rw [← k4]; exact q2)]
    show some (pm_fv E (S, F, h) a ci k) = _
    unfold pm_fv
    rw [if_pos hn]
theorem R_getr {a b idx ci k n : Nat} (hd : decode M.2.1 pc = .ok (.getfield idx, 3)) (hf : pm_fl M.1.cls idx ci k) (hk : pm_cok ci) (hn : pm_nu ci k = false) (hl : ci < 50) (kk : RR M d kc ks (pc + 3) ls (pR b :: st) (S, F, h) Q) (hc : S[a]? = some (ci, n) := by first | assumption | rfl) (hr : F a k = some b := by first | assumption | rfl) : RR M d kc ks pc ls (pR a :: st) (S, F, h) Q := by
  intro E p l e R s m args below meth c H locs cells slots Qf L hF h1 h2 h3 h4 hR hS hL hq
  obtain ⟨q, q1, q2, q3⟩ := hf
  obtain ⟨k1, k2, k3, k4⟩ := hk q q1
  refine va_get (D := E.1) (ci := ci) (C := q.1) (T := q.2.1) (N := q.2.2) (v := .ref (E.2.2.1 b)) hF.1 hF.2.1 hF.2.2.2.2.2.2.1 k1 hF.2.2.2.2.2.1 hF.2.2.2.2.2.2.2.1 hR.1 a (fs := (List.range (pm_nf ci)).map (pm_fv E (S, F, h) a ci)) ?_ q1 k q2 (hF.2.2.2.2.2.2.1 _ q3) (fun _ x => x) ?_ hd (kk E p l e R s m args below meth c H locs cells slots Qf L hF h1 h2 h3 h4 hR hS hL hq)
  · rw [pm_wl_at (g := (S, F, h)) hc]
    unfold pm_ce
    rw [if_pos hl]
  · rw [List.getElem?_map, List.getElem?_range (by rw [← k4]; exact q2)]
    show some (pm_fv E (S, F, h) a ci k) = _
    unfold pm_fv
    rw [if_neg (by rw [hn]; decide)]
    show some (va_rf ((F a k).map E.2.2.1)) = _
    rw [hr]
    rfl
theorem pm_narb {z : Int} (h : z = 0 ∨ z = 1) : narrow .boolean (.int (Int32.ofInt z)) = .int (Int32.ofInt z) ∧ fits .boolean (.int (Int32.ofInt z)) = true := by
  rcases h with rfl | rfl <;> exact ⟨by decide +kernel, by decide +kernel⟩
theorem R_puti {a idx ci k n : Nat} {z zk : Int} (hd : decode M.2.1 pc = .ok (.putfield idx, 3)) (hf : pm_fl M.1.cls idx ci k) (hk : pm_cok ci) (hl : ci < 50) (hfin : ∀ q : vw_C, pm_cl[ci]? = some q → (q.2.1 k).2.2.2 = false) (hz : (k : Int) = zk) (kk : RR M d kc ks (pc + 3) ls st (S, F, rup h a (fup (h a) zk z)) Q)
    (hty : pm_ty ci k = .int ∨ (pm_ty ci k = .boolean ∧ (z = 0 ∨ z = 1)) := by first | exact Or.inl rfl | exact Or.inr ⟨rfl, Or.inl rfl⟩ | exact Or.inr ⟨rfl, Or.inr rfl⟩ | exact Or.inr ⟨rfl, by omega⟩) (hr : r32 z := by first | assumption | omega) (hc : S[a]? = some (ci, n) := by first | assumption | rfl) : RR M d kc ks pc ls (pI z :: pR a :: st) (S, F, h) Q := by
  intro E p l e R s m args below meth c H locs cells slots Qf L hF h1 h2 h3 h4 hR hS hL hq
  obtain ⟨q, q1, q2, q3⟩ := hf
  obtain ⟨k1, k2, k3, k4⟩ := hk q q1
  subst hz
  have hnar : narrow (pm_ty ci k) (.int (Int32.ofInt z)) = .int (Int32.ofInt z) ∧ fits (pm_ty ci k) (.int (Int32.ofInt z)) = true ∧ pm_nu ci k = true := by
    rcases hty with e | ⟨e, hb⟩
    · refine ⟨by rw [e]; rfl, by rw [e]; rfl, ?_⟩
      unfold pm_nu; rw [e]
    · refine ⟨by rw [e]; exact (pm_narb hb).1, by rw [e]; exact (pm_narb hb).2, ?_⟩
      unfold pm_nu; rw [e]
  refine va_put (D := E.1) (ci := ci) (C := q.1) (T := q.2.1) (N := q.2.2) (v := .int (Int32.ofInt z)) (ty := pm_ty ci k) hF.1 hF.2.1 hF.2.2.2.2.2.2.1 k1 (pm_ty ci) k2 k3 hF.2.2.2.2.2.1 hF.2.2.2.2.2.2.2.1 hR.1 hR.2.1 hS a (fs := (List.range (pm_nf ci)).map (pm_fv E (S, F, h) a ci)) ?_ q1 k q2 (hF.2.2.2.2.2.2.1 _ q3) (fun _ x => x) (hfin q q1) (k2 k q2) hnar.1 hnar.2.1 (by rw [List.length_map, List.length_range, ← k4]; exact q2) hd (fun H1 locs1 hP1 hD1 hS1 => ?_)
  · rw [pm_wl_at (g := (S, F, h)) hc]
    unfold pm_ce
    rw [if_pos hl]
  · refine kk E p l e R s m args below meth c H1 locs1 cells slots Qf L hF h1 h2 h3 h4 (pm_put hc ?_ (fun i => ?_) hR.2.2 hP1 hD1) hS1 hL hq
    · unfold pm_ce
      rw [if_pos hl]
      have e : ((List.range (pm_nf ci)).map (pm_fv E (S, F, h) a ci)).set k (.int (Int32.ofInt z)) = (List.range (pm_nf ci)).map (pm_fv E (S, F, rup h a (fup (h a) k z)) a ci) := by
        have e1 : Value.int (Int32.ofInt z) = pm_fv E (S, F, rup h a (fup (h a) k z)) a ci k := by
          unfold pm_fv
          rw [if_pos hnar.2.2]
          show _ = Value.int (Int32.ofInt (rup h a (fup (h a) k z) a k))
          rw [rup_s, fup_s]
        rw [e1]
        refine pm_set (F := pm_fv E (S, F, h) a ci) (fun j _ hj => ?_)
        unfold pm_fv
        show (if pm_nu ci j then Value.int (Int32.ofInt (rup h a (fup (h a) k z) a j)) else va_rf ((F a j).map E.2.2.1)) = (if pm_nu ci j then Value.int (Int32.ofInt (h a j)) else va_rf ((F a j).map E.2.2.1))
        rw [rup_s, fup_n (by omega)]
      rw [e]
    · by_cases hi : i = k
      · subst hi
        rw [fup_s]
        exact ⟨fun _ => hr, by omega⟩
      · rw [fup_n hi]
        exact hR.2.2 a _ hc i
theorem pm_inb {i : Int} {n : Nat} (hi : 0 ≤ i ∧ i < n) (hr : r32 i) : vp_in (Int32.ofInt i) n ∧ (Int32.ofInt i).toNatClampNeg = i.toNat := by
  have e : (Int32.ofInt i).toNatClampNeg = i.toNat := by
    show (Int32.ofInt i).toInt.toNat = _
    rw [r32_i hr]
  refine ⟨fun q => ?_, e⟩
  rcases q with q | q
  · rw [i_0, i_lt hr (by decide)] at q
    omega
  · rw [e] at q
    omega
theorem R_iald {a n : Nat} {i : Int} (hd : decode M.2.1 pc = .ok (.iaload, 1)) (kk : r32 (h a i) → RR M d kc ks (pc + 1) ls (pI (h a i) :: st) (S, F, h) Q) (hc : S[a]? = some (100, n) := by first | assumption | rfl) (hi : 0 ≤ i ∧ i < n := by omega) (hr : r32 i := by omega) : RR M d kc ks pc ls (pI i :: pR a :: st) (S, F, h) Q := by
  intro E p l e R s m args below meth c H locs cells slots Qf L hF h1 h2 h3 h4 hR hS hL hq
  obtain ⟨e1, e2⟩ := pm_inb hi hr
  refine va_iald (D := E.1) hF.1 hF.2.1 hF.2.2.2.2.2.2.2.1 hR.1 a 0 (n := n) (f := fun j => Int32.ofInt (h a j)) (pm_wl_at (g := (S, F, h)) hc) rfl e1 hd ?_
  rw [e2]
  have e3 : ((i.toNat : Nat) : Int) = i := Int.toNat_of_nonneg hi.1
  have := kk ((hR.2.2 a _ hc i).1 (by show (100 : Nat) ≠ 102; decide)) E p l e R s m args below meth c H locs cells slots Qf L hF h1 h2 h3 h4 hR hS hL hq
  show W p l e R s m args below meth c H locs cells slots Qf (F0 m (pc + 1) L (Value.int (Int32.ofInt (h a (i.toNat : Int))) :: st.map (tv E)))
  rw [e3]
  exact this
theorem R_zald {a n : Nat} {i : Int} (hd : decode M.2.1 pc = .ok (.baload, 1)) (kk : r32 (h a i) → RR M d kc ks (pc + 1) ls (pI (h a i) :: st) (S, F, h) Q) (hc : S[a]? = some (101, n) := by first | assumption | rfl) (hi : 0 ≤ i ∧ i < n := by omega) (hr : r32 i := by omega) : RR M d kc ks pc ls (pI i :: pR a :: st) (S, F, h) Q := by
  intro E p l e R s m args below meth c H locs cells slots Qf L hF h1 h2 h3 h4 hR hS hL hq
  obtain ⟨e1, e2⟩ := pm_inb hi hr
  refine va_zald (D := E.1) hF.1 hF.2.1 hF.2.2.2.2.2.2.2.1 hR.1 a 1 (n := n) (f := fun j => Int32.ofInt (h a j)) (pm_wl_at (g := (S, F, h)) hc) rfl e1 hd ?_
  rw [e2]
  have e3 : ((i.toNat : Nat) : Int) = i := Int.toNat_of_nonneg hi.1
  have := kk ((hR.2.2 a _ hc i).1 (by show (101 : Nat) ≠ 102; decide)) E p l e R s m args below meth c H locs cells slots Qf L hF h1 h2 h3 h4 hR hS hL hq
  show W p l e R s m args below meth c H locs cells slots Qf (F0 m (pc + 1) L (Value.int (Int32.ofInt (h a (i.toNat : Int))) :: st.map (tv E)))
  rw [e3]
  exact this
theorem R_lald {a n : Nat} {i : Int} (hd : decode M.2.1 pc = .ok (.laload, 1)) (kk : r64 (h a i) → RR M d kc ks (pc + 1) ls (pL (h a i) :: st) (S, F, h) Q) (hc : S[a]? = some (102, n) := by first | assumption | rfl) (hi : 0 ≤ i ∧ i < n := by omega) (hr : r32 i := by omega) : RR M d kc ks pc ls (pI i :: pR a :: st) (S, F, h) Q := by
  intro E p l e R s m args below meth c H locs cells slots Qf L hF h1 h2 h3 h4 hR hS hL hq
  obtain ⟨e1, e2⟩ := pm_inb hi hr
  refine va_lald (D := E.1) hF.1 hF.2.1 hF.2.2.2.2.2.2.2.1 hR.1 a 2 (n := n) (f := fun j => Int64.ofInt (h a j)) (pm_wl_at (g := (S, F, h)) hc) rfl e1 hd ?_
  rw [e2]
  have e3 : ((i.toNat : Nat) : Int) = i := Int.toNat_of_nonneg hi.1
  have := kk (hR.2.2 a _ hc i).2 E p l e R s m args below meth c H locs cells slots Qf L hF h1 h2 h3 h4 hR hS hL hq
  show W p l e R s m args below meth c H locs cells slots Qf (F0 m (pc + 1) L (Value.long (Int64.ofInt (h a (i.toNat : Int))) :: st.map (tv E)))
  rw [e3]
  exact this
theorem R_aald {a b n : Nat} {i : Int} (hd : decode M.2.1 pc = .ok (.aaload, 1)) (kk : RR M d kc ks (pc + 1) ls (pR b :: st) (S, F, h) Q) (hb : F a i.toNat = some b) (hc : S[a]? = some (103, n) := by first | assumption | rfl) (hi : 0 ≤ i ∧ i < n := by omega) (hr : r32 i := by omega) : RR M d kc ks pc ls (pI i :: pR a :: st) (S, F, h) Q := by
  intro E p l e R s m args below meth c H locs cells slots Qf L hF h1 h2 h3 h4 hR hS hL hq
  obtain ⟨e1, e2⟩ := pm_inb hi hr
  refine va_aldq (D := E.1) hF.1 hF.2.1 hF.2.2.2.2.2.2.2.1 hR.1 a 3 (n := n) (f := fun j => (F a j).map E.2.2.1) (pm_wl_at (g := (S, F, h)) hc) rfl e1 hd ?_
  rw [e2]
  have := kk E p l e R s m args below meth c H locs cells slots Qf L hF h1 h2 h3 h4 hR hS hL hq
  show W p l e R s m args below meth c H locs cells slots Qf (F0 m (pc + 1) L (va_rf ((F a i.toNat).map E.2.2.1) :: st.map (tv E)))
  rw [hb]
  exact this
theorem pm_upd {f : Int → Int} {i z : Int} (hi : 0 ≤ i) : upd (fun j : Nat => Int32.ofInt (f j)) i.toNat (Int32.ofInt z) = fun j : Nat => Int32.ofInt (fup f i z j) := by
  funext j
  unfold upd fup
  by_cases hj : j = i.toNat
  · subst hj
    rw [if_pos rfl, if_pos (Int.toNat_of_nonneg hi)]
  · rw [if_neg hj, if_neg (by omega)]
theorem pm_updL {f : Int → Int} {i z : Int} (hi : 0 ≤ i) : vp_updL (fun j : Nat => Int64.ofInt (f j)) i.toNat (Int64.ofInt z) = fun j : Nat => Int64.ofInt (fup f i z j) := by
  funext j
  unfold vp_updL fup
  by_cases hj : j = i.toNat
  · subst hj
    rw [if_pos rfl, if_pos (Int.toNat_of_nonneg hi)]
  · rw [if_neg hj, if_neg (by omega)]
theorem R_iast {a n : Nat} {i z : Int} (hd : decode M.2.1 pc = .ok (.iastore, 1)) (kk : RR M d kc ks (pc + 1) ls st (S, F, rup h a (fup (h a) i z)) Q) (hc : S[a]? = some (100, n) := by first | assumption | rfl) (hi : 0 ≤ i ∧ i < n := by omega) (hr : r32 i := by omega) (hz : r32 z := by first | assumption | omega) : RR M d kc ks pc ls (pI z :: pI i :: pR a :: st) (S, F, h) Q := by
  intro E p l e R s m args below meth c H locs cells slots Qf L hF h1 h2 h3 h4 hR hS hL hq
  obtain ⟨e1, e2⟩ := pm_inb hi hr
  refine va_iast (D := E.1) hF.1 hF.2.1 hF.2.2.2.2.2.2.2.1 hR.1 hR.2.1 hS a 0 (n := n) (f := fun j => Int32.ofInt (h a j)) (pm_wl_at (g := (S, F, h)) hc) rfl e1 hd (fun H1 locs1 hP1 hD1 hS1 => ?_)
  rw [e2, pm_upd hi.1] at hP1 hD1
  refine kk E p l e R s m args below meth c H1 locs1 cells slots Qf L hF h1 h2 h3 h4 (pm_put hc ?_ (fun j => ?_) hR.2.2 hP1 hD1) hS1 hL hq
  · show Sum.inl (E.2.1 0, n, Sum.inl (fun j : Nat => Int32.ofInt (rup h a (fup (h a) i z) a j))) = _
    rw [rup_s]
    rfl
  · by_cases hj : j = i
    · subst hj
      rw [fup_s]
      exact ⟨fun _ => hz, by omega⟩
    · rw [fup_n hj]
      exact hR.2.2 a _ hc j
theorem R_zast {a n : Nat} {i z : Int} (hd : decode M.2.1 pc = .ok (.bastore, 1)) (kk : RR M d kc ks (pc + 1) ls st (S, F, rup h a (fup (h a) i z)) Q) (hc : S[a]? = some (101, n) := by first | assumption | rfl) (hi : 0 ≤ i ∧ i < n := by omega) (hr : r32 i := by omega) (hz : z = 0 ∨ z = 1 := by omega) : RR M d kc ks pc ls (pI z :: pI i :: pR a :: st) (S, F, h) Q := by
  intro E p l e R s m args below meth c H locs cells slots Qf L hF h1 h2 h3 h4 hR hS hL hq
  obtain ⟨e1, e2⟩ := pm_inb hi hr
  have hn : vp_nar .boolean (Int32.ofInt z) = Int32.ofInt z := by
    unfold vp_nar
    rw [(pm_narb hz).1]
  refine va_zast (D := E.1) hF.1 hF.2.1 hF.2.2.2.2.2.2.2.1 hR.1 hR.2.1 hS a 1 (n := n) (f := fun j => Int32.ofInt (h a j)) (pm_wl_at (g := (S, F, h)) hc) rfl e1 hd (fun H1 locs1 hP1 hD1 hS1 => ?_)
  rw [e2, hn, pm_upd hi.1] at hP1 hD1
  refine kk E p l e R s m args below meth c H1 locs1 cells slots Qf L hF h1 h2 h3 h4 (pm_put hc ?_ (fun j => ?_) hR.2.2 hP1 hD1) hS1 hL hq
  · show Sum.inl (E.2.1 1, n, Sum.inl (fun j : Nat => Int32.ofInt (rup h a (fup (h a) i z) a j))) = _
    rw [rup_s]
    rfl
  · by_cases hj : j = i
    · subst hj
      rw [fup_s]
      exact ⟨fun _ => by omega, by omega⟩
    · rw [fup_n hj]
      exact hR.2.2 a _ hc j
theorem R_last {a n : Nat} {i z : Int} (hd : decode M.2.1 pc = .ok (.lastore, 1)) (kk : RR M d kc ks (pc + 1) ls st (S, F, rup h a (fup (h a) i z)) Q) (hc : S[a]? = some (102, n) := by first | assumption | rfl) (hi : 0 ≤ i ∧ i < n := by omega) (hr : r32 i := by omega) (hz : r64 z := by first | assumption | omega) : RR M d kc ks pc ls (pL z :: pI i :: pR a :: st) (S, F, h) Q := by
  intro E p l e R s m args below meth c H locs cells slots Qf L hF h1 h2 h3 h4 hR hS hL hq
  obtain ⟨e1, e2⟩ := pm_inb hi hr
  refine va_last (D := E.1) hF.1 hF.2.1 hF.2.2.2.2.2.2.2.1 hR.1 hR.2.1 hS a 2 (n := n) (f := fun j => Int64.ofInt (h a j)) (pm_wl_at (g := (S, F, h)) hc) rfl e1 hd (fun H1 locs1 hP1 hD1 hS1 => ?_)
  rw [e2, pm_updL hi.1] at hP1 hD1
  refine kk E p l e R s m args below meth c H1 locs1 cells slots Qf L hF h1 h2 h3 h4 (pm_put hc ?_ (fun j => ?_) hR.2.2 hP1 hD1) hS1 hL hq
  · show Sum.inl (E.2.1 2, n, Sum.inr (Sum.inl (fun j : Nat => Int64.ofInt (rup h a (fup (h a) i z) a j)))) = _
    rw [rup_s]
  · by_cases hj : j = i
    · subst hj
      rw [fup_s]
      exact ⟨fun q => absurd rfl q, hz⟩
    · rw [fup_n hj]
      exact hR.2.2 a _ hc j
end PMH
