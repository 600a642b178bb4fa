/-! the constructors' rows: Object's constructor, references into fields -/
def fset (F : Nat → Nat → Option Nat) (a k b : Nat) : Nat → Nat → Option Nat := fun a' k' => if a' = a ∧ k' = k then some b else F a' k'
section KOB
variable {M : PMt} {d kc ks pc : Nat} {ls st : List PV} {Q : Option PV → PH → Prop} {g : PH} {S : List (Nat × Nat)} {F : Nat → Nat → Option Nat} {h : Nat → Int → Int}
theorem K_obj {idx a : Nat} (hd : decode M.2.1 pc = .ok (.invokespecial idx, 3)) (hlk : Cond.methodLink M.1.cls idx Lib.objectInit ∈ tblG) (hin : Cond.instanceMethod Lib.objectInit ∈ tblG) (hco : Cond.code Lib.objectInit ⟨#[0xb1]⟩ 1 none ∈ tblG) (hd1 : 1 ≤ d) (hcat : pm_cat st ≤ 8) (kk : RK M d kc ks (pc + 3) ls st g Q) : RK M d kc ks pc ls (pR a :: st) g Q := by
  intro E p l e R s m args below meth c H locs cells slots Qf L hF h1 h2 h3 h4 hR hS hL hq hZ
  refine W.objInit hF.1 hF.2.1 hF.2.2.2.2.2.1 (hF.2.2.2.2.2.2.1 _ hlk) (hF.2.2.2.2.2.2.1 _ hin) (hF.2.2.2.2.2.2.1 _ hco) (g := F0 m pc L ((pR a :: st).map (tv E))) rfl (hL.1.trans hF.2.2.1.symm) (a := E.2.2.1 a) (rest := st.map (tv E)) rfl hd (by omega) ?_ (kk E p l e R s m args below meth c H locs cells slots Qf L hF h1 h2 h3 h4 hR hS hL hq hZ)
  have q : 2 * (F0 m pc L ((pR a :: st).map (tv E))).monitorRoom + ((st.map (tv E)).map fun v => v.category).sum ≤ 8 := lv_room (by rw [pm_cat_eq]; exact hcat)
  omega
end KOB
section KPR
variable {M : PMt} {d kc ks pc : Nat} {ls st : List PV} {Q : Option PV → PH → Prop} {S : List (Nat × Nat)} {F : Nat → Nat → Option Nat} {h : Nat → Int → Int}
theorem pm_putr {E : PE} {a ci n k b : Nat} {H1 : Heap} (hc : S[a]? = some (ci, n)) (hl : ci < 50) (hn : pm_nu ci k = false) (hz : pm_nz (S, F, h))
    (hP : va_P E.1 pm_cl ((pm_wl E (S, F, h)).set a (E.2.2.1 a, .inr (ci, ((List.range (pm_nf ci)).map (pm_fv E (S, F, h) a ci)).set k (.ref (E.2.2.1 b))))) H1) (hD : va_D (pm_A E) ((pm_wl E (S, F, h)).set a (E.2.2.1 a, .inr (ci, ((List.range (pm_nf ci)).map (pm_fv E (S, F, h) a ci)).set k (.ref (E.2.2.1 b)))))) : pm_Rel E (S, fset F a k b, h) H1 := by
  have ev : Value.ref (E.2.2.1 b) = pm_fv E (S, fset F a k b, h) a ci k := by
    unfold pm_fv
    rw [if_neg (by rw [hn]; decide)]
    show _ = va_rf ((if a = a ∧ k = k then some b else F a k).map E.2.2.1)
    rw [if_pos ⟨rfl, rfl⟩]
    rfl
  have ef : ((List.range (pm_nf ci)).map (pm_fv E (S, F, h) a ci)).set k (.ref (E.2.2.1 b)) = (List.range (pm_nf ci)).map (pm_fv E (S, fset F a k b, h) a ci) := by
    rw [ev]
    refine pm_set (F := pm_fv E (S, F, h) a ci) (fun j _ hj => ?_)
    unfold pm_fv
    show (if pm_nu ci j then _ else va_rf ((if a = a ∧ j = k then some b else F a j).map E.2.2.1)) = _
    rw [if_neg (show ¬ (a = a ∧ j = k) by omega)]
  have e : (pm_wl E (S, F, h)).set a (E.2.2.1 a, .inr (ci, ((List.range (pm_nf ci)).map (pm_fv E (S, F, h) a ci)).set k (.ref (E.2.2.1 b)))) = pm_wl E (S, fset F a k b, h) := by
    have e1 : (E.2.2.1 a, (.inr (ci, ((List.range (pm_nf ci)).map (pm_fv E (S, F, h) a ci)).set k (.ref (E.2.2.1 b))) : va_E)) = pm_w E (S, fset F a k b, h) a := by
      unfold pm_w
      show _ = (E.2.2.1 a, pm_ce E (S, fset F a k b, h) a (S.getD a (100, 0)))
      rw [List.getD_eq_getElem?_getD, hc]
      show _ = (E.2.2.1 a, pm_ce E (S, fset F a k b, h) a (ci, n))
      unfold pm_ce
      rw [if_pos hl, ef]
    rw [e1]
    refine pm_set (F := pm_w E (S, F, h)) (fun j _ hj => ?_)
    unfold pm_w
    rw [pm_ce_eq (g := (S, F, h)) (g' := (S, fset F a k b, h)) (funext fun i => if_neg (by omega)) rfl]
  rw [e] at hP hD
  exact ⟨hP, hD, hz⟩
theorem K_putr {a b idx ci k n : Nat} (hd : decode M.2.1 pc = .ok (.putfield idx, 3)) (hf : pm_fl M.1.cls idx ci k) (hk : pm_cok ci) (hl : ci < 50) (hn : pm_nu ci k = false) (hfit : ∀ v : Nat, narrow (pm_ty ci k) (.ref v) = .ref v ∧ fits (pm_ty ci k) (.ref v) = true) (hfin : ∀ q : vw_C, pm_cl[ci]? = some q → (q.2.1 k).2.2.2 = false) (kk : RK M d kc ks (pc + 3) ls st (S, fset F a k b, h) Q) (hc : S[a]? = some (ci, n) := by first | assumption | rfl) : RK M d kc ks pc ls (pR b :: pR a :: st) (S, F, h) Q := by
  intro E p l e R s m args below meth c H locs cells slots Qf L hF h1 h2 h3 h4 hR hS hL hq hZ
  obtain ⟨q, q1, q2, q3⟩ := hf
  obtain ⟨k1, k2, k3, k4⟩ := hk q q1
  refine va_put (D := E.1) (ci := ci) (C := q.1) (T := q.2.1) (N := q.2.2) (v := .ref (E.2.2.1 b)) (ty := pm_ty ci k) hF.1 hF.2.1 hF.2.2.2.2.2.2.1 k1 (pm_ty ci) k2 k3 hF.2.2.2.2.2.1 hF.2.2.2.2.2.2.2.1 hR.1 hR.2.1 hS a (fs := (List.range (pm_nf ci)).map (pm_fv E (S, F, h) a ci)) ?_ q1 k q2 (hF.2.2.2.2.2.2.1 _ q3) (fun _ x => x) (hfin q q1) (k2 k q2) (hfit _).1 (hfit _).2 (by rw [List.length_map, List.length_range, ← k4]; exact q2) hd (fun H1 locs1 hP1 hD1 hS1 => ?_)
  · rw [pm_wl_at (g := (S, F, h)) hc]
    unfold pm_ce
    rw [if_pos hl]
  · exact kk E p l e R s m args below meth c H1 locs1 cells slots Qf L hF h1 h2 h3 h4 (pm_putr hc hl hn hR.2.2 hP1 hD1) hS1 hL hq hZ
theorem K_putrF {a b idx ci k n : Nat} (hd : decode M.2.1 pc = .ok (.putfield idx, 3)) (hf : pm_fl M.1.cls idx ci k) (hk : pm_cok ci) (hl : ci < 50) (hn : pm_nu ci k = false) (hfit : ∀ v : Nat, narrow (pm_ty ci k) (.ref v) = .ref v ∧ fits (pm_ty ci k) (.ref v) = true) (hfin : ∀ q : vw_C, pm_cl[ci]? = some q → (q.2.1 k).2.2.2 = true ∧ (q.2.1 k).1 = M.1.cls) (hnm : M.1.name = "<init>") (kk : RK M d kc ks (pc + 3) ls st (S, fset F a k b, h) Q) (hc : S[a]? = some (ci, n) := by first | assumption | rfl) : RK M d kc ks pc ls (pR b :: pR a :: st) (S, F, h) Q := by
  intro E p l e R s m args below meth c H locs cells slots Qf L hF h1 h2 h3 h4 hR hS hL hq hZ
  obtain ⟨q, q1, q2, q3⟩ := hf
  obtain ⟨k1, k2, k3, k4⟩ := hk q q1
  refine va_putF (D := E.1) (ci := ci) (C := q.1) (T := q.2.1) (N := q.2.2) (v := .ref (E.2.2.1 b)) (ty := pm_ty ci k) hF.1 hF.2.1 hF.2.2.2.2.2.2.1 k1 (pm_ty ci) k2 k3 hF.2.2.2.2.2.1 hF.2.2.2.2.2.2.2.1 hR.1 hR.2.1 hS a (fs := (List.range (pm_nf ci)).map (pm_fv E (S, F, h) a ci)) ?_ q1 k q2 (hF.2.2.2.2.2.2.1 _ q3) (fun _ x => x) (hfin q q1).1 (hZ.2 hnm) (hfin q q1).2 (k2 k q2) (hfit _).1 (hfit _).2 (by rw [List.length_map, List.length_range, ← k4]; exact q2) hd (fun H1 locs1 hP1 hD1 hS1 => ?_)
  · rw [pm_wl_at (g := (S, F, h)) hc]
    unfold pm_ce
    rw [if_pos hl]
  · exact kk E p l e R s m args below meth c H1 locs1 cells slots Qf L hF h1 h2 h3 h4 (pm_putr hc hl hn hR.2.2 hP1 hD1) hS1 hL hq hZ
theorem K_aast {a b n n2 : Nat} {i : Int} (hd : decode M.2.1 pc = .ok (.aastore, 1)) (ha : S[a]? = some (103, n)) (hb : S[b]? = some (9, n2)) (hi : 0 ≤ i ∧ i < n) (hr : r32 i) (kk : RK M d kc ks (pc + 1) ls st (S, fset F a i.toNat b, h) Q) : RK M d kc ks pc ls (pR b :: pI i :: pR a :: st) (S, F, h) Q := by
  intro E p l e R s m args below meth c H locs cells slots Qf L hF h1 h2 h3 h4 hR hS hL hq hZ
  obtain ⟨e1, e2⟩ := pm_inb hi hr
  refine va_astq (D := E.1) hF.1 hF.2.1 hF.2.2.2.2.2.2.2.1 hR.1 hR.2.1 hS a 3 b 9 (r := (RX9, TX9, 8)) (n := n) (f := fun j => (F a j).map E.2.2.1) (pm_wl_at (g := (S, F, h)) ha) rfl (pm_wl_at (g := (S, F, h)) hb) rfl e1 hd (fun H1 locs1 hP1 hD1 hS1 => ?_)
  rw [e2] at hP1 hD1
  have ef : va_up (fun j => (F a j).map E.2.2.1) i.toNat (some (E.2.2.1 b)) = fun j => (fset F a i.toNat b a j).map E.2.2.1 := by
    funext j
    unfold va_up fset
    by_cases hj : j = i.toNat
    · rw [if_pos hj, if_pos ⟨rfl, hj⟩]
      rfl
    · rw [if_neg hj, if_neg (fun z => hj z.2)]
  have e3 : (E.2.2.1 a, (.inl (E.2.1 3, n, .inr (.inr (.inr (.inr (va_up (fun j => (F a j).map E.2.2.1) i.toNat (some (E.2.2.1 b))))))) : va_E)) = pm_w E (S, fset F a i.toNat b, h) a := by
    unfold pm_w
    show _ = (E.2.2.1 a, pm_ce E (S, fset F a i.toNat b, h) a (S.getD a (100, 0)))
    rw [List.getD_eq_getElem?_getD, ha, ef]
    rfl
  have e4 : (pm_wl E (S, F, h)).set a (E.2.2.1 a, .inl (E.2.1 3, n, .inr (.inr (.inr (.inr (va_up (fun j => (F a j).map E.2.2.1) i.toNat (some (E.2.2.1 b)))))))) = pm_wl E (S, fset F a i.toNat b, h) := by
    rw [e3]
    refine pm_set (F := pm_w E (S, F, h)) (fun j _ hj => ?_)
    unfold pm_w
    rw [pm_ce_eq (g := (S, F, h)) (g' := (S, fset F a i.toNat b, h)) (funext fun i => if_neg (by omega)) rfl]
  rw [e4] at hP1 hD1
  exact kk E p l e R s m args below meth c H1 locs1 cells slots Qf L hF h1 h2 h3 h4 ⟨hP1, hD1, hR.2.2⟩ hS1 hL hq hZ
end KPR
