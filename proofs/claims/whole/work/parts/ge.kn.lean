/-! the constructors' rows: new objects -/
def pm_lt (n : Nat) (v : PV) : Prop := match v with
  | .inr (.inr (some a)) => a < n ∨ 1000 ≤ a
  | _ => True
theorem tv_ext {E E2 : PE} {n : Nat} (hx : pm_ext E E2 n) {v : PV} (hv : pm_lt n v) : tv E2 v = tv E v := by
  match v, hv with
  | .inl z, _ => rfl
  | .inr (.inl z), _ => rfl
  | .inr (.inr none), _ => rfl
  | .inr (.inr (some a)), hv => show Value.ref (E2.2.2.1 a) = Value.ref (E.2.2.1 a); rw [hx.2.2.2 a hv]
theorem pm_has_ext {E E2 : PE} {n k : Nat} {L : Array Slot} {ls : List PV} (hx : pm_ext E E2 n) (hls : ∀ v ∈ ls, pm_lt n v) (h : lv_has L k (pm_asc E ls)) : lv_has L k (pm_asc E2 ls) := ⟨h.1, h.2.1, fun q hq => by
  obtain ⟨i, x⟩ := q
  obtain ⟨v, hv, hu, rfl⟩ := pm_asc_mem.mp hq
  rw [tv_ext hx (hls v (List.mem_of_getElem? hv))]
  exact h.2.2 (i, tv E v) (pm_asc_mem.mpr ⟨v, hv, hu, rfl⟩)⟩
theorem pm_map_ext {E E2 : PE} {n : Nat} {st : List PV} (hx : pm_ext E E2 n) (hst : ∀ v ∈ st, pm_lt n v) : st.map (tv E2) = st.map (tv E) := List.map_congr_left (fun v hv => tv_ext hx (hst v hv))
theorem pm_St.ext {E : PE} {n q : Nat} {s : State} (hn : n < 1000) (h : pm_St E s) : pm_St (pE2 E n q) s := by
  have e1 : (fun i => (pE2 E n q).2.2.1 (1000 + i)) = (fun i => E.2.2.1 (1000 + i)) := funext (fun i => if_neg (by omega))
  have e2 : (fun i => (pE2 E n q).2.2.1 (1100 + i)) = (fun i => E.2.2.1 (1100 + i)) := funext (fun i => if_neg (by omega))
  have e3 : (pE2 E n q).2.2.1 1200 = E.2.2.1 1200 := if_neg (by omega)
  refine ⟨by rw [e1, e2]; exact h.1, fun i hi => by rw [show (pE2 E n q).2.2.1 (1000 + i) = E.2.2.1 (1000 + i) from congrFun e1 i]; exact h.2.1 i hi, h.2.2.1, ?_⟩
  rw [e3]
  exact h.2.2.2
theorem pm_Fr.ext {E : PE} {n q : Nat} {M : PMt} {p : Program} {s : State} {m : MethodId} {args : Array Value} {meth : Method} {c : Code} (hn : n < 1000) (h : pm_Fr E M p s m args meth c) : pm_Fr (pE2 E n q) M p s m args meth c :=
  ⟨h.1, h.2.1, h.2.2.1, h.2.2.2.1, h.2.2.2.2.1, h.2.2.2.2.2.1, h.2.2.2.2.2.2.1, h.2.2.2.2.2.2.2.1, h.2.2.2.2.2.2.2.2.1, h.2.2.2.2.2.2.2.2.2.ext hn⟩
/-- the heap is in order, clear above its cells -/
def hpOK (S : List (Nat × Nat)) (F : Nat → Nat → Option Nat) (h : Nat → Int → Int) : Prop := S.length < 900 ∧ (∀ a k b, a < S.length → F a k = some b → b < S.length) ∧ (∀ a, S.length ≤ a → ∀ k, F a k = none) ∧ ∀ a, S.length ≤ a → ∀ i, h a i = 0
section KNW
variable {M : PMt} {d kc ks pc : Nat} {ls st : List PV} {Q : Option PV → PH → Prop} {S : List (Nat × Nat)} {F : Nat → Nat → Option Nat} {h : Nat → Int → Int}
theorem K_new {idx ci : Nat} (C : String) (T : u_T) (N : Nat) (q1 : pm_cl[ci]? = some (C, T, N)) (hd : decode M.2.1 pc = .ok (.new idx, 3)) (hk : pm_cok ci) (hl : ci < 50) (hcl : Cond.classLink M.1.cls idx C ∈ tblG) (hinst : Cond.instantiable C N ∈ tblG) (hini : Cond.initialized C ∈ tblG) (hdf : ∀ j, j < N → defaultValue (pm_ty ci j) = if pm_nu ci j then .int 0 else .null)
    (ho : hpOK S F h) (hls : ∀ v ∈ ls, pm_lt S.length v) (hst : ∀ v ∈ st, pm_lt S.length v) (kk : RK M d kc ks (pc + 3) ls (pR S.length :: st) (S ++ [(ci, 0)], F, h) Q) : RK M d (1 + kc) (N + ks) pc ls st (S, F, h) Q := by
  intro E p l e R s m args below meth c H locs cells slots Qf L hF h1 h2 h3 h4 hR hS hL hq hZ
  obtain ⟨o1, o2, o3, o4⟩ := ho
  obtain ⟨k1, k2, k3, k4⟩ := hk _ q1
  have k4 : N = pm_nf ci := k4
  refine va_new (D := E.1) (ci := ci) (C := C) (T := T) (N := N) (fs := (List.range (pm_nf ci)).map (pm_fv E (S, F, h) S.length ci)) hF.1 hF.2.1 hF.2.2.2.2.2.2.1 k1 (pm_ty ci) k2 hF.2.2.2.2.2.1 (hF.2.2.2.2.2.2.1 _ hcl) (hF.2.2.2.2.2.2.1 _ hinst) (hF.2.2.2.2.2.2.1 _ hini) hF.2.2.2.2.2.2.2.1 hR.1 hR.2.1 hS (fun q hq => Nat.le_trans hF.2.2.2.2.2.2.2.2.1 hq) q1 (fun j hj => ?_) (by omega) (by omega) hd (fun q H1 hP1 hD1 hS1 => ?_)
  · unfold vp_V
    rw [List.getD_eq_getElem?_getD, List.getElem?_map, List.getElem?_range (by omega), hdf j hj]
    show _ = pm_fv E (S, F, h) S.length ci j
    unfold pm_fv
    show _ = if pm_nu ci j then Value.int (Int32.ofInt (h S.length j)) else va_rf ((F S.length j).map E.2.2.1)
    rw [o3 _ (Nat.le_refl _), o4 _ (Nat.le_refl _)]
    rfl
  · have ec : pm_ce E (S, F, h) S.length (ci, 0) = .inr (ci, (List.range (pm_nf ci)).map (pm_fv E (S, F, h) S.length ci)) := by unfold pm_ce; rw [if_pos hl]
    rw [← ec] at hP1 hD1
    have hx : pm_ext E (pE2 E S.length q) S.length := pE2_ext (by omega)
    have hRel := pm_grow o2 (o3 _ (Nat.le_refl _)) (o4 _ (Nat.le_refl _)) hR.2.2 hP1 hD1
    have ht : (pR S.length :: st).map (tv (pE2 E S.length q)) = .ref q :: st.map (tv E) := by
      rw [List.map_cons, pm_map_ext hx hst]
      show Value.ref (if S.length = S.length then q else E.2.2.1 S.length) :: _ = _
      rw [if_pos rfl]
    have hq2 : KQ M (pE2 E S.length q) (S ++ [(ci, 0)]).length p l e R s m args below meth c (cells + 1 + kc) (slots + N + ks) Qf Q := by
      rw [show cells + 1 + kc = cells + (1 + kc) by omega, show slots + N + ks = slots + (N + ks) by omega]
      exact hq.ext hx (by rw [List.length_append]; exact Nat.le_add_right _ _)
    have K := kk (pE2 E S.length q) p l e R s m args below meth c H1 locs (cells + 1) (slots + N) Qf L (hF.ext (by omega)) h1 h2 (by omega) (by omega) hRel hS1 (pm_has_ext hx hls hL) hq2 hZ
    rw [ht] at K
    exact K
end KNW
