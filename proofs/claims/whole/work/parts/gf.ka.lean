/-! the constructors' rows: new arrays of numbers -/
theorem pm_cA {E : PE} {s : State} {cA : ClassId} {ty : FieldType} {i : Nat} (hK : va_K E.1 pm_cl (pm_tys E) s) (hK2 : va_K E.1 pm_cl (pm_tys E ++ [(cA, ty)]) s) (hi : (pm_tys E)[i]? = some (E.2.1 i, ty)) (hty : ty = .int ∨ ty = .boolean ∨ ty = .long) : cA = E.2.1 i := by
  have a1 := hK.2 i _ hi
  have a2 := hK2.2 4 (cA, ty) rfl
  rcases hty with rfl | rfl | rfl
  · exact Option.some.inj (a2.2.symm.trans a1.2)
  · exact Option.some.inj (a2.2.symm.trans a1.2)
  · exact Option.some.inj (a2.2.symm.trans a1.2)
section KNA
variable {M : PMt} {d kc ks pc : Nat} {ls st : List PV} {Q : Option PV → PH → Prop} {S : List (Nat × Nat)} {F : Nat → Nat → Option Nat} {h : Nat → Int → Int}
theorem K_grown {E : PE} {p : Program} {l : Launch} {e : Env} {R : Room} {s : State} {m : MethodId} {args : Array Value} {below : List Frame} {meth : Method} {c : Code} {H H1 : Heap} {locs : List Loc} {cells slots N len q : Nat} {Qf : State → Prop} {L : Array Slot} {x : Nat × Nat} (kk : RK M d kc ks (pc + len) ls (pR S.length :: st) (S ++ [x], F, h) Q) (ho : hpOK S F h) (hls : ∀ v ∈ ls, pm_lt S.length v) (hst : ∀ v ∈ st, pm_lt S.length v)
    (hF : pm_Fr E M p s m args meth c) (h1 : d ≤ R.frames) (h2 : 64 * d ≤ R.locals) (h3 : cells + (1 + kc) ≤ R.cells) (h4 : slots + (N + ks) ≤ R.slots) (hR : pm_Rel E (S, F, h) H) (hL : lv_has L M.2.2.1 (pm_asc E ls))
    (hq : KQ M E S.length p l e R s m args below meth c (cells + (1 + kc)) (slots + (N + ks)) Qf Q) (hZ : pm_cz M s meth)
    (hP1 : va_P E.1 pm_cl (pm_wl E (S, F, h) ++ [(q, pm_ce E (S, F, h) S.length x)]) H1) (hD1 : va_D (pm_A E) (pm_wl E (S, F, h) ++ [(q, pm_ce E (S, F, h) S.length x)])) (hS1 : va_S (pm_A E) s.heap H1 locs) : W p l e R s m args below meth c H1 locs (cells + 1) (slots + N) Qf (F0 m (pc + len) L (.ref q :: st.map (tv E))) := by
  obtain ⟨o1, o2, o3, o4⟩ := ho
  have hx : pm_ext E (pE2 E S.length q) S.length := pE2_ext (by omega)
  have hRel := pm_grow o2 (o3 _ (Nat.le_refl _)) (o4 _ (Nat.le_refl _)) hR.2.2 hP1 hD1
  have ht : (pR S.length :: st).map (tv (pE2 E S.length q)) = .ref q :: st.map (tv E) := by
    rw [List.map_cons, pm_map_ext hx hst]
    show Value.ref (if S.length = S.length then q else E.2.2.1 S.length) :: _ = _
    rw [if_pos rfl]
  have hq2 : KQ M (pE2 E S.length q) (S ++ [x]).length p l e R s m args below meth c (cells + 1 + kc) (slots + N + ks) Qf Q := by
    rw [show cells + 1 + kc = cells + (1 + kc) by omega, show slots + N + ks = slots + (N + ks) by omega]
    exact hq.ext hx (by rw [List.length_append]; exact Nat.le_add_right _ _)
  have K := kk (pE2 E S.length q) p l e R s m args below meth c H1 locs (cells + 1) (slots + N) Qf L (hF.ext (by omega)) h1 h2 (by omega) (by omega) hRel hS1 (pm_has_ext hx hls hL) hq2 hZ
  rw [ht] at K
  exact K
theorem K_newi {N : Nat} {z : Int} (hz : z = (N : Int)) (hN : N < 1000) (hd : decode M.2.1 pc = .ok (.newarray .int, 2)) (hac : Cond.arrayClass .int ∈ tblG) (ho : hpOK S F h) (hls : ∀ v ∈ ls, pm_lt S.length v) (hst : ∀ v ∈ st, pm_lt S.length v) (kk : RK M d kc ks (pc + 2) ls (pR S.length :: st) (S ++ [(100, N)], F, h) Q) : RK M d (1 + kc) (N + ks) pc ls (pI z :: st) (S, F, h) Q := by
  intro E p l e R s m args below meth c H locs cells slots Qf L hF h1 h2 h3 h4 hR hS hL hq hZ
  subst hz
  have hr : r32 (N : Int) := by omega
  refine va_newa (D := E.1) (atype := .int) (ty := .int) (a0 := (N, .inl (fun j => Int32.ofInt (h S.length j)))) (N' := N) hF.1 hF.2.1 (hF.2.2.2.2.2.2.1 _ hac) rfl hF.2.2.2.2.2.2.2.1 hR.1 hR.2.1 hS (fun q hq => Nat.le_trans hF.2.2.2.2.2.2.2.2.1 hq) (fun cA => ?_) (by rw [i_0, i_lt hr (by decide)]; omega) (by show (Int32.ofInt (N : Int)).toInt.toNat = N; rw [r32_i hr]; omega) (by show N * 4 ≤ 536870912; omega) (by omega) (by omega) hd (fun q cA H1 hK1 hP1 hD1 hS1 => ?_)
  · show arrV cA N (fun j => .int (Int32.ofInt (h S.length j))) = arrV cA N (fun _ => .int 0)
    congr 1
    funext j
    rw [ho.2.2.2 _ (Nat.le_refl _)]
    rfl
  · obtain rfl := pm_cA (i := 0) hF.2.2.2.2.2.2.2.1 hK1 rfl (Or.inl rfl)
    exact K_grown kk ho hls hst hF h1 h2 h3 h4 hR hL hq hZ hP1 hD1 hS1
theorem K_newz {N : Nat} {z : Int} (hz : z = (N : Int)) (hN : N < 1000) (hd : decode M.2.1 pc = .ok (.newarray .boolean, 2)) (hac : Cond.arrayClass .boolean ∈ tblG) (ho : hpOK S F h) (hls : ∀ v ∈ ls, pm_lt S.length v) (hst : ∀ v ∈ st, pm_lt S.length v) (kk : RK M d kc ks (pc + 2) ls (pR S.length :: st) (S ++ [(101, N)], F, h) Q) : RK M d (1 + kc) (N + ks) pc ls (pI z :: st) (S, F, h) Q := by
  intro E p l e R s m args below meth c H locs cells slots Qf L hF h1 h2 h3 h4 hR hS hL hq hZ
  subst hz
  have hr : r32 (N : Int) := by omega
  refine va_newa (D := E.1) (atype := .boolean) (ty := .boolean) (a0 := (N, .inl (fun j => Int32.ofInt (h S.length j)))) (N' := N) hF.1 hF.2.1 (hF.2.2.2.2.2.2.1 _ hac) rfl hF.2.2.2.2.2.2.2.1 hR.1 hR.2.1 hS (fun q hq => Nat.le_trans hF.2.2.2.2.2.2.2.2.1 hq) (fun cA => ?_) (by rw [i_0, i_lt hr (by decide)]; omega) (by show (Int32.ofInt (N : Int)).toInt.toNat = N; rw [r32_i hr]; omega) (by show N * 1 ≤ 536870912; omega) (by omega) (by omega) hd (fun q cA H1 hK1 hP1 hD1 hS1 => ?_)
  · show arrV cA N (fun j => .int (Int32.ofInt (h S.length j))) = arrV cA N (fun _ => .int 0)
    congr 1
    funext j
    rw [ho.2.2.2 _ (Nat.le_refl _)]
    rfl
  · obtain rfl := pm_cA (i := 1) hF.2.2.2.2.2.2.2.1 hK1 rfl (Or.inr (Or.inl rfl))
    exact K_grown kk ho hls hst hF h1 h2 h3 h4 hR hL hq hZ hP1 hD1 hS1
theorem K_newl {N : Nat} {z : Int} (hz : z = (N : Int)) (hN : N < 1000) (hd : decode M.2.1 pc = .ok (.newarray .long, 2)) (hac : Cond.arrayClass .long ∈ tblG) (ho : hpOK S F h) (hls : ∀ v ∈ ls, pm_lt S.length v) (hst : ∀ v ∈ st, pm_lt S.length v) (kk : RK M d kc ks (pc + 2) ls (pR S.length :: st) (S ++ [(102, N)], F, h) Q) : RK M d (1 + kc) (N + ks) pc ls (pI z :: st) (S, F, h) Q := by
  intro E p l e R s m args below meth c H locs cells slots Qf L hF h1 h2 h3 h4 hR hS hL hq hZ
  subst hz
  have hr : r32 (N : Int) := by omega
  refine va_newa (D := E.1) (atype := .long) (ty := .long) (a0 := (N, .inr (.inl (fun j => Int64.ofInt (h S.length j))))) (N' := N) hF.1 hF.2.1 (hF.2.2.2.2.2.2.1 _ hac) rfl hF.2.2.2.2.2.2.2.1 hR.1 hR.2.1 hS (fun q hq => Nat.le_trans hF.2.2.2.2.2.2.2.2.1 hq) (fun cA => ?_) (by rw [i_0, i_lt hr (by decide)]; omega) (by show (Int32.ofInt (N : Int)).toInt.toNat = N; rw [r32_i hr]; omega) (by show N * 8 ≤ 536870912; omega) (by omega) (by omega) hd (fun q cA H1 hK1 hP1 hD1 hS1 => ?_)
  · show arrV cA N (fun j => .long (Int64.ofInt (h S.length j))) = arrV cA N (fun _ => .long 0)
    congr 1
    funext j
    rw [ho.2.2.2 _ (Nat.le_refl _)]
    rfl
  · obtain rfl := pm_cA (i := 2) hF.2.2.2.2.2.2.2.1 hK1 rfl (Or.inr (Or.inr rfl))
    exact K_grown kk ho hls hst hF h1 h2 h3 h4 hR hL hq hZ hP1 hD1 hS1
theorem K_newt {N idx : Nat} {z : Int} (hz : z = (N : Int)) (hN : N < 1000) (hd : decode M.2.1 pc = .ok (.anewarray idx, 3)) (hcl : Cond.classLink M.1.cls idx "CoachesVote$Train" ∈ tblG) (ho : hpOK S F h) (hls : ∀ v ∈ ls, pm_lt S.length v) (hst : ∀ v ∈ st, pm_lt S.length v) (kk : RK M d kc ks (pc + 3) ls (pR S.length :: st) (S ++ [(103, N)], F, h) Q) : RK M d (1 + kc) (N + ks) pc ls (pI z :: st) (S, F, h) Q := by
  intro E p l e R s m args below meth c H locs cells slots Qf L hF h1 h2 h3 h4 hR hS hL hq hZ
  subst hz
  have hr : r32 (N : Int) := by omega
  refine va_newq (D := E.1) (N' := N) hF.1 hF.2.1 hF.2.2.2.2.2.1 (hF.2.2.2.2.2.2.1 _ hcl) hZ.1.1 hF.2.2.2.2.2.2.2.1 hR.1 hR.2.1 hS (fun q hq => Nat.le_trans hF.2.2.2.2.2.2.2.2.1 hq) (by rw [i_0, i_lt hr (by decide)]; omega) (by show (Int32.ofInt (N : Int)).toInt.toNat = N; rw [r32_i hr]; omega) (by omega) (by omega) (by omega) hd (fun q cA H1 hK1 hP1 hD1 hS1 => ?_)
  have a1 := hF.2.2.2.2.2.2.2.1.2 3 _ rfl
  have a2 := hK1.2 4 (cA, .object "CoachesVote$Train") rfl
  obtain ⟨_, _, _, _, _, b1⟩ := a1.2
  obtain ⟨_, _, _, _, _, b2⟩ := a2.2
  obtain rfl : cA = E.2.1 3 := Option.some.inj (b2.symm.trans b1)
  have ec : pm_ce E (S, F, h) S.length (103, N) = .inl (E.2.1 3, N, .inr (.inr (.inr (.inr (fun _ => none))))) := by
    show Sum.inl (E.2.1 3, N, Sum.inr (Sum.inr (Sum.inr (Sum.inr (fun j => (F S.length j).map E.2.2.1))))) = _
    rw [show (fun j => (F S.length j).map E.2.2.1) = fun _ => none from funext fun j => by rw [ho.2.2.1 _ (Nat.le_refl _)]; rfl]
  rw [← ec] at hP1 hD1
  exact K_grown kk ho hls hst hF h1 h2 h3 h4 hR hL hq hZ hP1 hD1 hS1
end KNA
