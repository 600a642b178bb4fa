def pm_sl (As : List PV) : List PV := As.flatMap (fun v => match v with
  | .inr (.inl z) => [pL z, pU]
  | v => [v])
def pm_ent (As : List PV) (n : Nat) : List PV := pm_sl As ++ List.replicate (n - (pm_sl As).length) pU
def pm_c1 (v : PV) : Nat := match v with
  | .inr (.inl _) => 2
  | _ => 1
def pm_cat : List PV → Nat
  | [] => 0
  | v :: st => pm_c1 v + pm_cat st
theorem pm_c1_eq (E : PE) (v : PV) : (tv E v).category = pm_c1 v := by
  match v with
  | .inl z => rfl
  | .inr (.inl z) => rfl
  | .inr (.inr (some a)) => rfl
  | .inr (.inr none) => rfl
theorem pm_cat_eq (E : PE) (st : List PV) : ((st.map (tv E)).map fun v => v.category).sum = pm_cat st := by
  induction st with
  | nil => rfl
  | cons v st ih =>
    simp only [List.map_cons, List.sum_cons]
    rw [ih, pm_c1_eq]
    rfl
theorem pm_sl_args (E : PE) : ∀ (As : List PV) (b i : Nat) (v : PV), (pm_sl As)[i]? = some v → v ≠ pU → (b + i, tv E v) ∈ lv_args b (As.map (tv E)) := by
  intro As
  induction As with
  | nil => intro b i v h; simp [pm_sl] at h
  | cons w As ih =>
    intro b i v h hu
    match w, h with
    | .inl z, h =>
      have h : (pI z :: pm_sl As)[i]? = some v := h
      show _ ∈ (b, _) :: lv_args (b + 1) _
      cases i with
      | zero => cases h; exact List.mem_cons_self
      | succ i =>
        have := ih (b + 1) i v h hu
        rw [show b + (i + 1) = b + 1 + i by omega]
        exact List.mem_cons_of_mem _ this
    | .inr (.inl z), h =>
      have h : (pL z :: pU :: pm_sl As)[i]? = some v := h
      show _ ∈ (b, _) :: lv_args (b + 2) _
      match i, h with
      | 0, h => cases h; exact List.mem_cons_self
      | 1, h => cases h; exact absurd rfl hu
      | i + 2, h =>
        have := ih (b + 2) i v h hu
        rw [show b + (i + 2) = b + 2 + i by omega]
        exact List.mem_cons_of_mem _ this
    | .inr (.inr none), h =>
      have h : (pU :: pm_sl As)[i]? = some v := h
      show _ ∈ (b, _) :: lv_args (b + 1) _
      cases i with
      | zero => cases h; exact List.mem_cons_self
      | succ i =>
        have := ih (b + 1) i v h hu
        rw [show b + (i + 1) = b + 1 + i by omega]
        exact List.mem_cons_of_mem _ this
    | .inr (.inr (some a)), h =>
      have h : (pR a :: pm_sl As)[i]? = some v := h
      show _ ∈ (b, _) :: lv_args (b + 1) _
      cases i with
      | zero => cases h; exact List.mem_cons_self
      | succ i =>
        have := ih (b + 1) i v h hu
        rw [show b + (i + 1) = b + 1 + i by omega]
        exact List.mem_cons_of_mem _ this
theorem pm_sl_len (E : PE) (As : List PV) : (lg_sl (As.map (tv E))).length = (pm_sl As).length := by
  induction As with
  | nil => rfl
  | cons w As ih =>
    have e : (lg_sl ((w :: As).map (tv E))).length = (if (tv E w).category = 2 then 2 else 1) + (lg_sl (As.map (tv E))).length := by
      simp only [lg_sl, List.map_cons, List.flatMap_cons, List.length_append]
      by_cases h : (tv E w).category = 2 <;> simp [h]
    rw [e, ih]
    match w with
    | .inl z => show 1 + _ = (pI z :: pm_sl As).length; rw [List.length_cons]; omega
    | .inr (.inl z) => show 2 + _ = (pL z :: pU :: pm_sl As).length; rw [List.length_cons, List.length_cons]; omega
    | .inr (.inr none) => show 1 + _ = (pU :: pm_sl As).length; rw [List.length_cons]; omega
    | .inr (.inr (some a)) => show 1 + _ = (pR a :: pm_sl As).length; rw [List.length_cons]; omega
theorem pm_entry (E : PE) (As : List PV) {n : Nat} (h : (pm_sl As).length ≤ n) : lv_has ((lg_sl (As.map (tv E)) ++ List.replicate (n - (lg_sl (As.map (tv E))).length) Slot.unset).toArray) n (pm_asc E (pm_ent As n)) := by
  have h0 := lv_entry (As.map (tv E)) (n := n) (by rw [pm_sl_len]; exact h)
  refine ⟨h0.1, h0.2.1, fun q hq => ?_⟩
  obtain ⟨i, x⟩ := q
  obtain ⟨v, hv, hu, rfl⟩ := pm_asc_mem.mp hq
  refine h0.2.2 (i, tv E v) ?_
  have hv2 : (pm_sl As)[i]? = some v := by
    unfold pm_ent at hv
    by_cases hi : i < (pm_sl As).length
    · rw [List.getElem?_append_left hi] at hv
      exact hv
    · rw [List.getElem?_append_right (by omega), List.getElem?_replicate] at hv
      split at hv
      · cases hv; exact absurd rfl hu
      · cases hv
  have := pm_sl_args E As 0 i v hv2 hu
  rw [Nat.zero_add] at this
  exact this
theorem pm_nary {z : Int} (h : z = 0) : narrow .byte (.int (Int32.ofInt z)) = .int (Int32.ofInt z) := by
  subst h; decide +kernel
theorem pm_narn : ∀ n : Fin 256, narrow .char (.int (Int32.ofInt ((n.val : Nat) : Int))) = .int (Int32.ofInt ((n.val : Nat) : Int)) := by decide +kernel
theorem pm_narc {z : Int} (h : 0 ≤ z ∧ z ≤ 255) : narrow .char (.int (Int32.ofInt z)) = .int (Int32.ofInt z) := by
  have := pm_narn ⟨z.toNat, by omega⟩
  rw [show ((z.toNat : Nat) : Int) = z by omega] at this
  exact this
def pm_Pc (E : PE) (g : PH) (As : List PV) : Array Value → State → Prop := va_Pc (As.map (tv E)) (fun U => pm_Rel E g U.heap ∧ va_K E.1 pm_cl (pm_tys E) U ∧ E.2.2.2 ≤ U.heap.size ∧ pm_St E U)
def pm_Qc (E : PE) (ret : Option FieldType) (Q : Option PV → PH → Prop) : Array Value → State → Outcome → State → Prop := fun _ st oc t => ∃ (r : Option PV) (g' : PH), oc = .returned (r.map (tv E)) ∧ Q r g' ∧ pm_ok ret r ∧ pm_Rel E g' t.heap ∧ va_F (pm_A E) st t
theorem pm_blind (E : PE) (g : PH) (As : List PV) : FrameBlind (pm_Pc E g As) := fun a U f mk q => by
  obtain ⟨q0, qP, qK, qs, qt⟩ := q
  exact ⟨q0, qP, va_K.moved (u := U) (U := U.calling f mk a) (Vm.Alike.refl U.vm) qK, qs, vk_S.moved (u := U) (U := U.calling f mk a) (Vm.Alike.refl U.vm) qt.1, fun i hi => vk_R.same (u := U) (U := U.calling f mk a) rfl (qt.2.1 i hi), va_Z.moved (u := U) (U := U.calling f mk a) (Vm.Alike.refl U.vm) qt.2.2.1, qt.2.2.2.elim (fun z => Or.inl (va_Z.moved (u := U) (U := U.calling f mk a) (Vm.Alike.refl U.vm) z)) (fun z => Or.inr (va_Z.moved (u := U) (U := U.calling f mk a) (Vm.Alike.refl U.vm) z))⟩
def pm_rm (d kc ks : Nat) : Room := { frames := d, cells := kc, slots := ks, locals := 64 * d }
theorem pm_met {M : PMt} {d kc ks : Nat} {As : List PV} {g : PH} {Q : Option PV → PH → Prop} (hR : RR M d kc ks 0 (pm_ent As M.2.2.1) [] g Q) (hlen : (pm_sl As).length ≤ M.2.2.1) (hpl : plainName M.1.cls = true) (E : PE) (l : Launch) :
    Met l M.1 (Cond.code M.1 M.2.1 M.2.2.1 M.2.2.2 :: tblG) (pm_rm d kc ks) (pm_Pc E g As) (pm_Qc E M.2.2.2 Q) kc ks (pm_A E) := by
  obtain ⟨y, cc, maxL, ret⟩ := M
  refine Met.ofW (cc := cc) (maxL := maxL) (ret := ret) hpl rfl ?_
  intro p e s m args below meth c s₁ B hml hv
  obtain ⟨rfl, hRel, hK, hsz, hst⟩ := hv
  have hts := atoms_spec (ws := Cond.code y cc maxL ret :: tblG) B.pre
  have hown := findClass_of_methodNamed B.named
  have hlocks := B.notSynchronized
  have hx := B.exec
  have hb := B.bytes
  have hr := B.returns
  rw [lg_entry_eq]
  refine hR E p l e (pm_rm d kc ks) s m _ below meth c s.heap [] 0 0 _ _ ⟨hx, hb, hml, hr, hlocks, hown, fun w hw => hts w (List.mem_cons_of_mem _ hw), hK, hsz, hst⟩ (Nat.le_refl _) (Nat.le_refl _) (by show 0 + kc ≤ kc; omega) (by show 0 + ks ≤ ks; omega) hRel va_S.rf (pm_entry E As hlen) ?_
  intro r g' H' locs' pc' L' hQ hok hRel' hS' hd
  rw [Nat.zero_add, Nat.zero_add]
  have hq : ∀ t : State, t.heap = H' → s.WarmedH t.vm → pm_Qc E ret Q (As.map (tv E)).toArray s (.returned (r.map (tv E))) t := fun t ht hW => ⟨r, g', rfl, hQ, hok, by rw [ht]; exact hRel', hS'.F ht⟩
  match ret, r, hok with
  | none, none, _ => exact W.vret hx hb hr hq hS'.2.2 hd
  | some .int, some (.inl z), _ => exact W.iret (v := Int32.ofInt z) hx hb hr hq hS'.2.2 hd
  | some .boolean, some (.inl z), hz => exact W.zret (v := Int32.ofInt z) (ty := .boolean) hx hb hr (pm_narb hz).1 hq hS'.2.2 hd
  | some .byte, some (.inl z), hz => exact W.zret (v := Int32.ofInt z) (ty := .byte) hx hb hr (pm_nary hz) hq hS'.2.2 hd
  | some .char, some (.inl z), hz => exact W.zret (v := Int32.ofInt z) (ty := .char) hx hb hr (pm_narc hz) hq hS'.2.2 hd
  | some .long, some (.inr (.inl z)), _ => exact W.lret (v := Int64.ofInt z) hx hb hr hq hS'.2.2 hd
  | some (.object C), some (.inr (.inr (some a))), _ => exact W.aret (v := .ref (E.2.2.1 a)) hx hb hr (Or.inl ⟨C, rfl⟩) (Or.inr ⟨_, rfl⟩) hq hS'.2.2 hd
/-- a method that objects of number ci have, with n arguments; a static one -/
def pm_mv (M : PMt) (ci n : Nat) : Prop := plainName M.1.cls = true ∧ M.2.2.1 ≤ 45 ∧ (M.1.cls ≠ "java/lang/invoke/MethodHandle" ∧ M.1.cls ≠ "java/lang/invoke/VarHandle" ∧ (parseMethodDescriptor M.1.desc).map (fun d => d.parameters.length) = some n) ∧ Cond.code M.1 M.2.1 M.2.2.1 M.2.2.2 ∈ tblG ∧ Cond.instanceMethod M.1 ∈ tblG ∧ Cond.selects M.1.cls M.1 M.1 ∈ tblG ∧ Cond.initialized M.1.cls ∈ tblG ∧ ∃ q : vw_C, pm_cl[ci]? = some q ∧ q.1 = M.1.cls
def pm_ms (M : PMt) (n : Nat) : Prop := plainName M.1.cls = true ∧ M.2.2.1 ≤ 45 ∧ (M.1.cls ≠ "java/lang/invoke/MethodHandle" ∧ M.1.cls ≠ "java/lang/invoke/VarHandle" ∧ (parseMethodDescriptor M.1.desc).map (fun d => d.parameters.length) = some n) ∧ Cond.code M.1 M.2.1 M.2.2.1 M.2.2.2 ∈ tblG ∧ Cond.static M.1 ∈ tblG ∧ Cond.initialized M.1.cls ∈ tblG
section PMC
variable {M M2 : PMt} {d d2 kc ks kc2 ks2 pc idx : Nat} {ls st : List PV} {Q Q2 : Option PV → PH → Prop} {g : PH}
theorem pm_after {E : PE} {p : Program} {l : Launch} {e : Env} {R : Room} {s : State} {m : MethodId} {args : Array Value} {below : List Frame} {meth : Method} {c : Code} {H : Heap} {locs : List Loc} {cells slots : Nat} {Qf : State → Prop} {L : Array Slot} {st0 : List Value} {a0 : Array Value}
    (run : va_Run p l e R s m args below meth c H locs cells slots kc2 ks2 (F0 m pc L st0) (st.map (tv E)) (pm_Qc E M2.2.2.2 Q2 a0) (pm_A E)) (hS : va_S (pm_A E) s.heap H locs)
    (kk : ∀ (r : Option PV) (g' : PH) (H' : Heap) (locs' : List Loc), Q2 r g' → pm_ok M2.2.2.2 r → pm_Rel E g' H' → va_S (pm_A E) s.heap H' locs' → W p l e R s m args below meth c H' locs' (cells + kc2) (slots + ks2) Qf (F0 m (pc + 3) L ((r.toList ++ st).map (tv E)))) :
    W p l e R s m args below meth c H locs cells slots Qf (F0 m pc L st0) := by
  intro T hT X
  obtain ⟨v, st₀, t, T', L2, h0, X', hL2, e1, e2, ⟨r, g', hv, hQ2, hok, hRel, hz, hk⟩, stp⟩ := run T hT X
  have hv' : v = r.map (tv E) := by cases hv; rfl
  subst hv'
  rw [h0] at hz hk
  have hS' : va_S (pm_A E) s.heap T'.heap (locs ++ L2) := by
    refine ⟨Nat.le_trans hS.1 (by rw [e1]; exact hz), fun q q1 q2 => ?_, fun q hq => ?_⟩
    · rw [e1, hk q (Nat.lt_of_lt_of_le q1 hS.1) q2]
      exact hS.2.1 q q1 q2
    · rcases List.mem_append.mp hq with q1 | q1
      · exact hS.2.2 q q1
      · exact hL2 q q1
  obtain ⟨t2, a1, b1⟩ := kk r g' T'.heap (locs ++ L2) hQ2 hok (by rw [e1]; exact hRel) hS' T' rfl X'
  refine ⟨t2, stp t2 ?_, b1⟩
  have ee : (r.toList ++ st).map (tv E) = (r.map (tv E)).toList ++ st.map (tv E) := by cases r <;> simp
  rw [ee] at a1
  exact a1
theorem pm_blind2 {E : PE} {s : State} {H : Heap} {As : List PV} (hF : va_K E.1 pm_cl (pm_tys E) s) (hR : pm_Rel E g H) (hS : E.2.2.2 ≤ H.size) (ht : pm_St E s) (hv : ∀ a : Nat, a < s.heap.size → ¬ pm_A E a → H[a]? = s.heap[a]?) : ∀ U : State, U.heap = H → s.WarmedH U.vm → pm_Pc E g As (As.map (tv E)).toArray U :=
  fun U hU hW => ⟨rfl, by rw [hU]; exact hR, va_K.moved hW.alike hF, by rw [hU]; exact hS, pm_St.moved ht hW (by rw [hU]; exact hv)⟩
theorem R_callV {a ci n n0 : Nat} {As st0 : List PV} (hd : decode M.2.1 pc = .ok (.invokevirtual idx, 3)) (hm : pm_mv M2 ci n) (hlk : Cond.methodLink M.1.cls idx M2.1 ∈ tblG) (hst : st0 = As.reverse ++ pR a :: st) (hn : As.length = n) (hcat : pm_cat st ≤ 8) (hlen : (pm_sl (pR a :: As)).length ≤ M2.2.2.1) (hdd : d2 + 1 ≤ d) (hl : ci < 50)
    (hc : g.1[a]? = some (ci, n0)) (hcall : RR M2 d2 kc2 ks2 0 (pm_ent (pR a :: As) M2.2.2.1) [] g Q2)
    (kk : ∀ r g', Q2 r g' → pm_ok M2.2.2.2 r → RR M d kc ks (pc + 3) ls (r.toList ++ st) g' Q) : RR M d (kc2 + kc) (ks2 + ks) pc ls st0 g Q := by
  intro E p l e R s m args below meth c H locs cells slots Qf L hF h1 h2 h3 h4 hR hS hL hq
  obtain ⟨m1, m2, m3, m4, m5, m6, m7, q, m8, m9⟩ := hm
  subst hst
  obtain ⟨f1, f2, f3, f4, f5, f6, f7, f8, f9, f10⟩ := id hF
  have hmet := pm_met hcall hlen m1 E l
  have hG : GoodIn tblG (wsV M.1.cls idx M2.1.cls M2.1 (Cond.code M2.1 M2.2.1 M2.2.2.1 M2.2.2.2 :: tblG)) := by
    intro w hw
    have : w ∈ tblG := by
      simp only [wsV, List.cons_append, List.nil_append, List.mem_cons] at hw
      rcases hw with rfl | rfl | rfl | rfl | rfl | hw
      · exact hlk
      · exact m5
      · exact m6
      · exact m7
      · exact m4
      · exact hw
    exact tblG_good w this
  have hrec := va_recv (q0 := a) (ci := ci) f8 hR.1 m8 (fs := (List.range (pm_nf ci)).map (pm_fv E g a ci)) (by rw [pm_wl_at hc]; unfold pm_ce; rw [if_pos hl])
  rw [m9] at hrec
  have cw := cwV (own := M.1.cls) (index := idx) (C := M2.1.cls) (R := R) (rm := pm_rm d2 kc2 ks2) (mc := kc2) (ms := ks2) n f7 hG rfl rfl rfl ⟨rfl, m3⟩ ⟨by show d2 + 1 ≤ R.frames; omega, by show 8 + (M2.2.2.1 + 11) + 64 * d2 ≤ R.locals; omega⟩
  have run := va_runV (p := p) (e := e) (below := below) (meth := meth) (H := H) (locs := locs) (cells := cells) (slots := slots) (g := F0 m pc L ((As.reverse ++ pR a :: st).map (tv E))) (As := As.map (tv E)) (b := E.2.2.1 a) (rest := st.map (tv E)) ⟨f1, f2, f3, f6, f7⟩ hmet cw ⟨pm_blind E g _, hrec, pm_blind2 (As := pR a :: As) f8 hR (Nat.le_trans f9 hS.1) f10 hS.2.1⟩ rfl (by rw [List.length_map]; exact hn) hL.1 (by simp [tv]) (lv_room (by rw [pm_cat_eq]; exact hcat)) hd ⟨by omega, by omega⟩
  refine pm_after (M2 := M2) run hS (fun r g' H' locs' hQ2 hok hRel' hS' => ?_)
  exact kk r g' hQ2 hok E p l e R s m args below meth c H' locs' _ _ Qf L hF h1 h2 (by omega) (by omega) hRel' hS' hL (fun r2 g2 H2 l2 pc2 L2 x1 x2 x3 x4 x5 => by rw [Nat.add_assoc, Nat.add_assoc]; exact hq r2 g2 H2 l2 pc2 L2 x1 x2 x3 x4 x5)
theorem R_callS {n : Nat} {As st0 : List PV} (hd : decode M.2.1 pc = .ok (.invokestatic idx, 3)) (hm : pm_ms M2 n) (hlk : Cond.methodLink M.1.cls idx M2.1 ∈ tblG) (hst : st0 = As.reverse ++ st) (hn : As.length = n) (hcat : pm_cat st ≤ 8) (hlen : (pm_sl As).length ≤ M2.2.2.1) (hdd : d2 + 1 ≤ d)
    (hcall : RR M2 d2 kc2 ks2 0 (pm_ent As M2.2.2.1) [] g Q2)
    (kk : ∀ r g', Q2 r g' → pm_ok M2.2.2.2 r → RR M d kc ks (pc + 3) ls (r.toList ++ st) g' Q) : RR M d (kc2 + kc) (ks2 + ks) pc ls st0 g Q := by
  intro E p l e R s m args below meth c H locs cells slots Qf L hF h1 h2 h3 h4 hR hS hL hq
  obtain ⟨m1, m2, m3, m4, m5, m7⟩ := hm
  subst hst
  obtain ⟨f1, f2, f3, f4, f5, f6, f7, f8, f9, f10⟩ := id hF
  have hmet := pm_met hcall hlen m1 E l
  have hG : GoodIn tblG (va_wsS M.1.cls idx M2.1 (Cond.code M2.1 M2.2.1 M2.2.2.1 M2.2.2.2 :: tblG)) := by
    intro w hw
    have : w ∈ tblG := by
      simp only [va_wsS, List.cons_append, List.nil_append, List.mem_cons] at hw
      rcases hw with rfl | rfl | rfl | rfl | hw
      · exact hlk
      · exact m5
      · exact m7
      · exact m4
      · exact hw
    exact tblG_good w this
  have cw := va_cwS (own := M.1.cls) (index := idx) (R := R) (rm := pm_rm d2 kc2 ks2) (mc := kc2) (ms := ks2) n f7 hG rfl rfl rfl m3 ⟨by show d2 + 1 ≤ R.frames; omega, by show 8 + (M2.2.2.1 + 11) + 64 * d2 ≤ R.locals; omega⟩
  have run := va_runS (p := p) (e := e) (below := below) (meth := meth) (H := H) (locs := locs) (cells := cells) (slots := slots) (g := F0 m pc L ((As.reverse ++ st).map (tv E))) (As := As.map (tv E)) (rest := st.map (tv E)) ⟨f1, f2, f3, f6, f7⟩ hmet cw ⟨pm_blind E g _, pm_blind2 (As := As) f8 hR (Nat.le_trans f9 hS.1) f10 hS.2.1⟩ rfl (by rw [List.length_map]; exact hn) hL.1 (by simp) (lv_room (by rw [pm_cat_eq]; exact hcat)) hd ⟨by omega, by omega⟩
  refine pm_after (M2 := M2) run hS (fun r g' H' locs' hQ2 hok hRel' hS' => ?_)
  exact kk r g' hQ2 hok E p l e R s m args below meth c H' locs' _ _ Qf L hF h1 h2 (by omega) (by omega) hRel' hS' hL (fun r2 g2 H2 l2 pc2 L2 x1 x2 x3 x4 x5 => by rw [Nat.add_assoc, Nat.add_assoc]; exact hq r2 g2 H2 l2 pc2 L2 x1 x2 x3 x4 x5)
end PMC
