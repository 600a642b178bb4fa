/-! the call of a method that throws, caught here; the call of a method with a table -/
/-- the handler's first instruction stores what was thrown -/
def pm_hst (M : PMt) (hp pc2 : Nat) : Prop := ∀ (E : PE) (p : Program) (l : Launch) (e : Env) (R : Room) (s : State) (m : MethodId) (args : Array Value) (below : List Frame) (meth : Method) (c : Code) (H : Heap) (locs : List Loc) (cells slots : Nat) (Qf : State → Prop) (L : Array Slot) (ls : List PV) (q : Addr),
  pm_Fr E M p s m args meth c → lv_has L M.2.2.1 (pm_asc E ls) → (∀ L' : Array Slot, lv_has L' M.2.2.1 (pm_asc E (List.replicate M.2.2.1 pU)) → W p l e R s m args below meth c H locs cells slots Qf (F0 m pc2 L' [])) → W p l e R s m args below meth c H locs cells slots Qf (F0 m hp L [.ref q])
theorem pm_noth {E : PE} {L : Array Slot} {n k : Nat} {X : List (Nat × Value)} (h : lv_has L n X) : lv_has L n (pm_asc E (List.replicate k pU)) := ⟨h.1, h.2.1, fun q hq => by
  obtain ⟨j, x⟩ := q
  obtain ⟨w, hw, hu, rfl⟩ := pm_asc_mem.mp hq
  rw [List.getElem?_replicate] at hw
  split at hw
  · cases hw; exact absurd rfl hu
  · cases hw⟩
theorem hst_a {M : PMt} {hp i : Nat} (hd : decode M.2.1 hp = .ok (.astore i, 2)) (hn : i < M.2.2.1) : pm_hst M hp (hp + 2) := fun E p l e R s m args below meth c H locs cells slots Qf L ls q hF hL k => lv_astore hF.1 hF.2.1 hd hL hn rfl (fun L' hL' => k L' (pm_noth hL'))
theorem hst_an {M : PMt} {hp : Nat} {i : Fin 4} (hd : decode M.2.1 hp = .ok (.astore_n i, 1)) (hn : (i : Nat) < M.2.2.1) : pm_hst M hp (hp + 1) := fun E p l e R s m args below meth c H locs cells slots Qf L ls q hF hL k => lv_astore_n hF.1 hF.2.1 hd rfl hL hn rfl (fun L' hL' => k L' (pm_noth hL'))
section GCX
variable {sc : SC} {M M2 : PMt} {d d2 kc ks kc2 ks2 pc pc2 idx : Nat} {ls st : List PV} {Q Q2 : Option PV → PH → Prop} {g g2 : PH}
theorem G_callX {a n n0 : Nat} {As st0 : List PV} {x : ExceptionTableEntry} (hd : decode M.2.1 pc = .ok (.invokevirtual idx, 3)) (hm : pm_mv M2 11 n) (hlk : Cond.methodLink M.1.cls idx M2.1 ∈ tblG) (hst : st0 = As.reverse ++ pR a :: st) (hn : As.length = n) (hcat : pm_cat st ≤ 8) (hdd : d2 + 1 ≤ d)
    (hc : g.1[a]? = some (11, n0)) (hmet : ∀ E l, vx_Met l M2.1 (Cond.code M2.1 M2.2.1 M2.2.2.1 M2.2.2.2 :: tblG) (pm_rm d2 1 6) (pm_PcX sc E l g (pR a :: As)) (fun _ _ _ _ => False) (xkC E g2) 1 6 (pm_A E))
    (hx : sc.2.2 = [x]) (hcov : covers x pc = true) (h0 : x.catchType ≠ 0) (hcl : Cond.classLink M.1.cls x.catchType nsX ∈ tblG) (hh : pm_hst M x.handlerPc pc2)
    (kk : RG sc M d kc ks pc2 (List.replicate M.2.2.1 pU) [] g2 Q) : RG sc M d (1 + kc) (6 + ks) pc ls st0 g Q := by
  intro E p l e R s m args below meth c H locs cells slots Qf L hF h1 h2 h3 h4 hR hS hL hq hZ
  obtain ⟨m1, m2, m3, m4, m5, m6, m7, q, m8, m9⟩ := hm
  subst hst
  obtain ⟨f1, f2, f3, f4, f5, f6, f7, f8, f9, f10⟩ := id hF
  have hG : GoodIn tblG (wsV M.1.cls idx M2.1.cls M2.1 (Cond.code M2.1 M2.2.1 M2.2.2.1 M2.2.2.2 :: tblG)) := by
    intro w hw
    have : w ∈ tblG := by
      simp only [wsV, List.cons_append, List.nil_append, List.mem_cons] at hw
      rcases hw with rfl | rfl | rfl | rfl | rfl | hw
      · exact hlk
      · exact m5
      · exact m6
      · exact m7
      · exact m4
      · exact hw
    exact tblG_good w this
  have hrec := va_recv (q0 := a) (ci := 11) f8 hR.1 m8 (fs := (List.range (pm_nf 11)).map (pm_fv E g a 11)) (by rw [pm_wl_at hc]; unfold pm_ce; rw [if_pos (show (11 : Nat) < 50 by decide)])
  rw [m9] at hrec
  have cw := cwV (own := M.1.cls) (index := idx) (C := M2.1.cls) (R := R) (rm := pm_rm d2 1 6) (mc := 1) (ms := 6) n f7 hG rfl rfl rfl ⟨rfl, m3⟩ ⟨by show d2 + 1 ≤ R.frames; omega, by show 8 + (M2.2.2.1 + 11) + 64 * d2 ≤ R.locals; omega⟩
  have hpre : ∀ U : State, U.heap = H → s.WarmedH U.vm → pm_PcX sc E l g (pR a :: As) ((pR a :: As).map (tv E)).toArray U := fun U hU hW => ⟨pm_blind2 (As := pR a :: As) f8 hR (Nat.le_trans f9 hS.1) f10 hS.2.1 U hU hW, hZ.1.moved hW (by rw [hU]; exact hS.2.1)⟩
  have run := vx_runV (p := p) (e := e) (below := below) (meth := meth) (H := H) (locs := locs) (cells := cells) (slots := slots) (g := F0 m pc L ((As.reverse ++ pR a :: st).map (tv E))) (As := As.map (tv E)) (b := E.2.2.1 a) (rest := st.map (tv E)) ⟨f1, f2, f3, f6, f7⟩ (hmet E l) cw ⟨pm_blindX sc E l g _, hrec, hpre⟩ rfl (by rw [List.length_map]; exact hn) hL.1 (by simp [tv]) (lv_room (by rw [pm_cat_eq]; exact hcat)) hd ⟨by omega, by omega⟩
  intro T hT X
  rcases run T hT X with ⟨v, st₀, t, T', L2, h0', X', hL2, e1, e2, hf, stp⟩ | ⟨q9, st₀, t, T', L2, N, ce, h0', X', hL2, e1, e2, ⟨rfl, hRel, hFr⟩, hce, hcv, hcl9, stp⟩
  · exact hf.elim
  · obtain ⟨k1, k2, k3⟩ := vx_keep h0' e1 hS (fun _ _ z => z) (fun _ z => z) hL2 hFr
    have hcat2 := vx_catch (p := p) (l := l) (e := e) (R := R) (below := below) (meth := meth) (locs := locs ++ L2) (cells := cells + 1) (slots := slots + 6) (Q := Qf) (ls := L) (rest := st.map (tv E)) (pc := pc) (H := T'.heap) f6 [] x [] (by rw [hZ.2, hx]; rfl) (fun z hz => nomatch hz) hcov h0 (f7 _ hcl) (va_any rfl hZ.1.2.2.2.2.1.1 : (Cond.castable nsX nsX).before args s = true) (by rw [e1]; exact hce) hcv hcl9
      (hh E p l e R s m args below meth c T'.heap (locs ++ L2) (cells + 1) (slots + 6) Qf L ls q9 hF hL (fun L' hL' => kk E p l e R s m args below meth c T'.heap (locs ++ L2) (cells + 1) (slots + 6) Qf L' hF h1 h2 (by omega) (by omega) (by rw [e1]; exact hRel) k3 hL' ⟨fun r2 g2 H2 l2 pc2 L2 x1 x2 x3 x4 x5 => by rw [Nat.add_assoc, Nat.add_assoc]; exact hq.1 r2 g2 H2 l2 pc2 L2 x1 x2 x3 x4 x5, fun t g2 H2 l2 L2 c2 s2 y1 y2 x1 x2 x3 x4 => hq.2 t g2 H2 l2 L2 c2 s2 (by omega) (by omega) x1 x2 x3 x4⟩ hZ))
    obtain ⟨t2, a1, b1⟩ := hcat2 T' rfl X'
    exact ⟨t2, stp.trans a1, b1⟩
/-- a static method with a table that never throws out -/
theorem pm_metW {hh : List (Nat × Nat × Nat × Nat)} {As : List PV} (hR : RG (sc.1, sc.2.1, tableOf hh) M d kc ks 0 (pm_ent As M.2.2.1) [] g Q) (hn : ∀ t g', ¬ Q (some (pR (5000 + t))) g') (hlen : (pm_sl As).length ≤ M.2.2.1) (hpl : plainName M.1.cls = true) (hret : M.2.2.2 = some .int) (E : PE) (l : Launch) :
    vx_Met l M.1 (Cond.codeWith M.1 M.2.1 M.2.2.1 M.2.2.2 hh :: tblG) (pm_rm d kc ks) (pm_PcX sc E l g As) (pm_Qc E M.2.2.2 Q) (fun _ _ _ => False) kc ks (pm_A E) := by
  obtain ⟨y, cc, maxL, ret⟩ := M
  have hret : ret = some .int := hret
  subst hret
  refine vx_ofWH (cc := cc) (maxL := maxL) (ret := some .int) hpl rfl ?_
  intro p e s m args below meth c s₁ B hml hv
  obtain ⟨⟨rfl, hRel, hK, hsz, hst⟩, hsy⟩ := hv
  have hts := atoms_spec (ws := Cond.codeWith y cc maxL (some .int) hh :: tblG) B.pre
  have hown := findClass_of_methodNamed B.named
  have hlocks := B.notSynchronized
  have hx := B.exec
  have hb := B.bytes
  have hr := B.returns
  have htab := vx_table (x := y) B (hts _ List.mem_cons_self)
  rw [lg_entry_eq]
  refine hR E p l e (pm_rm d kc ks) s m _ below meth c s.heap [] 0 0 _ _ ⟨hx, hb, hml, hr, hlocks, hown, fun w hw => hts w (List.mem_cons_of_mem _ hw), hK, hsz, hst⟩ (Nat.le_refl _) (Nat.le_refl _) (by show 0 + kc ≤ kc; omega) (by show 0 + ks ≤ ks; omega) hRel va_S.rf (pm_entry E As hlen) ⟨?_, ?_⟩ ⟨hsy, htab⟩
  · intro r g' H' locs' pc' L' hQ hok hRel' hS' hd
    rw [Nat.zero_add, Nat.zero_add]
    have hq : ∀ t : State, t.heap = H' → s.WarmedH t.vm → pm_Qc E (some .int) Q (As.map (tv E)).toArray s (.returned (r.map (tv E))) t := fun t ht hW => ⟨r, g', rfl, hQ, hok, by rw [ht]; exact hRel', hS'.F ht⟩
    match r, hok with
    | some (.inl z), _ => exact vx_ret (W.iret (v := Int32.ofInt z) hx hb hr hq hS'.2.2 hd)
  · intro t g' H' locs' L' c' s' _ _ hQ
    exact absurd hQ (hn t g')
theorem G_callW {n : Nat} {As st0 : List PV} {hh : List (Nat × Nat × Nat × Nat)} (hd : decode M.2.1 pc = .ok (.invokestatic idx, 3)) (hlk : Cond.methodLink M.1.cls idx M2.1 ∈ tblG) (hcw : Cond.codeWith M2.1 M2.2.1 M2.2.2.1 M2.2.2.2 hh ∈ tblG) (hsta : Cond.static M2.1 ∈ tblG) (hini : Cond.initialized M2.1.cls ∈ tblG) (hpl : plainName M2.1.cls = true) (hmax : M2.2.2.1 ≤ 45) (hret : M2.2.2.2 = some .int)
    (hde : M2.1.cls ≠ "java/lang/invoke/MethodHandle" ∧ M2.1.cls ≠ "java/lang/invoke/VarHandle" ∧ (parseMethodDescriptor M2.1.desc).map (fun d => d.parameters.length) = some n) (hst : st0 = As.reverse ++ st) (hn : As.length = n) (hcat : pm_cat st ≤ 8) (hlen : (pm_sl As).length ≤ M2.2.2.1) (hdd : d2 + 1 ≤ d)
    (hcall : RG (sc.1, sc.2.1, tableOf hh) M2 d2 kc2 ks2 0 (pm_ent As M2.2.2.1) [] g Q2) (hno : ∀ t g', ¬ Q2 (some (pR (5000 + t))) g')
    (kk : ∀ r g', Q2 r g' → pm_ok M2.2.2.2 r → RG sc M d kc ks (pc + 3) ls (r.toList ++ st) g' Q) : RG sc M d (kc2 + kc) (ks2 + ks) pc ls st0 g Q := by
  intro E p l e R s m args below meth c H locs cells slots Qf L hF h1 h2 h3 h4 hR hS hL hq hZ
  subst hst
  obtain ⟨f1, f2, f3, f4, f5, f6, f7, f8, f9, f10⟩ := id hF
  have hmet := pm_metW hcall hno hlen hpl hret E l
  have hG : GoodIn tblG (va_wsS M.1.cls idx M2.1 (Cond.codeWith M2.1 M2.2.1 M2.2.2.1 M2.2.2.2 hh :: tblG)) := by
    intro w hw
    have : w ∈ tblG := by
      simp only [va_wsS, List.cons_append, List.nil_append, List.mem_cons] at hw
      rcases hw with rfl | rfl | rfl | rfl | hw
      · exact hlk
      · exact hsta
      · exact hini
      · exact hcw
      · exact hw
    exact tblG_good w this
  have cw := vx_cwSW (own := M.1.cls) (index := idx) (R := R) (rm := pm_rm d2 kc2 ks2) (mc := kc2) (ms := ks2) n f7 hG rfl rfl rfl hde ⟨by show d2 + 1 ≤ R.frames; omega, by show 8 + (M2.2.2.1 + 11) + 64 * d2 ≤ R.locals; omega⟩
  have hpre : ∀ U : State, U.heap = H → s.WarmedH U.vm → pm_PcX sc E l g As (As.map (tv E)).toArray U := fun U hU hW => ⟨pm_blind2 (As := As) f8 hR (Nat.le_trans f9 hS.1) f10 hS.2.1 U hU hW, hZ.1.moved hW (by rw [hU]; exact hS.2.1)⟩
  have run := vx_runSX (p := p) (e := e) (below := below) (meth := meth) (H := H) (locs := locs) (cells := cells) (slots := slots) (g := F0 m pc L ((As.reverse ++ st).map (tv E))) (As := As.map (tv E)) (rest := st.map (tv E)) ⟨f1, f2, f3, f6, f7⟩ hmet cw ⟨pm_blindX sc E l g _, hpre⟩ rfl (by rw [List.length_map]; exact hn) hL.1 (by simp) (lv_room (by rw [pm_cat_eq]; exact hcat)) hd ⟨by omega, by omega⟩
  have run2 : va_Run p l e R s m args below meth c H locs cells slots kc2 ks2 (F0 m pc L ((As.reverse ++ st).map (tv E))) (st.map (tv E)) (pm_Qc E M2.2.2.2 Q2 (As.map (tv E)).toArray) (pm_A E) := fun T hT X => by
    rcases run T hT X with h9 | ⟨q9, st₀, t, T', L2, N, ce, h0', X', hL2, e1, e2, hf, hce, hcv, hcl9, stp⟩
    · exact h9
    · exact hf.elim
  refine pm_after (M2 := M2) run2 hS (fun r g' H' locs' hQ2 hok hRel' hS' => ?_)
  exact kk r g' hQ2 hok E p l e R s m args below meth c H' locs' _ _ Qf L hF h1 h2 (by omega) (by omega) hRel' hS' hL ⟨fun r2 g2 H2 l2 pc2 L2 x1 x2 x3 x4 x5 => by rw [Nat.add_assoc, Nat.add_assoc]; exact hq.1 r2 g2 H2 l2 pc2 L2 x1 x2 x3 x4 x5, fun t g2 H2 l2 L2 c2 s2 y1 y2 x1 x2 x3 x4 => hq.2 t g2 H2 l2 L2 c2 s2 (by omega) (by omega) x1 x2 x3 x4⟩ hZ
end GCX
