/-! a call that throws: its contract; the call of it by a method that catches -/
theorem xk_W.warm {s U : State} (hW : s.WarmedH U.vm) (h : xk_W s) : xk_W U := ⟨va_Nw.warmC hW h.1, va_Nw.warmD hW h.2.1, va_Nw.warmD hW h.2.2.1, va_Nw.warmD hW h.2.2.2⟩
theorem xk_at {args : Array Value} {s : State} (ht : ∀ w ∈ tblG, w.before args s = true) (h : xk_W s) : ∀ w ∈ vx_atX "CoachesVote" 157 nsX 13 prog_29_method_4_code nsN, w.before args s = true := by
  have d : (vx_atX "CoachesVote" 157 nsX 13 prog_29_method_4_code nsN).all (fun w => decide (w ∈ tblG) || decide (w ∈ [Cond.castable nsX nsX, .declares (Bundle.initS "java/lang/RuntimeException"), .declares (Bundle.initS "java/lang/Exception"), .declares (Bundle.initS Bundle.tN)])) = true := by decide +kernel
  intro w hw
  have h1 := List.all_eq_true.mp d w hw
  simp only [Bool.or_eq_true, decide_eq_true_eq, List.mem_cons, List.not_mem_nil, or_false] at h1
  rcases h1 with h1 | rfl | rfl | rfl | rfl
  · exact ht w h1
  · exact va_any rfl h.1
  · exact va_any rfl h.2.1
  · exact va_any rfl h.2.2.1
  · exact va_any rfl h.2.2.2
theorem xk_ot : ∀ w ∈ Cond.classLink "CoachesVote" 153 nsX :: Cond.initialized nsX :: vx_atX "CoachesVote" 157 nsX 13 prog_29_method_4_code nsN, vx_ot w = true := by
  have d : (Cond.classLink "CoachesVote" 153 nsX :: Cond.initialized nsX :: vx_atX "CoachesVote" 157 nsX 13 prog_29_method_4_code nsN).all vx_ot = true := by decide +kernel
  exact fun w hw => List.all_eq_true.mp d w hw
theorem xk_in : Cond.classLink "CoachesVote" 153 nsX ∈ tblG ∧ Cond.initialized nsX ∈ tblG := by decide +kernel
theorem pm_Sy.moved {sc : SC} {E : PE} {s U : State} {l : Launch} (h : pm_Sy sc E s l) (hW : s.WarmedH U.vm) (hq : ∀ a : Nat, a < s.heap.size → ¬ pm_A E a → U.heap[a]? = s.heap[a]?) : pm_Sy sc E U l :=
  ⟨h.1, va_T.kept (va_T.moved hW.alike h.2.1) hq, vx_Zq.kept (vx_Zq.moved hW.alike h.2.2.1) hq, vx_Zq.kept (vx_Zq.moved hW.alike h.2.2.2.1) hq, xk_W.warm hW h.2.2.2.2.1, fun i hi => by
    obtain ⟨a, ha⟩ := h.2.2.2.2.2 i hi
    exact ⟨a, vk_R.warm hW ha⟩⟩
theorem pm_Sy.call {sc : SC} {E : PE} {U : State} {l : Launch} {f : JFrame} {mk : MethodId} {a : Array Value} (h : pm_Sy sc E U l) : pm_Sy sc E (U.calling f mk a) l :=
  ⟨h.1, va_T.moved (u := U) (U := U.calling f mk a) (Vm.Alike.refl U.vm) h.2.1, vx_Zq.moved (u := U) (U := U.calling f mk a) (Vm.Alike.refl U.vm) h.2.2.1, vx_Zq.moved (u := U) (U := U.calling f mk a) (Vm.Alike.refl U.vm) h.2.2.2.1, ⟨va_tabs (A := #[]) (u := U) rfl rfl h.2.2.2.2.1.1, va_tabs (A := #[]) (u := U) rfl rfl h.2.2.2.2.1.2.1, va_tabs (A := #[]) (u := U) rfl rfl h.2.2.2.2.1.2.2.1, va_tabs (A := #[]) (u := U) rfl rfl h.2.2.2.2.1.2.2.2⟩, fun i hi => by
    obtain ⟨b, hb⟩ := h.2.2.2.2.2 i hi
    exact ⟨b, vk_R.same (u := U) (U := U.calling f mk a) rfl hb⟩⟩
def pm_PcX (sc : SC) (E : PE) (l : Launch) (g : PH) (As : List PV) : Array Value → State → Prop := fun a U => pm_Pc E g As a U ∧ pm_Sy sc E U l
theorem pm_blindX (sc : SC) (E : PE) (l : Launch) (g : PH) (As : List PV) : FrameBlind (pm_PcX sc E l g As) := fun a U f mk q => ⟨pm_blind E g As a U f mk q.1, q.2.call⟩
/-- what the throw leaves -/
def xkC (E : PE) (g2 : PH) : String → State → State → Prop := fun N st t => N = nsX ∧ pm_Rel E g2 t.heap ∧ va_F (pm_A E) st t
theorem va_P.grow {D : va_G} {cl : List vw_C} {ws : va_W} {H H1 : Heap} (h : va_P D cl ws H) (hq : ∀ q : Nat, q < H.size → H1[q]? = H[q]?) : va_P D cl ws H1 := h.kept (fun k x hx => hq x.1 ((h k x hx).lt))
theorem pm_metX {sc : SC} {M : PMt} {d dd : Nat} {As : List PV} {g g2 : PH} {t i : Nat} (hR : RG (sc.1, sc.2.1, []) M d 0 0 0 (pm_ent As M.2.2.1) [] g (fun r g' => r = some (pR (5000 + t)) ∧ g' = g2)) (hlen : (pm_sl As).length ≤ M.2.2.1) (hpl : plainName M.1.cls = true) (hown : M.1.cls = "CoachesVote") (hret : ∀ a, ¬ pm_ok M.2.2.2 (some (pR a))) (hi : i < 4) (h1 : d ≤ dd) (h2 : 6 ≤ dd)
    (d0 : decode M.2.1 t = .ok (.new 153, 3)) (d3 : decode M.2.1 (t + 3) = .ok (.dup, 1)) (dS : (decode M.2.1 (t + 4) = .ok (.ldc (tx_ix i), 2) ∧ decode M.2.1 (t + 6) = .ok (.invokespecial 157, 3) ∧ decode M.2.1 (t + 9) = .ok (.athrow, 1)) ∨ (decode M.2.1 (t + 4) = .ok (.ldc_w (tx_ix i), 3) ∧ decode M.2.1 (t + 7) = .ok (.invokespecial 157, 3) ∧ decode M.2.1 (t + 10) = .ok (.athrow, 1))) (E : PE) (l : Launch) :
    vx_Met l M.1 (Cond.code M.1 M.2.1 M.2.2.1 M.2.2.2 :: tblG) (pm_rm dd 1 6) (pm_PcX sc E l g As) (fun _ _ _ _ => False) (xkC E g2) 1 6 (pm_A E) := by
  obtain ⟨y, cc, maxL, ret⟩ := M
  refine vx_ofW (cc := cc) (maxL := maxL) (ret := ret) hpl rfl ?_
  intro p e s m args below meth c s₁ B hml hnt hv
  obtain ⟨⟨rfl, hRel, hK, hsz, hst⟩, hsy⟩ := hv
  have hts := atoms_spec (ws := Cond.code y cc maxL ret :: tblG) B.pre
  have hfc := findClass_of_methodNamed B.named
  have hlocks := B.notSynchronized
  have hx := B.exec
  have hb := B.bytes
  have hr := B.returns
  have htG : ∀ w ∈ tblG, w.before (As.map (tv E)).toArray s = true := fun w hw => hts w (List.mem_cons_of_mem _ hw)
  rw [lg_entry_eq]
  refine hR E p l e (pm_rm dd 1 6) s m _ below meth c s.heap [] 0 0 _ _ ⟨hx, hb, hml, hr, hlocks, hfc, htG, hK, hsz, hst⟩ h1 (by show 64 * d ≤ 64 * dd; omega) (by show 0 + 0 ≤ 1; omega) (by show 0 + 0 ≤ 6; omega) hRel va_S.rf (pm_entry E As hlen) ⟨?_, ?_⟩ ⟨hsy, List.eq_nil_iff_forall_not_mem.mpr hnt⟩
  · intro r g' H' locs' pc' L' hQ hok
    rw [hQ.1] at hok
    exact absurd hok (hret _)
  · intro t' g' H' locs' L' c' s' hc' hs' hQ hRel' hS' hL'
    obtain ⟨e1, rfl⟩ := hQ
    have e2 : t' = t := by
      injection e1 with e1; injection e1 with e1; injection e1 with e1; injection e1 with e1; omega
    subst e2
    obtain ⟨sa, hsa⟩ := hsy.2.2.2.2.2 i hi
    have hfc2 : s.vm.findClass "CoachesVote" = some m.cls := by rw [← hown]; exact hfc
    have hcov : ∀ (z : Nat), ∀ x ∈ c.exceptionTable.toList, covers x z = false := fun z x hx => (hnt x hx).elim
    have hend : ∀ t : State, s.vm.Alike t.vm → H'.size ≤ t.heap.size → (∀ q : Nat, q < H'.size → t.heap[q]? = H'[q]?) → xkC E g' nsX s t := fun t _ q1 q2 => ⟨rfl, ⟨hRel'.1.grow q2, hRel'.2⟩, Nat.le_trans hS'.1 q1, fun q q3 q4 => by rw [q2 q (Nat.lt_of_lt_of_le q3 hS'.1)]; exact hS'.2.1 q q3 q4⟩
    rcases dS with ⟨d4, d6, d9⟩ | ⟨d4, d6, d9⟩
    · exact xk_throwS (names := nsN) (rx := prog_29_method_4_code) (ix := 13) hx hb hsy.1 (by decide +kernel) (by decide +kernel) (by decide +kernel) (by decide +kernel) hfc2 (by decide +kernel) (by decide +kernel) (htG _ xk_in.1) (htG _ xk_in.2) hsa (xk_at htG hsy.2.2.2.2.1) xk_ot hsy.2.2.1 hsy.2.2.2.1 hS' (hL'.trans hml.symm) d0 d3 d4 d6 d9 (hcov _) (by show 2 + 3 < dd; omega) (by show 0 + (13 * (2 + 1) + 43) ≤ 64 * dd; omega) (by show c' + 1 ≤ 1; omega) (by show s' + 6 ≤ 6; omega) hlocks hend hS'.2.2 (by omega) (by omega)
    · exact xk_throwSW (names := nsN) (rx := prog_29_method_4_code) (ix := 13) hx hb hsy.1 (by decide +kernel) (by decide +kernel) (by decide +kernel) (by decide +kernel) hfc2 (by decide +kernel) (by decide +kernel) (htG _ xk_in.1) (htG _ xk_in.2) hsa (xk_at htG hsy.2.2.2.2.1) xk_ot hsy.2.2.1 hsy.2.2.2.1 hS' (hL'.trans hml.symm) d0 d3 d4 d6 d9 (hcov _) (by show 2 + 3 < dd; omega) (by show 0 + (13 * (2 + 1) + 43) ≤ 64 * dd; omega) (by show c' + 1 ≤ 1; omega) (by show s' + 6 ≤ 6; omega) hlocks hend hS'.2.2 (by omega) (by omega)
