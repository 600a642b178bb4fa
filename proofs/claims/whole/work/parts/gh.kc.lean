/-! the constructors' rows: a call of a constructor of ours -/
theorem pm_St.extG {E E2 : PE} {n : Nat} {s : State} (hx : pm_ext E E2 n) (h : pm_St E s) : pm_St E2 s := by
  have e1 : (fun i => E2.2.2.1 (1000 + i)) = (fun i => E.2.2.1 (1000 + i)) := funext (fun i => hx.2.2.2 _ (Or.inr (by omega)))
  have e2 : (fun i => E2.2.2.1 (1100 + i)) = (fun i => E.2.2.1 (1100 + i)) := funext (fun i => hx.2.2.2 _ (Or.inr (by omega)))
  have e3 : E2.2.2.1 1200 = E.2.2.1 1200 := hx.2.2.2 _ (Or.inr (by omega))
  unfold pm_St
  rw [e1, e2, e3, hx.A]
  refine ⟨h.1, fun i hi => ?_, h.2.2.1, h.2.2.2⟩
  rw [show E2.2.2.1 (1000 + i) = E.2.2.1 (1000 + i) from congrFun e1 i]
  exact h.2.1 i hi
theorem pm_tys_ext {E E2 : PE} {n : Nat} (hx : pm_ext E E2 n) : pm_tys E2 = pm_tys E := by
  show [(E2.2.1 0, FieldType.int), (E2.2.1 1, .boolean), (E2.2.1 2, .long), (E2.2.1 3, .object "CoachesVote$Train")] = _
  rw [hx.2.1]
theorem pm_Fr.extG {E E2 : PE} {n : Nat} {M : PMt} {p : Program} {s : State} {m : MethodId} {args : Array Value} {meth : Method} {c : Code} (hx : pm_ext E E2 n) (h : pm_Fr E M p s m args meth c) : pm_Fr E2 M p s m args meth c :=
  ⟨h.1, h.2.1, h.2.2.1, h.2.2.2.1, h.2.2.2.2.1, h.2.2.2.2.2.1, h.2.2.2.2.2.2.1, by rw [pm_tys_ext hx, hx.1]; exact h.2.2.2.2.2.2.2.1, by rw [hx.2.2.1]; exact h.2.2.2.2.2.2.2.2.1, h.2.2.2.2.2.2.2.2.2.extG hx⟩
def pm_PcK (E : PE) (g : PH) (As : List PV) : Array Value → State → Prop := fun a U => pm_Pc E g As a U ∧ pm_cr U
def pm_QcK (E : PE) (n : Nat) (Q : Option PV → PH → Prop) : Array Value → State → Outcome → State → Prop := fun _ st oc t => ∃ (E2 : PE) (g' : PH), oc = .returned none ∧ pm_ext E E2 n ∧ n ≤ g'.1.length ∧ Q none g' ∧ pm_Rel E2 g' t.heap ∧ va_F (pm_A E) st t
theorem pm_blindK (E : PE) (g : PH) (As : List PV) : FrameBlind (pm_PcK E g As) := fun a U f mk q => ⟨pm_blind E g As a U f mk q.1, q.2.call⟩
theorem pm_metK {M : PMt} {d kc ks : Nat} {As : List PV} {g : PH} {Q : Option PV → PH → Prop} (hR : RK M d kc ks 0 (pm_ent As M.2.2.1) [] g Q) (hns : ∀ g', ¬ Q (some (pR 5023)) g') (hret : M.2.2.2 = none) (hlen : (pm_sl As).length ≤ M.2.2.1) (hpl : plainName M.1.cls = true) (E : PE) (l : Launch) :
    Met l M.1 (Cond.code M.1 M.2.1 M.2.2.1 none :: tblG) (pm_rm d kc ks) (pm_PcK E g As) (pm_QcK E g.1.length Q) kc ks (pm_A E) := by
  obtain ⟨y, cc, maxL, ret⟩ := M
  obtain rfl : ret = none := hret
  refine Met.ofW (cc := cc) (maxL := maxL) (ret := none) hpl rfl ?_
  intro p e s m args below meth c s₁ B hml hv
  obtain ⟨⟨rfl, hRel, hK, hsz, hst⟩, hcr⟩ := hv
  have hts := atoms_spec (ws := Cond.code y cc maxL none :: tblG) B.pre
  have hown := findClass_of_methodNamed B.named
  have hlocks := B.notSynchronized
  have hx := B.exec
  have hb := B.bytes
  have hr := B.returns
  have hin : meth.name = y.name := (name_of_methodNamed B.named B.method).1
  rw [lg_entry_eq]
  refine hR E p l e (pm_rm d kc ks) s m _ below meth c s.heap [] 0 0 _ _ ⟨hx, hb, hml, hr, hlocks, hown, fun w hw => hts w (List.mem_cons_of_mem _ hw), hK, hsz, hst⟩ (Nat.le_refl _) (Nat.le_refl _) (by show 0 + kc ≤ kc; omega) (by show 0 + ks ≤ ks; omega) hRel va_S.rf (pm_entry E As hlen) ⟨?_, ?_⟩ ⟨hcr, fun z => hin.trans z⟩
  · intro E2 r g' H' locs' pc' L' x0 xl hQ hok hRel' hS' hd
    rw [Nat.zero_add, Nat.zero_add]
    match r, hok with
    | none, _ => exact W.vret hx hb hr (fun t ht hW => ⟨E2, g', rfl, x0, xl, hQ, by rw [ht]; exact hRel', hS'.F ht⟩) hS'.2.2 hd
  · intro E2 g' H' locs' L' x0 hQ
    exact absurd hQ (hns g')
/-- a constructor of ours without arguments -/
def pm_mi (M : PMt) : Prop := plainName M.1.cls = true ∧ M.2.2.1 ≤ 45 ∧ (M.1.cls ≠ "java/lang/invoke/MethodHandle" ∧ M.1.cls ≠ "java/lang/invoke/VarHandle" ∧ (parseMethodDescriptor M.1.desc).map (fun d => d.parameters.length) = some 0) ∧ Cond.code M.1 M.2.1 M.2.2.1 none ∈ tblG ∧ Cond.instanceMethod M.1 ∈ tblG ∧ Cond.initialized M.1.cls ∈ tblG ∧ M.1.name = "<init>" ∧ M.2.2.2 = none ∧ 1 ≤ M.2.2.1
section KCI
variable {M M2 : PMt} {d d2 kc ks kc2 ks2 pc idx a : Nat} {ls st : List PV} {Q Q2 : Option PV → PH → Prop} {g : PH}
theorem K_callI (hd : decode M.2.1 pc = .ok (.invokespecial idx, 3)) (hm : pm_mi M2) (hlk : Cond.methodLink M.1.cls idx M2.1 ∈ tblG ∨ (M.1.cls, idx, M2.1) ∈ kNq) (hcat : pm_cat st ≤ 8) (hdd : d2 + 1 ≤ d) (hls : ∀ v ∈ ls, pm_lt g.1.length v) (hst : ∀ v ∈ st, pm_lt g.1.length v)
    (hcall : RK M2 d2 kc2 ks2 0 (pm_ent [pR a] M2.2.2.1) [] g Q2) (hns : ∀ g', ¬ Q2 (some (pR 5023)) g') (kk : ∀ g', Q2 none g' → RK M d kc ks (pc + 3) ls st g' Q) : RK M d (kc2 + kc) (ks2 + ks) pc ls (pR a :: st) g Q := by
  intro E p l e R s m args below meth c H locs cells slots Qf L hF h1 h2 h3 h4 hR hS hL hq hZ
  obtain ⟨m1, m2, m3, m4, m5, m6, m7, m8, m9⟩ := hm
  obtain ⟨f1, f2, f3, f4, f5, f6, f7, f8, f9, f10⟩ := id hF
  have hmet := pm_metK hcall hns m8 (by show 1 ≤ _; exact m9) m1 E l
  have hG : GoodIn tblG (Cond.code M2.1 M2.2.1 M2.2.2.1 none :: tblG) := fun w hw => by
    rcases List.mem_cons.mp hw with rfl | hw
    · exact tblG_good _ m4
    · exact tblG_good w hw
  have hp : PreS s H (pm_PcK E g [pR a]) (.ref (E.2.2.1 a) :: []) := ⟨pm_blindK E g _, fun U hU hW => ⟨pm_blind2 (As := [pR a]) f8 hR (Nat.le_trans f9 hS.1) f10 hS.2.1 U hU hW, hZ.1.warm hW⟩⟩
  have hRm : (pm_rm d2 kc2 ks2).frames + 1 ≤ R.frames ∧ 8 + (M2.2.2.1 + 11) + (pm_rm d2 kc2 ks2).locals ≤ R.locals := ⟨by show d2 + 1 ≤ R.frames; omega, by show 8 + (M2.2.2.1 + 11) + 64 * d2 ≤ R.locals; omega⟩
  have run : va_Run p l e R s m args below meth c H locs cells slots kc2 ks2 (F0 m pc L ((pR a :: st).map (tv E))) (st.map (tv E)) (pm_QcK E g.1.length Q2 (Value.ref (E.2.2.1 a) :: []).toArray) (pm_A E) := by
    rcases hlk with hlk | hlk
    · exact va_runI (As := []) (b := E.2.2.1 a) (rest := st.map (tv E)) ⟨f1, f2, f3, f6, f7⟩ hmet (cwI (own := M.1.cls) (index := idx) 0 f7 hG rfl rfl rfl (f7 _ m6) (f7 _ hlk) (f7 _ m5) m7 m3 hRm) hp rfl rfl hL.1 rfl (lv_room (by rw [pm_cat_eq]; exact hcat)) hd ⟨by omega, by omega⟩
    · exact va_runIN (host := "CoachesVote") (As := []) (b := E.2.2.1 a) (rest := st.map (tv E)) ⟨f1, f2, f3, f6, f7⟩ hmet ⟨va_cnB (own := M.1.cls) (index := idx) 0 f7 hG rfl rfl rfl (hZ.1.2 _ hlk) (f7 _ m6) m3 hRm, m7, f7 _ m5⟩ hp rfl rfl hL.1 rfl (lv_room (by rw [pm_cat_eq]; exact hcat)) hd ⟨by omega, by omega⟩
  intro T hT X
  obtain ⟨v, st₀, t, T', L2, h0, X', hL2, e1, e2, ⟨E2, g', hv, hx, hlen, hQ2, hRel, hz, hk⟩, stp⟩ := run T hT X
  obtain rfl : v = none := by cases hv; rfl
  rw [h0] at hz hk
  have hS' : va_S (pm_A E) s.heap T'.heap (locs ++ L2) := by
    refine ⟨Nat.le_trans hS.1 (by rw [e1]; exact hz), fun q q1 q2 => ?_, fun q hq => ?_⟩
    · rw [e1, hk q (Nat.lt_of_lt_of_le q1 hS.1) q2]
      exact hS.2.1 q q1 q2
    · rcases List.mem_append.mp hq with q1 | q1
      · exact hS.2.2 q q1
      · exact hL2 q q1
  have hq2 : KQ M E2 g'.1.length p l e R s m args below meth c (cells + kc2 + kc) (slots + ks2 + ks) Qf Q := by
    rw [Nat.add_assoc, Nat.add_assoc]
    exact hq.ext hx hlen
  have K := kk g' hQ2 E2 p l e R s m args below meth c T'.heap (locs ++ L2) (cells + kc2) (slots + ks2) Qf L (hF.extG hx) h1 h2 (by omega) (by omega) (by rw [e1]; exact hRel) (by rw [hx.A]; exact hS') (pm_has_ext hx hls hL) hq2 hZ
  rw [pm_map_ext hx hst] at K
  obtain ⟨t2, a1, b1⟩ := K T' rfl X'
  exact ⟨t2, stp t2 a1, b1⟩
end KCI
