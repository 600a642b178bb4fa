/-! THE CLAIM OUT OF ONE WALK OF THE LAW'S BODY. Your part is whole_start (and what it stands on); all else here is the same for every law, but numbers. -/
def R_law : String := "CoachesVoteLaw"
def lw_P (b : Addr) (xs : List Int32) (args : Array Value) (s : State) : Prop := args = #[.ref b] ∧ s.IntsAt b xs ∧ xs.length ≤ 2560 ∧ (Jvm.Cond.and given_1 narrow_1).before args s = true
def lw_Q (_ : Array Value) (s : State) (o : Outcome) (t : State) : Prop := o = .returned (some (.int 1)) ∧ Framed s o t [] 601024 7293034
def lw_Z (below : List Frame) (a : Array Value) (s : State) : State → Prop := fun t => ∃ o, t.status = .running ∧ Ended t below o ∧ lw_Q a s o t
/-- the law's own end, with 1 on the stack, nothing written that was there before, its room as the claim has it -/
theorem lw_ret {p : Program} {l : Launch} {e : Env} {s : State} {m : MethodId} {below : List Frame} {meth : Method} {c : Code} {b : Nat} (hx : p.tables.exec = Jvm.exec) (hb : c.code = code) (hr : meth.sig.returnType = ret) (hlocks : meth.locks = false) {pc : Nat} {H : Heap} {ls : Array Slot} (hdg : decode code pc = .ok (.ireturn, 1)) : W p l e room_1 s m #[Value.ref b] below meth c H [] 601024 7293034 (lw_Z below #[Value.ref b] s) (F0 m pc ls [.int 1]) := by
  intro T hT X
  obtain ⟨fs, hret, hrun, hended, hW, hframe⟩ := X.leave (v := some (.int 1)) (hlocks := hlocks) (fun h => by rw [hr] at h; cases h)
  have hmeth' : T.vm.method? m = some meth := X.method'
  refine ⟨T.setFrames fs, ?_, .returned (some (.int 1)), hrun, hended, rfl, ⟨_, rfl⟩, hW, hframe⟩
  jvm_step X.here [X.here.top, hx, hb, hdg, hmeth', hr, ret, narrow_b1]
  (try refine ⟨rfl, ?_⟩); (try refine ⟨rfl, ?_⟩)
  first | (intro acts; rw [hret _ acts rfl rfl rfl]) | rw [hret _ _ rfl rfl rfl]
  exact Steps.refl _
/-- what holds at the law's entry: the machine, the code, the tables' words (any of lw_tbl by 'hts w (by decide +kernel)'), the script of L ints xs at the cell b, what the Statement gives of the start (any of its parts by flat_of_before) -/
def lw_At (p : Program) (s : State) (m : MethodId) (meth : Method) (c : Code) (b L : Nat) (xs : Nat → Int32) : Prop :=
  p.tables.exec = Jvm.exec ∧ c.code = code ∧ meth.sig.returnType = ret ∧ c.maxLocals = 8 ∧ s.vm.findClass R_law = some m.cls ∧ (∀ w ∈ lw_tbl, w.before #[Value.ref b] s = true) ∧ va_X b L xs s s.heap ∧ b < s.heap.size ∧ meth.locks = false ∧ (Jvm.Cond.and given_1 narrow_1).before #[Value.ref b] s = true
theorem pm_Sy.extG {sc : SC} {E E2 : PE} {n : Nat} {s : State} {l : Launch} (hx : pm_ext E E2 n) (h : pm_Sy sc E s l) : pm_Sy sc E2 s l := by
  unfold pm_Sy
  rw [hx.A, hx.2.2.2 1300 (Or.inr (by decide))]
  exact h
theorem sc_r (x : Int32) : r32 x.toInt := ⟨Int32.le_toInt x, Int32.toInt_le x⟩
/-- from the entry, for every script of at most 2560 ints, the law comes to its end with true -/
theorem whole_start {p : Program} {e : Env} {s : State} {m : MethodId} {below : List Frame} {meth : Method} {c : Code} (l : Launch) (hst : l.stackTraces = false) {b L : Nat} {xs : Nat → Int32} (hL : L ≤ 2560) (C0 : lw_At p s m meth c b L xs) : W p l e room_1 s m #[Value.ref b] below meth c s.heap [] 0 0 (lw_Z below #[Value.ref b] s) (entryFrame m ([Value.ref b] : List Value).toArray 8) := by
  obtain ⟨hx, hb, hr, hml, hown, hts, hX, hbl, hlocks, hgv⟩ := id C0
  have htG : ∀ w ∈ tblG, w.before #[Value.ref b] s = true := fun w hw => hts w (tblG_sub hw)
  have hA : ∀ a : Nat, a < s.heap.size → ¬ (fun q : Nat => s.heap.size ≤ q) a := fun a h => Nat.not_le.mpr h
  obtain ⟨D, hD⟩ := Classical.axiomOfChoice (kn_at htG)
  obtain ⟨cI, i1, i2⟩ := ka_at (htG _ ac_i)
  obtain ⟨cZ, z1, z2⟩ := ka_at (htG _ ac_z)
  obtain ⟨cJ, j1, j2⟩ := ka_at (htG _ ac_l)
  have hcr := cr_at hts
  obtain ⟨cT, t1, t2⟩ := kt_at hcr.1
  obtain ⟨adK, adV, hS, hV⟩ := st_at hts hgv hA
  obtain ⟨q12, hq12⟩ : ∃ q : Nat, va_Z "jdk/internal/util/Preconditions" "SIOOBE_FORMATTER" "Ljava/util/function/BiFunction;" .null (fun q : Nat => s.heap.size ≤ q) s s.heap ∨ va_Z "jdk/internal/util/Preconditions" "SIOOBE_FORMATTER" "Ljava/util/function/BiFunction;" (.ref q) (fun q : Nat => s.heap.size ≤ q) s s.heap := by
    rcases z4_at hts hgv hA with z | ⟨t, z⟩
    · exact ⟨0, Or.inl z⟩
    · exact ⟨t, Or.inr z⟩
  obtain ⟨E, hE⟩ : ∃ E : PE, E = (((fun k => (D k).1), (fun k => (D k).2)), (fun k => if k = 0 then cI else if k = 1 then cZ else if k = 2 then cJ else cT), (fun a => if a < 1100 then adK (a - 1000) else if a < 1200 then adV (a - 1100) else if a < 1300 then q12 else b), s.heap.size) := ⟨_, rfl⟩
  have eA : pm_A E = fun q : Nat => s.heap.size ≤ q := by rw [hE]
  have eb : E.2.2.1 1300 = b := by rw [hE]; rfl
  have eK : (fun i => E.2.2.1 (1000 + i)) = fun i => if i < 100 then adK i else E.2.2.1 (1000 + i) := by
    funext i
    by_cases hi : i < 100
    · rw [if_pos hi, hE]
      show (if 1000 + i < 1100 then adK (1000 + i - 1000) else _) = _
      rw [if_pos (by omega), show 1000 + i - 1000 = i by omega]
    · rw [if_neg hi]
  have eK6 : ∀ i, i < 6 → E.2.2.1 (1000 + i) = adK i := fun i hi => by
    have := congrFun eK i
    rw [if_pos (by omega)] at this
    exact this
  have eV6 : ∀ i, i < 6 → E.2.2.1 (1100 + i) = adV i := fun i hi => by
    rw [hE]
    show (if 1100 + i < 1100 then adK (1100 + i - 1000) else if 1100 + i < 1200 then adV (1100 + i - 1100) else _) = _
    rw [if_neg (by omega), if_pos (by omega), show 1100 + i - 1100 = i by omega]
  have e12 : E.2.2.1 1200 = q12 := by rw [hE]; rfl
  have hK : va_K E.1 pm_cl (pm_tys E) s := by
    rw [hE]
    refine ⟨fun k q hq => hD k q hq, fun k q hq => ?_⟩
    match k, hq with
    | 0, hq => cases hq; exact ⟨i1, i2⟩
    | 1, hq => cases hq; exact ⟨z1, z2⟩
    | 2, hq => cases hq; exact ⟨j1, j2⟩
    | 3, hq => cases hq; exact ⟨t1, t2⟩
    | k + 4, hq => cases hq
  have hSt : pm_St E s := by
    refine ⟨?_, fun i hi => by rw [eK6 i hi]; exact hV i hi, by rw [eA]; exact z3_at hts hgv hA, by rw [eA, e12]; exact hq12⟩
    rw [eA]
    refine ⟨fun i hi => ?_, fun i j hi hj hij => ?_⟩
    · have := hS.1 i hi
      dsimp only
      rw [eK6 i hi, eV6 i hi]
      exact this
    · have hij : E.2.2.1 (1000 + i) = E.2.2.1 (1000 + j) := hij
      rw [eK6 i hi, eK6 j hj] at hij
      exact hS.2 i j hi hj hij
  have hF : pm_Fr E mL_law p s m #[Value.ref b] meth c := ⟨hx, hb, hml, hr, hlocks, hown, htG, hK, by rw [hE]; exact Nat.le_refl _, hSt⟩
  have hSy : pm_Sy (L, (fun j => (xs j).toInt), c.exceptionTable.toList) E s l := by
    refine ⟨hst, ?_, by rw [eA]; exact z1_at hts hgv hA, by rw [eA]; exact z2_at hts hgv hA, xw_at hts, tx_at hts hgv⟩
    rw [eA, eb]
    obtain ⟨scr, s1, s2, s3, s4, s5⟩ := hX
    refine ⟨scr, s1, s2, s3, Nat.le_of_eq s4.symm, (by rw [s4] <;> rfl), fun j hj => ?_, hA b hbl⟩
    rw [s5 j hj]
    show _ = some (Value.int (Int32.ofInt (xs j).toInt))
    rw [Int32.ofInt_toInt]
  have hRel : pm_Rel E ([], fun _ _ => none, fun _ _ => 0) s.heap := ⟨fun k q h => (by cases h), ⟨fun i j p q h => (by cases h), fun k q h => (by cases h)⟩, fun a q h => (by cases h)⟩
  rw [lg_entry_eq]
  have hent := pm_entry E [pR 1300] (n := 8) (by decide)
  have eent : [pR 1300].map (tv E) = [Value.ref b] := by
    show [Value.ref (E.2.2.1 1300)] = _
    rw [eb]
  rw [eent] at hent
  refine law0 E p l e room_1 s m #[Value.ref b] below meth c s.heap [] 0 0 _ _ hF (by decide) (by decide) (by decide) (by decide) hRel va_S.rf hent ⟨?_, ?_⟩ ⟨hcr, fun z => absurd z (by decide)⟩
  · intro E2 r g' H' locs' pc' L' x0 xl hQ hok
    rw [hQ.1] at hok
    exact absurd hok (fun z => z)
  · intro E2 g' H' locs' L' x0 hQ hR2 hS2 hL2
    obtain ⟨-, h', rfl, hf⟩ := hQ
    have hgo := LW (sc := (L, (fun j => (xs j).toInt), c.exceptionTable.toList)) hL (fun j => sc_r (xs j)) 512 0 0 h' pU pU pU (by show L < _; omega) (by omega) (by omega) (f0_SR hf)
    refine hgo E2 p l e room_1 s m #[Value.ref b] below meth c H' locs' _ _ (lw_Z below #[Value.ref b] s) L' (hF.extG x0) (by decide) (by decide) (by decide) (by decide) hR2 (by rw [x0.A]; exact hS2) hL2 ⟨?_, ?_⟩ ⟨hSy.extG x0, rfl⟩
    · intro r g2 H2 locs2 pc2 L2 hr2 _ _ hS3 hd
      rw [hr2] at hd ⊢
      refine va_forget (fun q hq => ?_) ?_
      · have := hS3.2.2 q hq
        rw [x0.A, eA] at this
        exact this
      · refine W.widen (k := 601024) (n := 7293034) (by decide) (by decide) ?_
        exact lw_ret hx hb hr hlocks hd
    · intro t g2 H2 locs2 L2 c2 s2 y1 y2 hr2
      cases hr2
set_option maxHeartbeats 4000000 in
theorem lw_walk (l : Launch) (hst : l.stackTraces = false) (b : Addr) (xs : List Int32) : MetFree l x (headSpec (Jvm.Cond.code x code maxLocals ret :: tables_1) room_1) (lw_P b xs) (fun _ _ _ _ _ => True) lw_Q := by
  refine MetFree.of_bodyS (code := code) (maxLocals := maxLocals) (ret := ret) (by decide) ?_ ?_
  · intro args s m h hn
    obtain ⟨meth, c, h1, h2, h3, h4, h5, h6, -, -⟩ := Cond.code_spec hn (atoms_spec (ws := Jvm.Cond.code x code maxLocals ret :: tables_1) h _ List.mem_cons_self)
    exact ⟨meth, c, h1, h2, h3, h4, h5, h6⟩
  · intro p e s m args below meth c s₁ B hml0 hP _
    obtain ⟨rfl, hx, hbd, hgv⟩ := hP
    obtain ⟨scr, harrAt, hlist, hof, hsmall⟩ := hx
    obtain ⟨hcb, hkn, -, -⟩ := State.arrayAt?_spec harrAt
    have hown : s.vm.findClass R_law = some m.cls := findClass_of_methodNamed B.named
    have hts0 : ∀ c ∈ (Jvm.Cond.code x code maxLocals ret :: tables_1), c.before #[Value.ref b] s = true := atoms_spec (ws := Jvm.Cond.code x code maxLocals ret :: tables_1) B.pre
    have hts : ∀ w ∈ lw_tbl, w.before #[Value.ref b] s = true := k2_hts_sels lw_privs (fun w hw => hts0 w (List.mem_cons_of_mem _ hw)) lw_privs_ok
    have hml : c.maxLocals = 8 := B.maxLocals_eq (hts0 _ List.mem_cons_self)
    have X₀ : Stand p l e room_1 s m #[Value.ref b] below meth c s₁ [] 0 0 := Stand.of_body B
    have hh0 : s₁.heap = s.heap := by rw [B.state]; rfl
    have hsz : scr.slots.size = xs.length := by rw [← Array.length_toList, hlist, List.length_map]
    have hval : ∀ j : Nat, j < xs.length → scr.slots[j]? = some (.int (xs.getD j 0)) := fun j hj => by
      rw [← Array.getElem?_toList, hlist]
      simp [hj]
    have hbl : b < s.heap.size := (Array.getElem?_eq_some_iff.mp hcb).1
    have hX : va_X b xs.length (fun j => xs.getD j 0) s s.heap := ⟨scr, hcb, hof, hkn, hsz, hval⟩
    have K : W p l e room_1 s m #[Value.ref b] below meth c s₁.heap [] 0 0 (lw_Z below #[Value.ref b] s) (entryFrame m ([Value.ref b] : List Value).toArray 8) := by
      rw [hh0]
      exact whole_start l hst hbd ⟨B.exec, B.bytes, B.returns, hml, hown, hts, hX, hbl, B.notSynchronized, hgv⟩
    obtain ⟨t, a1, o, b1, b2, b3⟩ := K s₁ rfl X₀
    exact ⟨t, o, a1, b1, b2, b3⟩
theorem lw_pre_spec {args : Array Value} {s : State} (h : (Jvm.Cond.and given_1 narrow_1).before args s = true) (hr : rest_1_c.before args s = true) : ∃ (b : Addr) (xs : List Int32), lw_P b xs args s := by
  have hs := flat_of_before _ h
  have hq := flat_of_before _ hr
  have hc : (Cond.count 1).before args s = true := hs _ (by decide +kernel)
  have harr : (Cond.arrayOf (.arg 0) .int).before args s = true := hs _ (by decide +kernel)
  have hle : (Cond.le (.length (.arg 0)) (.int 2560)).before args s = true := hs _ (by decide +kernel)
  have hlen : (Cond.isInt (.length (.arg 0))).before args s = true := hq _ (by decide +kernel)
  have hall : (Cond.all (.arg 0) (.isInt (.elem (.arg 0) (.index 0)))).before args s = true := hq _ (by decide +kernel)
  obtain ⟨b, xs, hb, hx⟩ := State.ints_of_pre rfl harr hlen hall
  have hsm : xs.length < 2 ^ 31 := hx.choose_spec.2.2.2
  have hev : (Term.length (.arg 0)).eval args s none [] s = some (.int xs.length.toInt32) := hx.length_eval hb
  have hv := Cond.le_ints hev (show (Term.int 2560).eval args s none [] s = some (.int 2560) from rfl)
  have hd : xs.length.toInt32 ≤ 2560 := by
    simpa [Cond.before, Cond.holds, hv] using hle
  have hN : xs.length ≤ 2560 := (Int32.ofNat_le_ofNat hsm (by decide)).mp (show Int32.ofNat xs.length ≤ Int32.ofNat 2560 from hd)
  exact ⟨b, xs, Cond.one_arg hc (show args[0]? = some (.ref b) from hb), hx, hN, h⟩
theorem lw_comes (l : Launch) (hst : l.stackTraces = false) : Comes l x (Jvm.Cond.code x code maxLocals ret :: tables_1) room_1 (fun tb e args s => Calls_1 tb e args s ∧ rest_1 tb e args s ∧ Pre_1 tb e args s)
    (fun _ _ args s o t => lw_Q args s o t) := by
  intro p e ha hc hk s m args below hf hfit hheap happ hpre
  obtain ⟨b, xs, hP⟩ := lw_pre_spec hpre.2.2 hpre.2.1
  obtain ⟨k, o, h1, h2, h3, hQ⟩ := lw_walk l hst b xs p e ha hc hk s m args below hf ((Spec.applies_iff_loose hf).mp happ).1 hP trivial
  exact ⟨k, o, h1, h2, h3, hQ⟩
theorem lw_frame {s t : State} {o : Outcome} {args : Array Value} (h : Framed s o t [] 601024 7293034) :
    Framed s o t (fieldLocs frame_1_writes args s ++ arrayLocs frame_1_arrays args s ++ staticLocs frame_1_statics s) 601024 7293034 := h
theorem lw_limb (L : Cond) (hL : ∀ (args : Array Value) (s t : State), L.after args s (.returned (some (.int 1))) t = true) :
    ArmFor flags0 classFile x code maxLocals ret World_1 tables_1 room_1 Calls_1 rest_1 Pre_1
      (fun tb e a s o t => postC L tb e a s o t ∧ Framed s o t (fieldLocs frame_1_writes a s ++ arrayLocs frame_1_arrays a s ++ staticLocs frame_1_statics s) 601024 7293034) := by
  intro l hfl _ _ p e ha hc hk s m args below hf hfit hheap happ hpre
  obtain ⟨k, o, h1, h2, h3, rfl, hF⟩ := lw_comes l (by unfold Launch.stackTraces; rw [hfl]; decide +kernel) p e ha hc hk s m args below hf hfit hheap happ hpre
  exact ⟨k, _, h1, h2, h3, hL args s _, lw_frame hF⟩
theorem i_vc : Claimed_1_1 ∧ Claimed_1_2 := ⟨lw_limb limb_1_1 (fun args s t => by simp [limb_1_1, Cond.after, Cond.holds, Cond.value]), lw_limb limb_1_2 (fun args s t => Cond.after_iff.mpr (by
  first | (rw [show limb_1_2 = Cond.eq .result (.int 1) from rfl, Cond.eq_ints (x := 1) (y := 1) rfl rfl]; simp; done) | (simp [limb_1_2, Cond.value, Term.eval]; done)))⟩
