/-! what the start gives -/
theorem kn_all : ∀ c : Nat, c < 13 → ∃ q : vw_C, pm_cl[c]? = some q ∧ pm_cok c ∧ Cond.instantiable q.1 q.2.2 ∈ tblG := fun c hc => match c, hc with
  | 0, _ => ⟨_, rfl, cok_0, nwX11_16.2.2.2.2.1⟩
  | 1, _ => ⟨_, rfl, cok_1, nwX11_63.2.2.2.2.1⟩
  | 2, _ => ⟨_, rfl, cok_2, nwX11_26.2.2.2.2.1⟩
  | 3, _ => ⟨_, rfl, cok_3, nwX11_84.2.2.2.2.1⟩
  | 4, _ => ⟨_, rfl, cok_4, nwX11_46.2.2.2.2.1⟩
  | 5, _ => ⟨_, rfl, cok_5, nwX11_56.2.2.2.2.1⟩
  | 6, _ => ⟨_, rfl, cok_6, nwX11_70.2.2.2.2.1⟩
  | 7, _ => ⟨_, rfl, cok_7, nwX11_7.2.2.2.2.1⟩
  | 8, _ => ⟨_, rfl, cok_8, nwX11_77.2.2.2.2.1⟩
  | 9, _ => ⟨_, rfl, cok_9, nwX11_33.2.2.2.2.1⟩
  | 10, _ => ⟨_, rfl, cok_10, nwX5_9.2.2.2.2.1⟩
  | 11, _ => ⟨_, rfl, cok_11, nwL_8.2.2.2.2.1⟩
  | 12, _ => ⟨_, rfl, cok_12, nwL_26.2.2.2.2.1⟩
  | c + 13, h => absurd h (by omega)
theorem kn_at {s : State} {args : Array Value} (hts : ∀ w ∈ tblG, w.before args s = true) (c : Nat) : ∃ x : ClassId × (Nat → Nat), ∀ q : vw_C, pm_cl[c]? = some q → u_Kn s q.1 q.2.1 q.2.2 x.1 x.2 := by
  by_cases hc : c < 13
  · obtain ⟨q, h1, h2, h3⟩ := kn_all c hc
    obtain ⟨cC, iS, hk⟩ := u_known hts (h2 q h1).1 (hts _ h3)
    exact ⟨(cC, iS), fun q2 hq => by
      obtain rfl : q = q2 := Option.some.inj (h1.symm.trans hq)
      exact hk⟩
  · refine ⟨(0, fun _ => 0), fun q hq => ?_⟩
    have := (List.getElem?_eq_some_iff.mp hq).1
    exact absurd this hc
theorem ka_at {s : State} {args : Array Value} {ty : FieldType} (h : (Cond.arrayClass ty).before args s = true) : ∃ cA : ClassId, ArrOfT s cA ty ∧ s.vm.findClass ("[" ++ ty.toString) = some cA := by
  obtain ⟨cA, k, comp, h1, h2, h3⟩ := Cond.arrayClass_spec h
  exact ⟨cA, fun n z => ⟨fun k h => (by cases h), k, h2, comp, h3⟩, h1⟩
theorem kt_at {s : State} (h : va_AO "CoachesVote$Train" s) : ∃ cA : ClassId, ArrOfT s cA (.object "CoachesVote$Train") ∧ va_RA s cA (.object "CoachesVote$Train") := by
  obtain ⟨comp, cA, k, h1, h2, h3, h4, h5⟩ := Cond.arrayOver_spec h
  exact ⟨cA, fun n z => ⟨fun k h => (by cases h), k, h3, comp, h4⟩, k, comp, h3, h4, h1, h5⟩
theorem cr_at {s : State} {args : Array Value} (hts : ∀ w ∈ lw_tbl, w.before args s = true) : pm_cr s := by
  refine ⟨va_AO.of (hts _ (List.mem_append_right _ (tb_1 236 rfl))), ?_⟩
  exact List.forall_mem_cons.mpr ⟨va_Nw.of rfl (hts _ (List.mem_append_right _ (tb_1 35 rfl))), List.forall_mem_cons.mpr ⟨va_Nw.of rfl (hts _ (List.mem_append_right _ (tb_1 83 rfl))), List.forall_mem_cons.mpr ⟨va_Nw.of rfl (hts _ (List.mem_append_right _ (tb_1 107 rfl))), List.forall_mem_cons.mpr ⟨va_Nw.of rfl (hts _ (List.mem_append_right _ (tb_1 176 rfl))), List.forall_mem_cons.mpr ⟨va_Nw.of rfl (hts _ (List.mem_append_right _ (tb_1 182 rfl))), List.forall_mem_cons.mpr ⟨va_Nw.of rfl (hts _ (List.mem_append_right _ (tb_1 237 rfl))), List.forall_mem_cons.mpr ⟨va_Nw.of rfl (hts _ (List.mem_append_right _ (tb_2 44 rfl))), List.forall_mem_cons.mpr ⟨va_Nw.of rfl (hts _ (List.mem_append_right _ (tb_2 60 rfl))), fun _ h => absurd h List.not_mem_nil⟩⟩⟩⟩⟩⟩⟩⟩
theorem xw_at {s : State} {args : Array Value} (hts : ∀ w ∈ lw_tbl, w.before args s = true) : xk_W s := ⟨va_Nw.of rfl (hts _ (List.mem_append_right _ (tb_5 52 rfl))), va_Nw.of rfl (hts _ (List.mem_append_right _ (tb_5 54 rfl))), va_Nw.of rfl (hts _ (List.mem_append_right _ (tb_5 56 rfl))), va_Nw.of rfl (hts _ (List.mem_append_right _ (tb_5 58 rfl)))⟩
abbrev pre_1 : Cond := Jvm.Cond.and given_1 narrow_1
def tmS (i : Nat) : Term := .string "CoachesVoteModel" (st_ix i)
def vlS (i : Nat) : Term := .field (tmS i) "java/lang/String" "value" "[B"
def neA (i : Nat) : List Cond := [.exactly (tmS i) "java/lang/String", .eq (.field (tmS i) "java/lang/String" "coder" "B") (.int 0), .arrayOf (vlS i) .byte, .eq (.length (vlS i)) (.int (Int32.ofNat (st_len.getD i 0)))]
set_option maxRecDepth 100000 in
theorem neA_in : ∀ i, i < 6 → ∀ w ∈ neA i, w ∈ flatC pre_1 := by decide +kernel
set_option maxRecDepth 100000 in
theorem neB_in : ∀ i, i < 6 → ∀ j, j < st_len.getD i 0 → Cond.eq (.elem (vlS i) (.int (Int32.ofNat j))) (.int ((st_byt.getD i []).getD j 0)) ∈ flatC pre_1 := by decide +kernel
set_option maxRecDepth 100000 in
theorem neC_in : ∀ i, i < 6 → ∀ j, j < 6 → i ≠ j → Cond.not (Cond.eq (tmS i) (tmS j)) ∈ flatC pre_1 ∨ Cond.not (Cond.eq (tmS j) (tmS i)) ∈ flatC pre_1 := by decide +kernel
set_option maxRecDepth 100000 in
theorem neD_in : ∀ i, i < 4 → Cond.exactly (.string "CoachesVote" (tx_ix i)) "java/lang/String" ∈ flatC pre_1 := by decide +kernel
set_option maxRecDepth 100000 in
theorem neE_in : ∀ w ∈ [Cond.isRef (.static Bundle.tN "UNASSIGNED_STACK" Bundle.steD), .isRef (.static Bundle.tN "SUPPRESSED_SENTINEL" Bundle.listD), .eq (.static "java/lang/String" "COMPACT_STRINGS" "Z") (.int 1), .isRef (.static "jdk/internal/util/Preconditions" "SIOOBE_FORMATTER" "Ljava/util/function/BiFunction;")], w ∈ flatC pre_1 := by decide +kernel
theorem sr_M : ∀ i, i < 6 → Cond.stringRef "CoachesVoteModel" (st_ix i) (st_tx i) ∈ lw_tbl := fun i hi => match i, hi with
  | 0, _ => (List.mem_append_right _ (tb_6 164 rfl))
  | 1, _ => (List.mem_append_right _ (tb_6 221 rfl))
  | 2, _ => (List.mem_append_right _ (tb_6 222 rfl))
  | 3, _ => (List.mem_append_right _ (tb_6 223 rfl))
  | 4, _ => (List.mem_append_right _ (tb_7 185 rfl))
  | 5, _ => (List.mem_append_right _ (tb_7 186 rfl))
  | i + 6, h => absurd h (by omega)
theorem sr_C : ∀ i, i < 4 → Cond.stringRef "CoachesVote" (tx_ix i) (tx_tx i) ∈ lw_tbl := fun i hi => match i, hi with
  | 0, _ => (List.mem_append_right _ (tb_5 89 rfl))
  | 1, _ => (List.mem_append_right _ (tb_5 124 rfl))
  | 2, _ => (List.mem_append_right _ (tb_5 134 rfl))
  | 3, _ => (List.mem_append_right _ (tb_5 142 rfl))
  | i + 4, h => absurd h (by omega)
section STA
variable {s : State} {args : Array Value} {A : Nat → Prop}
theorem st_at (hts : ∀ w ∈ lw_tbl, w.before args s = true) (hgv : pre_1.before args s = true) (hA : ∀ a : Nat, a < s.heap.size → ¬ A a) : ∃ adK adV : Nat → Nat, vk_S 6 st_len st_byt adK adV A s s.heap ∧ ∀ i, i < 6 → vk_R "CoachesVoteModel" (st_ix i) (st_tx i) (adK i) s := by
  have hs := flat_of_before _ hgv
  obtain ⟨adK, adV, h1, h2⟩ := vk_Sof (args := args) (s := s) (N := 6) (tm := tmS) (len := st_len) (byt := st_byt) (A := A) (by decide) (fun i hi => hs _ (neA_in i hi _ (by simp [neA]))) (fun i hi => hs _ (neA_in i hi _ (by simp [neA]))) (fun i hi => hs _ (neA_in i hi _ (by simp [neA, vlS]))) (fun i hi => hs _ (neA_in i hi _ (by simp [neA, vlS]))) (fun i hi j hj => hs _ (neB_in i hi j hj)) (fun i j hi hj hij => (neC_in i hi j hj hij).elim (fun z => Or.inl (hs _ z)) (fun z => Or.inr (hs _ z))) hA
  exact ⟨adK, adV, h1, fun i hi => vk_R.of (hts _ (sr_M i hi)) (h2 i hi)⟩
theorem tx_at (hts : ∀ w ∈ lw_tbl, w.before args s = true) (hgv : pre_1.before args s = true) : ∀ i, i < 4 → ∃ a, vk_R "CoachesVote" (tx_ix i) (tx_tx i) a s := fun i hi => by
  obtain ⟨a, c, cA, kA, q1, -⟩ := Cond.exactly_spec (args := args) (first := s) (o := none) (s := s) (idx := []) (t := .string "CoachesVote" (tx_ix i)) (cls := "java/lang/String") (flat_of_before _ hgv _ (neD_in i hi))
  exact ⟨a, vk_R.of (hts _ (sr_C i hi)) q1⟩
theorem z1_at (hts : ∀ w ∈ lw_tbl, w.before args s = true) (hgv : pre_1.before args s = true) (hA : ∀ a : Nat, a < s.heap.size → ¬ A a) : vx_Zq Bundle.tN "UNASSIGNED_STACK" Bundle.steD A s s.heap := vx_Zqof (hts _ (List.mem_append_right _ (tb_5 77 rfl))) (hts _ (List.mem_append_right _ (tb_1 20 rfl))) (flat_of_before _ hgv _ (neE_in _ (List.mem_cons_self))) hA
theorem z2_at (hts : ∀ w ∈ lw_tbl, w.before args s = true) (hgv : pre_1.before args s = true) (hA : ∀ a : Nat, a < s.heap.size → ¬ A a) : vx_Zq Bundle.tN "SUPPRESSED_SENTINEL" Bundle.listD A s s.heap := vx_Zqof (hts _ (List.mem_append_right _ (tb_5 79 rfl))) (hts _ (List.mem_append_right _ (tb_1 20 rfl))) (flat_of_before _ hgv _ (neE_in _ (List.mem_cons_of_mem _ List.mem_cons_self))) hA
theorem z3_at (hts : ∀ w ∈ lw_tbl, w.before args s = true) (hgv : pre_1.before args s = true) (hA : ∀ a : Nat, a < s.heap.size → ¬ A a) : va_Z "java/lang/String" "COMPACT_STRINGS" "Z" (.int 1) A s s.heap := va_Zof (hts _ (List.mem_append_right _ (tb_6 182 rfl))) (hts _ (List.mem_append_right _ (tb_1 16 rfl))) (va_eqi (flat_of_before _ hgv _ (neE_in _ (List.mem_cons_of_mem _ (List.mem_cons_of_mem _ List.mem_cons_self))))) hA
theorem z4_at (hts : ∀ w ∈ lw_tbl, w.before args s = true) (hgv : pre_1.before args s = true) (hA : ∀ a : Nat, a < s.heap.size → ¬ A a) : va_Zq "jdk/internal/util/Preconditions" "SIOOBE_FORMATTER" "Ljava/util/function/BiFunction;" A s s.heap := va_Zqof (hts _ (List.mem_append_right _ (tb_6 198 rfl))) (hts _ (List.mem_append_right _ (tb_1 18 rfl))) (flat_of_before _ hgv _ (neE_in _ (List.mem_cons_of_mem _ (List.mem_cons_of_mem _ (List.mem_cons_of_mem _ List.mem_cons_self))))) hA
end STA
