/-! the plain machine: values, heaps, what they stand for -/
abbrev PV : Type := Int ⊕ (Int ⊕ Option Nat)
abbrev pI (z : Int) : PV := .inl z
abbrev pL (z : Int) : PV := .inr (.inl z)
abbrev pR (a : Nat) : PV := .inr (.inr (some a))
abbrev pU : PV := .inr (.inr none)
/-- shapes (kind below 50: an object of that number; 100 ints, 101 booleans, 102 longs, 103 trains; and the length), references, numbers -/
abbrev PH : Type := List (Nat × Nat) × (Nat → Nat → Option Nat) × (Nat → Int → Int)
/-- classes' numbers and slots, array types' numbers, addresses, where the system begins -/
abbrev PE : Type := va_G × (Nat → ClassId) × (Nat → Nat) × Nat
abbrev PMt : Type := MethodName × ByteArray × Nat × Option FieldType
abbrev r32 (z : Int) : Prop := -2147483648 ≤ z ∧ z ≤ 2147483647
abbrev r64 (z : Int) : Prop := -9223372036854775808 ≤ z ∧ z ≤ 9223372036854775807
abbrev pm_cl : List vw_C := [(RX0, TX0, 4), (RX1, TX1, 5), (RX2, TX2, 3), (RX3, TX3, 2), (RX4, TX4, 5), (RX5, TX5, 4), (RX6, TX6, 5), (RX7, TX7, 3), (RX8, TX8, 3), (RX9, TX9, 8), (RX10, TX10, 7), (RX11, TX11, 15), (RX12, TX12, 50)]
def pm_nf (k : Nat) : Nat := [4, 5, 3, 2, 5, 4, 5, 3, 3, 8, 7, 15, 50].getD k 0
def pm_ty (k : Nat) : Nat → FieldType := [tyX0, tyX1, tyX2, tyX3, tyX4, tyX5, tyX6, tyX7, tyX8, tyX9, tyX10, tyX11, tyX12].getD k (fun _ => .int)
/-- is the field a number -/
def pm_nu (k j : Nat) : Bool := match pm_ty k j with
  | .int => true
  | .boolean => true
  | _ => false
def tv (E : PE) (v : PV) : Value := match v with
  | .inl z => .int (Int32.ofInt z)
  | .inr (.inl z) => .long (Int64.ofInt z)
  | .inr (.inr (some a)) => .ref (E.2.2.1 a)
  | .inr (.inr none) => .null
def pm_fv (E : PE) (g : PH) (a k j : Nat) : Value := if pm_nu k j then .int (Int32.ofInt (g.2.2 a j)) else va_rf ((g.2.1 a j).map E.2.2.1)
def pm_ce (E : PE) (g : PH) (a : Nat) (q : Nat × Nat) : va_E :=
  if q.1 < 50 then .inr (q.1, (List.range (pm_nf q.1)).map (pm_fv E g a q.1))
  else if q.1 = 102 then .inl (E.2.1 2, q.2, .inr (.inl (fun j => Int64.ofInt (g.2.2 a j))))
  else if q.1 = 103 then .inl (E.2.1 3, q.2, .inr (.inr (.inr (.inr (fun j => (g.2.1 a j).map E.2.2.1)))))
  else .inl (E.2.1 (q.1 - 100), q.2, .inl (fun j => Int32.ofInt (g.2.2 a j)))
def pm_w (E : PE) (g : PH) (a : Nat) : Nat × va_E := (E.2.2.1 a, pm_ce E g a (g.1.getD a (100, 0)))
def pm_wl (E : PE) (g : PH) : va_W := (List.range g.1.length).map (pm_w E g)
abbrev pm_tys (E : PE) : List (ClassId × FieldType) := [(E.2.1 0, .int), (E.2.1 1, .boolean), (E.2.1 2, .long), (E.2.1 3, .object "CoachesVote$Train")]
/-- numbers lie in their ranges -/
def pm_nz (g : PH) : Prop := ∀ (a : Nat) (q : Nat × Nat), g.1[a]? = some q → ∀ i, (q.1 ≠ 102 → r32 (g.2.2 a i)) ∧ r64 (g.2.2 a i)
abbrev pm_A (E : PE) : Nat → Prop := fun q => E.2.2.2 ≤ q
def pm_Rel (E : PE) (g : PH) (H : Heap) : Prop := va_P E.1 pm_cl (pm_wl E g) H ∧ va_D (pm_A E) (pm_wl E g) ∧ pm_nz g
/-- the reference's six String constants: cells 1000.., their signs' rows 1100.. -/
def st_ix (i : Nat) : Nat := [243, 251, 253, 255, 397, 399].getD i 0
def st_tx (i : Nat) : String := ["rckdpn", "<>=", "+-", "*/", "rcxgws", "abcdefghijkl"].getD i ""
def st_len : List Nat := [6, 3, 2, 2, 6, 12]
def st_byt : List (List Int32) := [[114, 99, 107, 100, 112, 110], [60, 62, 61], [43, 45], [42, 47], [114, 99, 120, 103, 119, 115], [97, 98, 99, 100, 101, 102, 103, 104, 105, 106, 107, 108]]
def pm_St (E : PE) (s : State) : Prop := vk_S 6 st_len st_byt (fun i => E.2.2.1 (1000 + i)) (fun i => E.2.2.1 (1100 + i)) (pm_A E) s s.heap ∧ (∀ i, i < 6 → vk_R "CoachesVoteModel" (st_ix i) (st_tx i) (E.2.2.1 (1000 + i)) s) ∧ va_Z "java/lang/String" "COMPACT_STRINGS" "Z" (.int 1) (pm_A E) s s.heap ∧ (va_Z "jdk/internal/util/Preconditions" "SIOOBE_FORMATTER" "Ljava/util/function/BiFunction;" .null (pm_A E) s s.heap ∨ va_Z "jdk/internal/util/Preconditions" "SIOOBE_FORMATTER" "Ljava/util/function/BiFunction;" (.ref (E.2.2.1 1200)) (pm_A E) s s.heap)
theorem pm_St.moved {E : PE} {s U : State} (h : pm_St E s) (hW : s.WarmedH U.vm) (hq : ∀ a : Nat, a < s.heap.size → ¬ pm_A E a → U.heap[a]? = s.heap[a]?) : pm_St E U :=
  ⟨vk_S.kept (vk_S.moved hW.alike h.1) hq, fun i hi => vk_R.warm hW (h.2.1 i hi), va_Z.kept (va_Z.moved hW.alike h.2.2.1) hq, h.2.2.2.elim (fun z => Or.inl (va_Z.kept (va_Z.moved hW.alike z) hq)) (fun z => Or.inr (va_Z.kept (va_Z.moved hW.alike z) hq))⟩
def pm_Fr (E : PE) (M : PMt) (p : Program) (s : State) (m : MethodId) (args : Array Value) (meth : Method) (c : Code) : Prop :=
  p.tables.exec = Jvm.exec ∧ c.code = M.2.1 ∧ c.maxLocals = M.2.2.1 ∧ meth.sig.returnType = M.2.2.2 ∧ meth.locks = false ∧ s.vm.findClass M.1.cls = some m.cls ∧ (∀ w ∈ tblG, w.before args s = true) ∧ va_K E.1 pm_cl (pm_tys E) s ∧ E.2.2.2 ≤ s.heap.size ∧ pm_St E s
def pm_asc (E : PE) (ls : List PV) : List (Nat × Value) := (List.range ls.length).filterMap (fun i => match ls[i]? with
  | some v => if v = pU then none else some (i, tv E v)
  | none => none)
def pm_rs (E : PE) (r : Option PV) : List Value := (r.map (tv E)).toList
def pm_ok (ret : Option FieldType) (r : Option PV) : Prop := match ret, r with
  | none, none => True
  | some .int, some (.inl _) => True
  | some .boolean, some (.inl z) => z = 0 ∨ z = 1
  | some .byte, some (.inl z) => z = 0
  | some .char, some (.inl z) => 0 ≤ z ∧ z ≤ 255
  | some .long, some (.inr (.inl _)) => True
  | some (.object _), some (.inr (.inr (some _))) => True
  | _, _ => False
def pm_ri (r : Option PV) : Instr := match r with
  | none => .return_
  | some (.inl _) => .ireturn
  | some (.inr (.inl _)) => .lreturn
  | some (.inr (.inr _)) => .areturn
/-- a run of a method from a place on: it ends with an answer and a heap of which Q holds -/
def RR (M : PMt) (d kc ks pc : Nat) (ls st : List PV) (g : PH) (Q : Option PV → PH → Prop) : Prop :=
  ∀ (E : PE) (p : Program) (l : Launch) (e : Env) (R : Room) (s : State) (m : MethodId) (args : Array Value) (below : List Frame) (meth : Method) (c : Code) (H : Heap) (locs : List Loc) (cells slots : Nat) (Qf : State → Prop) (L : Array Slot),
    pm_Fr E M p s m args meth c → d ≤ R.frames → 64 * d ≤ R.locals → cells + kc ≤ R.cells → slots + ks ≤ R.slots →
    pm_Rel E g H → va_S (pm_A E) s.heap H locs → lv_has L M.2.2.1 (pm_asc E ls) →
    (∀ (r : Option PV) (g' : PH) (H' : Heap) (locs' : List Loc) (pc' : Nat) (L' : Array Slot), Q r g' → pm_ok M.2.2.2 r → pm_Rel E g' H' → va_S (pm_A E) s.heap H' locs' → decode M.2.1 pc' = .ok (pm_ri r, 1) →
      W p l e R s m args below meth c H' locs' (cells + kc) (slots + ks) Qf (F0 m pc' L' (pm_rs E r))) →
    W p l e R s m args below meth c H locs cells slots Qf (F0 m pc L (st.map (tv E)))
/-! basics -/
theorem r32_i {z : Int} (h : r32 z) : (Int32.ofInt z).toInt = z := Int32.toInt_ofInt_of_le h.1 (by have := h.2; omega)
theorem r64_i {z : Int} (h : r64 z) : (Int64.ofInt z).toInt = z := Int64.toInt_ofInt_of_le h.1 (by have := h.2; omega)
theorem pm_asc_mem {E : PE} {ls : List PV} {i : Nat} {x : Value} : (i, x) ∈ pm_asc E ls ↔ ∃ v, ls[i]? = some v ∧ v ≠ pU ∧ x = tv E v := by
  unfold pm_asc
  rw [List.mem_filterMap]
  constructor
  · rintro ⟨j, hj, h⟩
    split at h
    · rename_i v hv
      split at h
      · cases h
      · rename_i hu
        cases h
        exact ⟨v, hv, hu, rfl⟩
    · cases h
  · rintro ⟨v, hv, hu, rfl⟩
    refine ⟨i, List.mem_range.mpr (List.getElem?_eq_some_iff.mp hv).1, ?_⟩
    simp only [hv]
    rw [if_neg hu]
theorem pm_at {E : PE} {ls : List PV} {L : Array Slot} {n i : Nat} {v : PV} (h : lv_has L n (pm_asc E ls)) (hv : ls[i]? = some v) (hu : v ≠ pU) : L[i]? = some (.val (tv E v)) := h.2.2 (i, tv E v) (pm_asc_mem.mpr ⟨v, hv, hu, rfl⟩)
theorem pm_wl_at {E : PE} {g : PH} {a : Nat} {q : Nat × Nat} (h : g.1[a]? = some q) : (pm_wl E g)[a]? = some (E.2.2.1 a, pm_ce E g a q) := by
  have hl := (List.getElem?_eq_some_iff.mp h).1
  unfold pm_wl
  rw [List.getElem?_map, List.getElem?_range hl]
  show some (pm_w E g a) = _
  unfold pm_w
  rw [List.getD_eq_getElem?_getD, h]
  rfl
/-- one cell of a list by places is another -/
theorem pm_set {α : Type} {n k : Nat} {F F' : Nat → α} (h : ∀ j, j < n → j ≠ k → F' j = F j) : ((List.range n).map F).set k (F' k) = (List.range n).map F' := by
  apply List.ext_getElem?
  intro j
  rw [List.getElem?_set, List.getElem?_map, List.getElem?_map]
  by_cases hj : j < n
  · rw [List.getElem?_range hj]
    by_cases hk : k = j
    · subst hk
      simp [hj]
    · simp [hk, h j hj (fun e => hk e.symm)]
  · have : (List.range n)[j]? = none := by simp; omega
    rw [this]
    by_cases hk : k = j
    · subst hk
      simp [hj]
    · simp [hk]
