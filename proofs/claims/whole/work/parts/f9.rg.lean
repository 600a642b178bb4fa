/-! the machine of the law: RR with the script and with places where it stops (throws) -/
abbrev SC : Type := Nat × (Nat → Int) × List ExceptionTableEntry
def tx_ix (i : Nat) : Nat := [155, 178, 203, 430].getD i 0
def tx_tx (i : Nat) : String := ["no such halt, or nothing such of it", "no such coach, or nothing such of it", "no such passenger, or nothing such of it", "no such number of the row"].getD i ""
def nsX : String := "java/util/NoSuchElementException"
def nsN : List String := ["java/lang/RuntimeException", "java/lang/Exception"]
/-- words of the throw that no call hands on by itself -/
def xk_W (s : State) : Prop := va_Nw (.castable nsX nsX) s ∧ va_Nw (.declares (Bundle.initS "java/lang/RuntimeException")) s ∧ va_Nw (.declares (Bundle.initS "java/lang/Exception")) s ∧ va_Nw (.declares (Bundle.initS Bundle.tN)) s
/-- what is known of the start beside: no traces, the script, what throws need -/
def pm_Sy (sc : SC) (E : PE) (s : State) (l : Launch) : Prop := l.stackTraces = false ∧ va_T .int (E.2.2.1 1300) sc.1 (fun j => .int (Int32.ofInt (sc.2.1 j))) (pm_A E) s s.heap ∧ vx_Zq Bundle.tN "UNASSIGNED_STACK" Bundle.steD (pm_A E) s s.heap ∧ vx_Zq Bundle.tN "SUPPRESSED_SENTINEL" Bundle.listD (pm_A E) s s.heap ∧ xk_W s ∧ ∀ i, i < 4 → ∃ a, vk_R "CoachesVote" (tx_ix i) (tx_tx i) a s
/-- .. and of the method's own table -/
def pm_Sx (sc : SC) (E : PE) (s : State) (l : Launch) (c : Code) : Prop := pm_Sy sc E s l ∧ c.exceptionTable.toList = sc.2.2
def RG (sc : SC) (M : PMt) (d kc ks pc : Nat) (ls st : List PV) (g : PH) (Q : Option PV → PH → Prop) : Prop :=
  ∀ (E : PE) (p : Program) (l : Launch) (e : Env) (R : Room) (s : State) (m : MethodId) (args : Array Value) (below : List Frame) (meth : Method) (c : Code) (H : Heap) (locs : List Loc) (cells slots : Nat) (Qf : State → Prop) (L : Array Slot),
    pm_Fr E M p s m args meth c → d ≤ R.frames → 64 * d ≤ R.locals → cells + kc ≤ R.cells → slots + ks ≤ R.slots →
    pm_Rel E g H → va_S (pm_A E) s.heap H locs → lv_has L M.2.2.1 (pm_asc E ls) →
    ((∀ (r : Option PV) (g' : PH) (H' : Heap) (locs' : List Loc) (pc' : Nat) (L' : Array Slot), Q r g' → pm_ok M.2.2.2 r → pm_Rel E g' H' → va_S (pm_A E) s.heap H' locs' → decode M.2.1 pc' = .ok (pm_ri r, 1) →
      W p l e R s m args below meth c H' locs' (cells + kc) (slots + ks) Qf (F0 m pc' L' (pm_rs E r))) ∧
     (∀ (t : Nat) (g' : PH) (H' : Heap) (locs' : List Loc) (L' : Array Slot) (cells' slots' : Nat), cells' ≤ cells + kc → slots' ≤ slots + ks → Q (some (pR (5000 + t))) g' → pm_Rel E g' H' → va_S (pm_A E) s.heap H' locs' → L'.size = M.2.2.1 →
      W p l e R s m args below meth c H' locs' cells' slots' Qf (F0 m t L' []))) →
    pm_Sx sc E s l c →
    W p l e R s m args below meth c H locs cells slots Qf (F0 m pc L (st.map (tv E)))

section GPMR
variable {sc : SC}
variable {M : PMt} {d kc ks pc : Nat} {ls st : List PV} {g : PH} {Q : Option PV → PH → Prop}
theorem RG.of {pc2 : Nat} {st2 : List PV} (hh : ∀ {E : PE} {p : Program} {l : Launch} {e : Env} {R : Room} {s : State} {m : MethodId} {args : Array Value} {below : List Frame} {meth : Method} {c : Code} {H : Heap} {locs : List Loc} {cells slots : Nat} {Qf : State → Prop} {L : Array Slot}, pm_Fr E M p s m args meth c → lv_has L M.2.2.1 (pm_asc E ls) → W p l e R s m args below meth c H locs cells slots Qf (F0 m pc2 L (st2.map (tv E))) → W p l e R s m args below meth c H locs cells slots Qf (F0 m pc L (st.map (tv E)))) (k : RG sc M d kc ks pc2 ls st2 g Q) : RG sc M d kc ks pc ls st g Q :=
  fun E p l e R s m args below meth c H locs cells slots Qf L hF h1 h2 h3 h4 hR hS hL hq hZ => hh hF hL (k E p l e R s m args below meth c H locs cells slots Qf L hF h1 h2 h3 h4 hR hS hL hq hZ)
theorem RG.of2 {pc2 pc3 : Nat} {st2 st3 : List PV} {P P2 : Prop} (hh : ∀ {E : PE} {p : Program} {l : Launch} {e : Env} {R : Room} {s : State} {m : MethodId} {args : Array Value} {below : List Frame} {meth : Method} {c : Code} {H : Heap} {locs : List Loc} {cells slots : Nat} {Qf : State → Prop} {L : Array Slot}, pm_Fr E M p s m args meth c → (P → W p l e R s m args below meth c H locs cells slots Qf (F0 m pc2 L (st2.map (tv E)))) → (P2 → W p l e R s m args below meth c H locs cells slots Qf (F0 m pc3 L (st3.map (tv E)))) → W p l e R s m args below meth c H locs cells slots Qf (F0 m pc L (st.map (tv E)))) (k : P → RG sc M d kc ks pc2 ls st2 g Q) (k2 : P2 → RG sc M d kc ks pc3 ls st3 g Q) : RG sc M d kc ks pc ls st g Q :=
  fun E p l e R s m args below meth c H locs cells slots Qf L hF h1 h2 h3 h4 hR hS hL hq hZ => hh hF (fun x => k x E p l e R s m args below meth c H locs cells slots Qf L hF h1 h2 h3 h4 hR hS hL hq hZ) (fun x => k2 x E p l e R s m args below meth c H locs cells slots Qf L hF h1 h2 h3 h4 hR hS hL hq hZ)
theorem G_iconst {z : Int} (hd : decode M.2.1 pc = .ok (.iconst z, 1)) (k : RG sc M d kc ks (pc + 1) ls (pI z :: st) g Q) : RG sc M d kc ks pc ls st g Q :=
  RG.of (fun hF _ k => lv_iconst hF.1 hF.2.1 hd rfl k) k
theorem G_bipush {z : Int} (hd : decode M.2.1 pc = .ok (.bipush z, 2)) (hz : (Int8.ofInt z).toInt32 = Int32.ofInt z) (k : RG sc M d kc ks (pc + 2) ls (pI z :: st) g Q) : RG sc M d kc ks pc ls st g Q :=
  RG.of (fun hF _ k => lv_bipush hF.1 hF.2.1 hd hz k) k
theorem G_sipush {z : Int} (hd : decode M.2.1 pc = .ok (.sipush z, 3)) (hz : (Int16.ofInt z).toInt32 = Int32.ofInt z) (k : RG sc M d kc ks (pc + 3) ls (pI z :: st) g Q) : RG sc M d kc ks pc ls st g Q :=
  RG.of (fun hF _ k => lv_sipush hF.1 hF.2.1 hd hz k) k
theorem G_lconst {n : Fin 2} {z : Int} (hd : decode M.2.1 pc = .ok (.lconst n, 1)) (hz : Int64.ofNat (n : Nat) = Int64.ofInt z) (k : RG sc M d kc ks (pc + 1) ls (pL z :: st) g Q) : RG sc M d kc ks pc ls st g Q :=
  RG.of (fun hF _ k => lv_lconst hF.1 hF.2.1 hd hz k) k
theorem G_ldc {z : Int} {i : Nat} (hd : decode M.2.1 pc = .ok (.ldc i, 2)) (hw : Cond.constant M.1.cls i (Int32.ofInt z) ∈ tblG) (k : RG sc M d kc ks (pc + 2) ls (pI z :: st) g Q) : RG sc M d kc ks pc ls st g Q :=
  RG.of (fun hF _ k => lv_ldc hF.1 hF.2.1 hF.2.2.2.2.2.1 (hF.2.2.2.2.2.2.1 _ hw) hd k) k
theorem G_ldcw {z : Int} {i : Nat} (hd : decode M.2.1 pc = .ok (.ldc_w i, 3)) (hw : Cond.constant M.1.cls i (Int32.ofInt z) ∈ tblG) (k : RG sc M d kc ks (pc + 3) ls (pI z :: st) g Q) : RG sc M d kc ks pc ls st g Q :=
  RG.of (fun hF _ k => lv_ldcw hF.1 hF.2.1 hF.2.2.2.2.2.1 (hF.2.2.2.2.2.2.1 _ hw) hd k) k
theorem G_ldc2 {z : Int} {i : Nat} (hd : decode M.2.1 pc = .ok (.ldc2_w i, 3)) (hw : Cond.constantLong M.1.cls i (Int64.ofInt z) ∈ tblG) (k : RG sc M d kc ks (pc + 3) ls (pL z :: st) g Q) : RG sc M d kc ks pc ls st g Q :=
  RG.of (fun hF _ k => lv_ldc2 hF.1 hF.2.1 hF.2.2.2.2.2.1 (hF.2.2.2.2.2.2.1 _ hw) hd k) k
theorem G_iload_n {n : Fin 4} {z : Int} (hd : decode M.2.1 pc = .ok (.iload_n n, 1)) (hl : ls[(n : Nat)]? = some (pI z)) (k : RG sc M d kc ks (pc + 1) ls (pI z :: st) g Q) : RG sc M d kc ks pc ls st g Q :=
  RG.of (fun hF hL k => lv_iload_n hF.1 hF.2.1 hd rfl (pm_at hL hl (fun e => by cases e)) k) k
theorem G_iload {i : Nat} {z : Int} (hd : decode M.2.1 pc = .ok (.iload i, 2)) (hl : ls[i]? = some (pI z)) (k : RG sc M d kc ks (pc + 2) ls (pI z :: st) g Q) : RG sc M d kc ks pc ls st g Q :=
  RG.of (fun hF hL k => lv_iload hF.1 hF.2.1 hd (pm_at hL hl (fun e => by cases e)) k) k
theorem G_lload_n {n : Fin 4} {z : Int} (hd : decode M.2.1 pc = .ok (.lload_n n, 1)) (hl : ls[(n : Nat)]? = some (pL z)) (k : RG sc M d kc ks (pc + 1) ls (pL z :: st) g Q) : RG sc M d kc ks pc ls st g Q :=
  RG.of (fun hF hL k => lv_lload_n hF.1 hF.2.1 hd rfl (pm_at hL hl (fun e => by cases e)) k) k
theorem G_lload {i : Nat} {z : Int} (hd : decode M.2.1 pc = .ok (.lload i, 2)) (hl : ls[i]? = some (pL z)) (k : RG sc M d kc ks (pc + 2) ls (pL z :: st) g Q) : RG sc M d kc ks pc ls st g Q :=
  RG.of (fun hF hL k => lv_lload hF.1 hF.2.1 hd (pm_at hL hl (fun e => by cases e)) k) k
theorem G_aload_n {n : Fin 4} {a : Nat} (hd : decode M.2.1 pc = .ok (.aload_n n, 1)) (hl : ls[(n : Nat)]? = some (pR a)) (k : RG sc M d kc ks (pc + 1) ls (pR a :: st) g Q) : RG sc M d kc ks pc ls st g Q :=
  RG.of (fun hF hL k => lv_aload_n hF.1 hF.2.1 hd rfl (pm_at hL hl (fun e => by cases e)) k) k
theorem G_aload {i : Nat} {a : Nat} (hd : decode M.2.1 pc = .ok (.aload i, 2)) (hl : ls[i]? = some (pR a)) (k : RG sc M d kc ks (pc + 2) ls (pR a :: st) g Q) : RG sc M d kc ks pc ls st g Q :=
  RG.of (fun hF hL k => lv_aload hF.1 hF.2.1 hd (pm_at hL hl (fun e => by cases e)) k) k
theorem G_istore_n {n : Fin 4} {z : Int} (hd : decode M.2.1 pc = .ok (.istore_n n, 1)) (hn : (n : Nat) < M.2.2.1) (k : RG sc M d kc ks (pc + 1) (pm_s1 ls n (pI z)) st g Q) : RG sc M d kc ks pc ls (pI z :: st) g Q :=
  fun E p l e R s m args below meth c H locs cells slots Qf L hF h1 h2 h3 h4 hR hS hL hq hZ => lv_istore_n hF.1 hF.2.1 hd rfl hL hn rfl (fun L' hL' => k E p l e R s m args below meth c H locs cells slots Qf L' hF h1 h2 h3 h4 hR hS (pm_s1_has (v := pI z) hL') hq hZ)
theorem G_istore {i : Nat} {z : Int} (hd : decode M.2.1 pc = .ok (.istore i, 2)) (hn : i < M.2.2.1) (k : RG sc M d kc ks (pc + 2) (pm_s1 ls i (pI z)) st g Q) : RG sc M d kc ks pc ls (pI z :: st) g Q :=
  fun E p l e R s m args below meth c H locs cells slots Qf L hF h1 h2 h3 h4 hR hS hL hq hZ => lv_istore hF.1 hF.2.1 hd hL hn rfl (fun L' hL' => k E p l e R s m args below meth c H locs cells slots Qf L' hF h1 h2 h3 h4 hR hS (pm_s1_has (v := pI z) hL') hq hZ)
theorem G_astore_n {n : Fin 4} {a : Nat} (hd : decode M.2.1 pc = .ok (.astore_n n, 1)) (hn : (n : Nat) < M.2.2.1) (k : RG sc M d kc ks (pc + 1) (pm_s1 ls n (pR a)) st g Q) : RG sc M d kc ks pc ls (pR a :: st) g Q :=
  fun E p l e R s m args below meth c H locs cells slots Qf L hF h1 h2 h3 h4 hR hS hL hq hZ => lv_astore_n hF.1 hF.2.1 hd rfl hL hn rfl (fun L' hL' => k E p l e R s m args below meth c H locs cells slots Qf L' hF h1 h2 h3 h4 hR hS (pm_s1_has (v := pR a) hL') hq hZ)
theorem G_astore {i : Nat} {a : Nat} (hd : decode M.2.1 pc = .ok (.astore i, 2)) (hn : i < M.2.2.1) (k : RG sc M d kc ks (pc + 2) (pm_s1 ls i (pR a)) st g Q) : RG sc M d kc ks pc ls (pR a :: st) g Q :=
  fun E p l e R s m args below meth c H locs cells slots Qf L hF h1 h2 h3 h4 hR hS hL hq hZ => lv_astore hF.1 hF.2.1 hd hL hn rfl (fun L' hL' => k E p l e R s m args below meth c H locs cells slots Qf L' hF h1 h2 h3 h4 hR hS (pm_s1_has (v := pR a) hL') hq hZ)
theorem G_lstore_n {n : Fin 4} {z : Int} (hd : decode M.2.1 pc = .ok (.lstore_n n, 1)) (hn : (n : Nat) + 1 < M.2.2.1) (k : RG sc M d kc ks (pc + 1) (pm_s2 ls n (pL z)) st g Q) : RG sc M d kc ks pc ls (pL z :: st) g Q :=
  fun E p l e R s m args below meth c H locs cells slots Qf L hF h1 h2 h3 h4 hR hS hL hq hZ => lv_lstore_n hF.1 hF.2.1 hd rfl hL hn rfl (fun L' hL' => k E p l e R s m args below meth c H locs cells slots Qf L' hF h1 h2 h3 h4 hR hS (pm_s2_has (v := pL z) hL') hq hZ)
theorem G_lstore {i : Nat} {z : Int} (hd : decode M.2.1 pc = .ok (.lstore i, 2)) (hn : i + 1 < M.2.2.1) (k : RG sc M d kc ks (pc + 2) (pm_s2 ls i (pL z)) st g Q) : RG sc M d kc ks pc ls (pL z :: st) g Q :=
  fun E p l e R s m args below meth c H locs cells slots Qf L hF h1 h2 h3 h4 hR hS hL hq hZ => lv_lstore hF.1 hF.2.1 hd hL hn rfl (fun L' hL' => k E p l e R s m args below meth c H locs cells slots Qf L' hF h1 h2 h3 h4 hR hS (pm_s2_has (v := pL z) hL') hq hZ)
theorem G_iinc {i : Nat} {z w : Int} (hd : decode M.2.1 pc = .ok (.iinc i w, 3)) (hl : ls[i]? = some (pI z)) (hn : i < M.2.2.1) (k : RG sc M d kc ks (pc + 3) (pm_s1 ls i (pI (z + w))) st g Q) : RG sc M d kc ks pc ls st g Q := by
  intro E p l e R s m args below meth c H locs cells slots Qf L hF h1 h2 h3 h4 hR hS hL hq hZ
  obtain ⟨j, hj⟩ := List.getElem?_of_mem (pm_asc_mem (E := E).mpr ⟨pI z, hl, (fun e => by cases e), rfl⟩)
  exact lv_iinc (v := Int32.ofInt (z + w)) hF.1 hF.2.1 hd hL hj (Int32.ofInt_add z w).symm hn rfl (fun L' hL' => k E p l e R s m args below meth c H locs cells slots Qf L' hF h1 h2 h3 h4 hR hS (pm_s1_has (v := pI (z + w)) hL') hq hZ)
theorem G_iadd {a b : Int} (hd : decode M.2.1 pc = .ok (.iadd, 1)) (k : RG sc M d kc ks (pc + 1) ls (pI (a + b) :: st) g Q) : RG sc M d kc ks pc ls (pI b :: pI a :: st) g Q :=
  RG.of (fun hF _ k => lv_iadd hF.1 hF.2.1 hd (by rw [← Int32.ofInt_add]; exact k)) k
theorem G_isub {a b : Int} (hd : decode M.2.1 pc = .ok (.isub, 1)) (k : RG sc M d kc ks (pc + 1) ls (pI (a - b) :: st) g Q) : RG sc M d kc ks pc ls (pI b :: pI a :: st) g Q :=
  RG.of (fun hF _ k => lv_isub hF.1 hF.2.1 hd (by rw [← Int32.ofInt_sub]; exact k)) k
theorem G_imul {a b : Int} (hd : decode M.2.1 pc = .ok (.imul, 1)) (k : RG sc M d kc ks (pc + 1) ls (pI (a * b) :: st) g Q) : RG sc M d kc ks pc ls (pI b :: pI a :: st) g Q :=
  RG.of (fun hF _ k => lv_imul hF.1 hF.2.1 hd (by rw [← Int32.ofInt_mul]; exact k)) k
theorem G_ineg {a : Int} (hd : decode M.2.1 pc = .ok (.ineg, 1)) (k : RG sc M d kc ks (pc + 1) ls (pI (-a) :: st) g Q) : RG sc M d kc ks pc ls (pI a :: st) g Q :=
  RG.of (fun hF _ k => lv_ineg hF.1 hF.2.1 hd (by have e := Int32.ofInt_neg a; first | (rw [← e]; exact k) | (simpa [e, tv] using k))) k
theorem G_iand {a b : Int} (hd : decode M.2.1 pc = .ok (.iand, 1)) (k : RG sc M d kc ks (pc + 1) ls (pI (iAnd a b) :: st) g Q) : RG sc M d kc ks pc ls (pI b :: pI a :: st) g Q :=
  RG.of (fun hF _ k => lv_iand hF.1 hF.2.1 hd (by simpa [tv, iAnd, Int32.ofInt_toInt] using k)) k
theorem G_ior {a b : Int} (hd : decode M.2.1 pc = .ok (.ior, 1)) (k : RG sc M d kc ks (pc + 1) ls (pI (iOr a b) :: st) g Q) : RG sc M d kc ks pc ls (pI b :: pI a :: st) g Q :=
  RG.of (fun hF _ k => lv_ior hF.1 hF.2.1 hd (by simpa [tv, iOr, Int32.ofInt_toInt] using k)) k
theorem G_ixor {a b : Int} (hd : decode M.2.1 pc = .ok (.ixor, 1)) (k : RG sc M d kc ks (pc + 1) ls (pI (iXor a b) :: st) g Q) : RG sc M d kc ks pc ls (pI b :: pI a :: st) g Q :=
  RG.of (fun hF _ k => lv_ixor hF.1 hF.2.1 hd (by simpa [tv, iXor, Int32.ofInt_toInt] using k)) k
theorem G_ishl {a b : Int} (hd : decode M.2.1 pc = .ok (.ishl, 1)) (k : RG sc M d kc ks (pc + 1) ls (pI (iShl a b) :: st) g Q) : RG sc M d kc ks pc ls (pI b :: pI a :: st) g Q :=
  RG.of (fun hF _ k => lv_ishl hF.1 hF.2.1 hd (by simpa only [List.map, tv, iShl, Int32.ofInt_toInt] using k)) k
theorem G_ishr {a b : Int} (hd : decode M.2.1 pc = .ok (.ishr, 1)) (k : RG sc M d kc ks (pc + 1) ls (pI (iShr a b) :: st) g Q) : RG sc M d kc ks pc ls (pI b :: pI a :: st) g Q :=
  RG.of (fun hF _ k => lv_ishr hF.1 hF.2.1 hd (by simpa only [List.map, tv, iShr, Int32.ofInt_toInt] using k)) k
theorem G_iushr {a b : Int} (hd : decode M.2.1 pc = .ok (.iushr, 1)) (k : RG sc M d kc ks (pc + 1) ls (pI (iUshr a b) :: st) g Q) : RG sc M d kc ks pc ls (pI b :: pI a :: st) g Q :=
  RG.of (fun hF _ k => lv_iushr hF.1 hF.2.1 hd rfl (by simpa only [List.map, tv, iUshr, Int32.ofInt_toInt] using k)) k
theorem G_idiv {a b : Int} (hd : decode M.2.1 pc = .ok (.idiv, 1)) (hb : r32 b) (h0 : b ≠ 0) (k : RG sc M d kc ks (pc + 1) ls (pI (iDiv a b) :: st) g Q) : RG sc M d kc ks pc ls (pI b :: pI a :: st) g Q :=
  RG.of (fun hF _ k => lv_idiv hF.1 hF.2.1 hd (fun e => h0 ((i_eq hb (by decide)).mp (e.trans i_0))) (by simpa only [List.map, tv, iDiv, Int32.ofInt_toInt] using k)) k
theorem G_irem {a b : Int} (hd : decode M.2.1 pc = .ok (.irem, 1)) (hb : r32 b) (h0 : b ≠ 0) (k : RG sc M d kc ks (pc + 1) ls (pI (iRem a b) :: st) g Q) : RG sc M d kc ks pc ls (pI b :: pI a :: st) g Q :=
  RG.of (fun hF _ k => lv_irem hF.1 hF.2.1 hd (fun e => h0 ((i_eq hb (by decide)).mp (e.trans i_0))) (by simpa only [List.map, tv, iRem, Int32.ofInt_toInt] using k)) k
theorem G_i2b {a : Int} (hd : decode M.2.1 pc = .ok (.i2b, 1)) (k : RG sc M d kc ks (pc + 1) ls (pI (iB a) :: st) g Q) : RG sc M d kc ks pc ls (pI a :: st) g Q :=
  RG.of (fun hF _ k => lv_i2b hF.1 hF.2.1 hd rfl (by simpa only [List.map, tv, iB, Int32.ofInt_toInt] using k)) k
theorem G_i2s {a : Int} (hd : decode M.2.1 pc = .ok (.i2s, 1)) (k : RG sc M d kc ks (pc + 1) ls (pI (iS a) :: st) g Q) : RG sc M d kc ks pc ls (pI a :: st) g Q :=
  RG.of (fun hF _ k => lv_i2s hF.1 hF.2.1 hd rfl (by simpa only [List.map, tv, iS, Int32.ofInt_toInt] using k)) k
theorem G_i2l {a : Int} (hd : decode M.2.1 pc = .ok (.i2l, 1)) (ha : r32 a) (k : RG sc M d kc ks (pc + 1) ls (pL a :: st) g Q) : RG sc M d kc ks pc ls (pI a :: st) g Q :=
  RG.of (fun hF _ k => lv_i2l hF.1 hF.2.1 hd (i2l_of ha) k) k
theorem G_ladd {a b : Int} (hd : decode M.2.1 pc = .ok (.ladd, 1)) (k : RG sc M d kc ks (pc + 1) ls (pL (a + b) :: st) g Q) : RG sc M d kc ks pc ls (pL b :: pL a :: st) g Q :=
  RG.of (fun hF _ k => lv_ladd hF.1 hF.2.1 hd (by rw [← Int64.ofInt_add]; exact k)) k
theorem G_lmul {a b : Int} (hd : decode M.2.1 pc = .ok (.lmul, 1)) (k : RG sc M d kc ks (pc + 1) ls (pL (a * b) :: st) g Q) : RG sc M d kc ks pc ls (pL b :: pL a :: st) g Q :=
  RG.of (fun hF _ k => lv_lmul hF.1 hF.2.1 hd (by rw [← Int64.ofInt_mul]; exact k)) k
theorem G_ldiv {a b : Int} (hd : decode M.2.1 pc = .ok (.ldiv, 1)) (hb : r64 b) (h0 : b ≠ 0) (k : RG sc M d kc ks (pc + 1) ls (pL (lDiv a b) :: st) g Q) : RG sc M d kc ks pc ls (pL b :: pL a :: st) g Q :=
  RG.of (fun hF _ k => lv_ldiv hF.1 hF.2.1 hd (fun e => h0 ((l_eq hb (by decide)).mp (e.trans (show (0 : Int64) = Int64.ofInt 0 from rfl)))) (by simpa only [List.map, tv, lDiv, Int64.ofInt_toInt] using k)) k
theorem G_lrem {a b : Int} (hd : decode M.2.1 pc = .ok (.lrem, 1)) (hb : r64 b) (h0 : b ≠ 0) (k : RG sc M d kc ks (pc + 1) ls (pL (lRem a b) :: st) g Q) : RG sc M d kc ks pc ls (pL b :: pL a :: st) g Q :=
  RG.of (fun hF _ k => lv_lrem hF.1 hF.2.1 hd (fun e => h0 ((l_eq hb (by decide)).mp (e.trans (show (0 : Int64) = Int64.ofInt 0 from rfl)))) (by simpa only [List.map, tv, lRem, Int64.ofInt_toInt] using k)) k
theorem G_lshl {a b : Int} (hd : decode M.2.1 pc = .ok (.lshl, 1)) (k : RG sc M d kc ks (pc + 1) ls (pL (lShl a b) :: st) g Q) : RG sc M d kc ks pc ls (pI b :: pL a :: st) g Q :=
  RG.of (fun hF _ k => lv_lshl hF.1 hF.2.1 hd rfl (by simpa only [List.map, tv, lShl, Int64.ofInt_toInt] using k)) k
theorem G_lcmp {a b : Int} (hd : decode M.2.1 pc = .ok (.lcmp, 1)) (ha : r64 a) (hb : r64 b) (k : RG sc M d kc ks (pc + 1) ls (pI (if a < b then -1 else if a = b then 0 else 1) :: st) g Q) : RG sc M d kc ks pc ls (pL b :: pL a :: st) g Q :=
  RG.of (fun hF _ k => W.lcmp hF.1 hF.2.1 hd (by
    have e : lg_cmp (Int64.ofInt a) (Int64.ofInt b) = Int32.ofInt (if a < b then -1 else if a = b then 0 else 1) := by
      unfold lg_cmp
      simp only [l_lt ha hb, l_eq ha hb, l_lt hb ha, GT.gt, beq_iff_eq]
      by_cases h1 : a < b
      · simp [h1, show ¬ b < a by omega, show ¬ a = b by omega]; try rfl
      · by_cases h2 : a = b
        · simp [h2]; try rfl
        · simp [h1, h2, show b < a by omega]; try rfl
    rw [e]; exact k)) k
theorem G_dup {v : PV} (hd : decode M.2.1 pc = .ok (.dup, 1)) (hv : ∀ E, (tv E v).category = 1) (k : RG sc M d kc ks (pc + 1) ls (v :: v :: st) g Q) : RG sc M d kc ks pc ls (v :: st) g Q :=
  RG.of (fun hF _ k => lv_dup hF.1 hF.2.1 hd (hv _) k) k
theorem G_dup2 {v w : PV} (hd : decode M.2.1 pc = .ok (.dup2, 1)) (hv : ∀ E, (tv E v).category = 1) (hw : ∀ E, (tv E w).category = 1) (k : RG sc M d kc ks (pc + 1) ls (v :: w :: v :: w :: st) g Q) : RG sc M d kc ks pc ls (v :: w :: st) g Q :=
  RG.of (fun hF _ k => lv_dup2_11 hF.1 hF.2.1 hd (hv _) (hw _) k) k
theorem G_pop {v : PV} (hd : decode M.2.1 pc = .ok (.pop, 1)) (hv : ∀ E, (tv E v).category = 1) (k : RG sc M d kc ks (pc + 1) ls st g Q) : RG sc M d kc ks pc ls (v :: st) g Q :=
  RG.of (fun hF _ k => lv_pop hF.1 hF.2.1 hd (hv _) k) k
theorem G_goto {off : Int} {t : Nat} (hd : decode M.2.1 pc = .ok (.goto off, 3)) (ht : (pc : Int) + off = (t : Int)) (k : RG sc M d kc ks t ls st g Q) : RG sc M d kc ks pc ls st g Q :=
  RG.of (fun hF _ k => lv_goto hF.1 hF.2.1 hd ht k) k
end GPMR

section GPMB
variable {sc : SC}
variable {M : PMt} {d kc ks pc : Nat} {ls st : List PV} {g : PH} {Q : Option PV → PH → Prop}
theorem G_icmp_eq {a b off : Int} {t : Nat} (hd : decode M.2.1 pc = .ok (.if_icmp .eq off, 3)) (ht : (pc : Int) + off = (t : Int)) (kt : a = b → RG sc M d kc ks t ls st g Q) (kf : a ≠ b → RG sc M d kc ks (pc + 3) ls st g Q) (ha : r32 a := by first | assumption | omega) (hb : r32 b := by first | assumption | omega) : RG sc M d kc ks pc ls (pI b :: pI a :: st) g Q :=
  RG.of2 (fun hF k1 k2 => lv_icmp_eq hF.1 hF.2.1 hd ht (fun q => k1 (by have e1 := i_eq ha hb; have e2 := i_lt ha hb; have e3 := i_le ha hb; have e4 := i_lt hb ha; have e5 := i_le hb ha; first | exact e1.mp q | exact e2.mp q | exact e3.mp q | exact e4.mp q | exact e5.mp q | exact fun z => q (e1.mpr z)))
    (fun q => k2 (by have e1 := i_eq ha hb; have e2 := i_lt ha hb; have e3 := i_le ha hb; have e4 := i_lt hb ha; have e5 := i_le hb ha; first | exact e1.mp q | exact fun z => q (e1.mpr z) | exact e1.mp (Classical.not_not.mp q) | exact Int.not_lt.mp (fun z => q (e2.mpr z)) | exact Int.not_lt.mp (fun z => q (e4.mpr z)) | exact Int.not_le.mp (fun z => q (e3.mpr z)) | exact Int.not_le.mp (fun z => q (e5.mpr z))))) kt kf
theorem G_if_eq {a off : Int} {t : Nat} (hd : decode M.2.1 pc = .ok (.ifCond .eq off, 3)) (ht : (pc : Int) + off = (t : Int)) (kt : a = 0 → RG sc M d kc ks t ls st g Q) (kf : a ≠ 0 → RG sc M d kc ks (pc + 3) ls st g Q) (ha : r32 a := by first | assumption | omega) : RG sc M d kc ks pc ls (pI a :: st) g Q :=
  have hb : r32 0 := by omega
  RG.of2 (fun hF k1 k2 => lv_if_eq hF.1 hF.2.1 hd ht (fun q => k1 (by have e1 := i_eq ha hb; have e2 := i_lt ha hb; have e3 := i_le ha hb; have e4 := i_lt hb ha; have e5 := i_le hb ha; first | exact e1.mp q | exact e2.mp q | exact e3.mp q | exact e4.mp q | exact e5.mp q | exact fun z => q (e1.mpr z)))
    (fun q => k2 (by have e1 := i_eq ha hb; have e2 := i_lt ha hb; have e3 := i_le ha hb; have e4 := i_lt hb ha; have e5 := i_le hb ha; first | exact e1.mp q | exact fun z => q (e1.mpr z) | exact e1.mp (Classical.not_not.mp q) | exact Int.not_lt.mp (fun z => q (e2.mpr z)) | exact Int.not_lt.mp (fun z => q (e4.mpr z)) | exact Int.not_le.mp (fun z => q (e3.mpr z)) | exact Int.not_le.mp (fun z => q (e5.mpr z))))) kt kf
theorem G_icmp_ne {a b off : Int} {t : Nat} (hd : decode M.2.1 pc = .ok (.if_icmp .ne off, 3)) (ht : (pc : Int) + off = (t : Int)) (kt : a ≠ b → RG sc M d kc ks t ls st g Q) (kf : a = b → RG sc M d kc ks (pc + 3) ls st g Q) (ha : r32 a := by first | assumption | omega) (hb : r32 b := by first | assumption | omega) : RG sc M d kc ks pc ls (pI b :: pI a :: st) g Q :=
  RG.of2 (fun hF k1 k2 => lv_icmp_ne hF.1 hF.2.1 hd ht (fun q => k1 (by have e1 := i_eq ha hb; have e2 := i_lt ha hb; have e3 := i_le ha hb; have e4 := i_lt hb ha; have e5 := i_le hb ha; first | exact e1.mp q | exact e2.mp q | exact e3.mp q | exact e4.mp q | exact e5.mp q | exact fun z => q (e1.mpr z)))
    (fun q => k2 (by have e1 := i_eq ha hb; have e2 := i_lt ha hb; have e3 := i_le ha hb; have e4 := i_lt hb ha; have e5 := i_le hb ha; first | exact e1.mp q | exact fun z => q (e1.mpr z) | exact e1.mp (Classical.not_not.mp q) | exact Int.not_lt.mp (fun z => q (e2.mpr z)) | exact Int.not_lt.mp (fun z => q (e4.mpr z)) | exact Int.not_le.mp (fun z => q (e3.mpr z)) | exact Int.not_le.mp (fun z => q (e5.mpr z))))) kt kf
theorem G_if_ne {a off : Int} {t : Nat} (hd : decode M.2.1 pc = .ok (.ifCond .ne off, 3)) (ht : (pc : Int) + off = (t : Int)) (kt : a ≠ 0 → RG sc M d kc ks t ls st g Q) (kf : a = 0 → RG sc M d kc ks (pc + 3) ls st g Q) (ha : r32 a := by first | assumption | omega) : RG sc M d kc ks pc ls (pI a :: st) g Q :=
  have hb : r32 0 := by omega
  RG.of2 (fun hF k1 k2 => lv_if_ne hF.1 hF.2.1 hd ht (fun q => k1 (by have e1 := i_eq ha hb; have e2 := i_lt ha hb; have e3 := i_le ha hb; have e4 := i_lt hb ha; have e5 := i_le hb ha; first | exact e1.mp q | exact e2.mp q | exact e3.mp q | exact e4.mp q | exact e5.mp q | exact fun z => q (e1.mpr z)))
    (fun q => k2 (by have e1 := i_eq ha hb; have e2 := i_lt ha hb; have e3 := i_le ha hb; have e4 := i_lt hb ha; have e5 := i_le hb ha; first | exact e1.mp q | exact fun z => q (e1.mpr z) | exact e1.mp (Classical.not_not.mp q) | exact Int.not_lt.mp (fun z => q (e2.mpr z)) | exact Int.not_lt.mp (fun z => q (e4.mpr z)) | exact Int.not_le.mp (fun z => q (e3.mpr z)) | exact Int.not_le.mp (fun z => q (e5.mpr z))))) kt kf
theorem G_icmp_lt {a b off : Int} {t : Nat} (hd : decode M.2.1 pc = .ok (.if_icmp .lt off, 3)) (ht : (pc : Int) + off = (t : Int)) (kt : a < b → RG sc M d kc ks t ls st g Q) (kf : b ≤ a → RG sc M d kc ks (pc + 3) ls st g Q) (ha : r32 a := by first | assumption | omega) (hb : r32 b := by first | assumption | omega) : RG sc M d kc ks pc ls (pI b :: pI a :: st) g Q :=
  RG.of2 (fun hF k1 k2 => lv_icmp_lt hF.1 hF.2.1 hd ht (fun q => k1 (by have e1 := i_eq ha hb; have e2 := i_lt ha hb; have e3 := i_le ha hb; have e4 := i_lt hb ha; have e5 := i_le hb ha; first | exact e1.mp q | exact e2.mp q | exact e3.mp q | exact e4.mp q | exact e5.mp q | exact fun z => q (e1.mpr z)))
    (fun q => k2 (by have e1 := i_eq ha hb; have e2 := i_lt ha hb; have e3 := i_le ha hb; have e4 := i_lt hb ha; have e5 := i_le hb ha; first | exact e1.mp q | exact fun z => q (e1.mpr z) | exact e1.mp (Classical.not_not.mp q) | exact Int.not_lt.mp (fun z => q (e2.mpr z)) | exact Int.not_lt.mp (fun z => q (e4.mpr z)) | exact Int.not_le.mp (fun z => q (e3.mpr z)) | exact Int.not_le.mp (fun z => q (e5.mpr z))))) kt kf
theorem G_if_lt {a off : Int} {t : Nat} (hd : decode M.2.1 pc = .ok (.ifCond .lt off, 3)) (ht : (pc : Int) + off = (t : Int)) (kt : a < 0 → RG sc M d kc ks t ls st g Q) (kf : 0 ≤ a → RG sc M d kc ks (pc + 3) ls st g Q) (ha : r32 a := by first | assumption | omega) : RG sc M d kc ks pc ls (pI a :: st) g Q :=
  have hb : r32 0 := by omega
  RG.of2 (fun hF k1 k2 => lv_if_lt hF.1 hF.2.1 hd ht (fun q => k1 (by have e1 := i_eq ha hb; have e2 := i_lt ha hb; have e3 := i_le ha hb; have e4 := i_lt hb ha; have e5 := i_le hb ha; first | exact e1.mp q | exact e2.mp q | exact e3.mp q | exact e4.mp q | exact e5.mp q | exact fun z => q (e1.mpr z)))
    (fun q => k2 (by have e1 := i_eq ha hb; have e2 := i_lt ha hb; have e3 := i_le ha hb; have e4 := i_lt hb ha; have e5 := i_le hb ha; first | exact e1.mp q | exact fun z => q (e1.mpr z) | exact e1.mp (Classical.not_not.mp q) | exact Int.not_lt.mp (fun z => q (e2.mpr z)) | exact Int.not_lt.mp (fun z => q (e4.mpr z)) | exact Int.not_le.mp (fun z => q (e3.mpr z)) | exact Int.not_le.mp (fun z => q (e5.mpr z))))) kt kf
theorem G_icmp_ge {a b off : Int} {t : Nat} (hd : decode M.2.1 pc = .ok (.if_icmp .ge off, 3)) (ht : (pc : Int) + off = (t : Int)) (kt : b ≤ a → RG sc M d kc ks t ls st g Q) (kf : a < b → RG sc M d kc ks (pc + 3) ls st g Q) (ha : r32 a := by first | assumption | omega) (hb : r32 b := by first | assumption | omega) : RG sc M d kc ks pc ls (pI b :: pI a :: st) g Q :=
  RG.of2 (fun hF k1 k2 => lv_icmp_ge hF.1 hF.2.1 hd ht (fun q => k1 (by have e1 := i_eq ha hb; have e2 := i_lt ha hb; have e3 := i_le ha hb; have e4 := i_lt hb ha; have e5 := i_le hb ha; first | exact e1.mp q | exact e2.mp q | exact e3.mp q | exact e4.mp q | exact e5.mp q | exact fun z => q (e1.mpr z)))
    (fun q => k2 (by have e1 := i_eq ha hb; have e2 := i_lt ha hb; have e3 := i_le ha hb; have e4 := i_lt hb ha; have e5 := i_le hb ha; first | exact e1.mp q | exact fun z => q (e1.mpr z) | exact e1.mp (Classical.not_not.mp q) | exact Int.not_lt.mp (fun z => q (e2.mpr z)) | exact Int.not_lt.mp (fun z => q (e4.mpr z)) | exact Int.not_le.mp (fun z => q (e3.mpr z)) | exact Int.not_le.mp (fun z => q (e5.mpr z))))) kt kf
theorem G_if_ge {a off : Int} {t : Nat} (hd : decode M.2.1 pc = .ok (.ifCond .ge off, 3)) (ht : (pc : Int) + off = (t : Int)) (kt : 0 ≤ a → RG sc M d kc ks t ls st g Q) (kf : a < 0 → RG sc M d kc ks (pc + 3) ls st g Q) (ha : r32 a := by first | assumption | omega) : RG sc M d kc ks pc ls (pI a :: st) g Q :=
  have hb : r32 0 := by omega
  RG.of2 (fun hF k1 k2 => lv_if_ge hF.1 hF.2.1 hd ht (fun q => k1 (by have e1 := i_eq ha hb; have e2 := i_lt ha hb; have e3 := i_le ha hb; have e4 := i_lt hb ha; have e5 := i_le hb ha; first | exact e1.mp q | exact e2.mp q | exact e3.mp q | exact e4.mp q | exact e5.mp q | exact fun z => q (e1.mpr z)))
    (fun q => k2 (by have e1 := i_eq ha hb; have e2 := i_lt ha hb; have e3 := i_le ha hb; have e4 := i_lt hb ha; have e5 := i_le hb ha; first | exact e1.mp q | exact fun z => q (e1.mpr z) | exact e1.mp (Classical.not_not.mp q) | exact Int.not_lt.mp (fun z => q (e2.mpr z)) | exact Int.not_lt.mp (fun z => q (e4.mpr z)) | exact Int.not_le.mp (fun z => q (e3.mpr z)) | exact Int.not_le.mp (fun z => q (e5.mpr z))))) kt kf
theorem G_icmp_gt {a b off : Int} {t : Nat} (hd : decode M.2.1 pc = .ok (.if_icmp .gt off, 3)) (ht : (pc : Int) + off = (t : Int)) (kt : b < a → RG sc M d kc ks t ls st g Q) (kf : a ≤ b → RG sc M d kc ks (pc + 3) ls st g Q) (ha : r32 a := by first | assumption | omega) (hb : r32 b := by first | assumption | omega) : RG sc M d kc ks pc ls (pI b :: pI a :: st) g Q :=
  RG.of2 (fun hF k1 k2 => lv_icmp_gt hF.1 hF.2.1 hd ht (fun q => k1 (by have e1 := i_eq ha hb; have e2 := i_lt ha hb; have e3 := i_le ha hb; have e4 := i_lt hb ha; have e5 := i_le hb ha; first | exact e1.mp q | exact e2.mp q | exact e3.mp q | exact e4.mp q | exact e5.mp q | exact fun z => q (e1.mpr z)))
    (fun q => k2 (by have e1 := i_eq ha hb; have e2 := i_lt ha hb; have e3 := i_le ha hb; have e4 := i_lt hb ha; have e5 := i_le hb ha; first | exact e1.mp q | exact fun z => q (e1.mpr z) | exact e1.mp (Classical.not_not.mp q) | exact Int.not_lt.mp (fun z => q (e2.mpr z)) | exact Int.not_lt.mp (fun z => q (e4.mpr z)) | exact Int.not_le.mp (fun z => q (e3.mpr z)) | exact Int.not_le.mp (fun z => q (e5.mpr z))))) kt kf
theorem G_if_gt {a off : Int} {t : Nat} (hd : decode M.2.1 pc = .ok (.ifCond .gt off, 3)) (ht : (pc : Int) + off = (t : Int)) (kt : 0 < a → RG sc M d kc ks t ls st g Q) (kf : a ≤ 0 → RG sc M d kc ks (pc + 3) ls st g Q) (ha : r32 a := by first | assumption | omega) : RG sc M d kc ks pc ls (pI a :: st) g Q :=
  have hb : r32 0 := by omega
  RG.of2 (fun hF k1 k2 => lv_if_gt hF.1 hF.2.1 hd ht (fun q => k1 (by have e1 := i_eq ha hb; have e2 := i_lt ha hb; have e3 := i_le ha hb; have e4 := i_lt hb ha; have e5 := i_le hb ha; first | exact e1.mp q | exact e2.mp q | exact e3.mp q | exact e4.mp q | exact e5.mp q | exact fun z => q (e1.mpr z)))
    (fun q => k2 (by have e1 := i_eq ha hb; have e2 := i_lt ha hb; have e3 := i_le ha hb; have e4 := i_lt hb ha; have e5 := i_le hb ha; first | exact e1.mp q | exact fun z => q (e1.mpr z) | exact e1.mp (Classical.not_not.mp q) | exact Int.not_lt.mp (fun z => q (e2.mpr z)) | exact Int.not_lt.mp (fun z => q (e4.mpr z)) | exact Int.not_le.mp (fun z => q (e3.mpr z)) | exact Int.not_le.mp (fun z => q (e5.mpr z))))) kt kf
theorem G_icmp_le {a b off : Int} {t : Nat} (hd : decode M.2.1 pc = .ok (.if_icmp .le off, 3)) (ht : (pc : Int) + off = (t : Int)) (kt : a ≤ b → RG sc M d kc ks t ls st g Q) (kf : b < a → RG sc M d kc ks (pc + 3) ls st g Q) (ha : r32 a := by first | assumption | omega) (hb : r32 b := by first | assumption | omega) : RG sc M d kc ks pc ls (pI b :: pI a :: st) g Q :=
  RG.of2 (fun hF k1 k2 => lv_icmp_le hF.1 hF.2.1 hd ht (fun q => k1 (by have e1 := i_eq ha hb; have e2 := i_lt ha hb; have e3 := i_le ha hb; have e4 := i_lt hb ha; have e5 := i_le hb ha; first | exact e1.mp q | exact e2.mp q | exact e3.mp q | exact e4.mp q | exact e5.mp q | exact fun z => q (e1.mpr z)))
    (fun q => k2 (by have e1 := i_eq ha hb; have e2 := i_lt ha hb; have e3 := i_le ha hb; have e4 := i_lt hb ha; have e5 := i_le hb ha; first | exact e1.mp q | exact fun z => q (e1.mpr z) | exact e1.mp (Classical.not_not.mp q) | exact Int.not_lt.mp (fun z => q (e2.mpr z)) | exact Int.not_lt.mp (fun z => q (e4.mpr z)) | exact Int.not_le.mp (fun z => q (e3.mpr z)) | exact Int.not_le.mp (fun z => q (e5.mpr z))))) kt kf
theorem G_if_le {a off : Int} {t : Nat} (hd : decode M.2.1 pc = .ok (.ifCond .le off, 3)) (ht : (pc : Int) + off = (t : Int)) (kt : a ≤ 0 → RG sc M d kc ks t ls st g Q) (kf : 0 < a → RG sc M d kc ks (pc + 3) ls st g Q) (ha : r32 a := by first | assumption | omega) : RG sc M d kc ks pc ls (pI a :: st) g Q :=
  have hb : r32 0 := by omega
  RG.of2 (fun hF k1 k2 => lv_if_le hF.1 hF.2.1 hd ht (fun q => k1 (by have e1 := i_eq ha hb; have e2 := i_lt ha hb; have e3 := i_le ha hb; have e4 := i_lt hb ha; have e5 := i_le hb ha; first | exact e1.mp q | exact e2.mp q | exact e3.mp q | exact e4.mp q | exact e5.mp q | exact fun z => q (e1.mpr z)))
    (fun q => k2 (by have e1 := i_eq ha hb; have e2 := i_lt ha hb; have e3 := i_le ha hb; have e4 := i_lt hb ha; have e5 := i_le hb ha; first | exact e1.mp q | exact fun z => q (e1.mpr z) | exact e1.mp (Classical.not_not.mp q) | exact Int.not_lt.mp (fun z => q (e2.mpr z)) | exact Int.not_lt.mp (fun z => q (e4.mpr z)) | exact Int.not_le.mp (fun z => q (e3.mpr z)) | exact Int.not_le.mp (fun z => q (e5.mpr z))))) kt kf
theorem G_tabOut {dflt lo hi a : Int} {offs : Array Int} {len t : Nat} (hd : decode M.2.1 pc = .ok (.tableswitch dflt lo hi offs, len)) (ht : (pc : Int) + dflt = (t : Int)) (hh : a < lo ∨ hi < a) (k : RG sc M d kc ks t ls st g Q) (ha : r32 a := by first | assumption | omega) : RG sc M d kc ks pc ls (pI a :: st) g Q :=
  RG.of (fun hF _ k => lv_tableOut hF.1 hF.2.1 hd (by rw [r32_i ha]; exact hh) ht k) k
theorem G_tabIn {dflt lo hi a off : Int} {offs : Array Int} {len t : Nat} (hd : decode M.2.1 pc = .ok (.tableswitch dflt lo hi offs, len)) (h1 : lo ≤ a) (h2 : a ≤ hi) (ho : offs[(a - lo).toNat]? = some off) (ht : (pc : Int) + off = (t : Int)) (k : RG sc M d kc ks t ls st g Q) (ha : r32 a := by first | assumption | omega) : RG sc M d kc ks pc ls (pI a :: st) g Q :=
  RG.of (fun hF _ k => lv_tableIn hF.1 hF.2.1 hd (by rw [r32_i ha]; omega) (by rw [r32_i ha]; omega) (by rw [r32_i ha]; exact ho) ht k) k
theorem G_look {dflt a off : Int} {ps : Array (Int × Int)} {len t : Nat} (hd : decode M.2.1 pc = .ok (.lookupswitch dflt ps, len)) (hp : (ps.toList.zip (ps.toList.drop 1)).all (fun (a, next) => a.1 < next.1) = true) (ho : Op.lookupswitch.offset ps.toList dflt a = off) (ht : (pc : Int) + off = (t : Int)) (k : RG sc M d kc ks t ls st g Q) (ha : r32 a := by first | assumption | omega) : RG sc M d kc ks pc ls (pI a :: st) g Q :=
  RG.of (fun hF _ k => lv_lookup hF.1 hF.2.1 hd hp (by rw [r32_i ha]; exact ho) ht k) k
end GPMB

section GPMH
variable {sc : SC}
variable {M : PMt} {d kc ks pc : Nat} {ls st : List PV} {Q : Option PV → PH → Prop} {S : List (Nat × Nat)} {F : Nat → Nat → Option Nat} {h : Nat → Int → Int}
theorem G_geti {a idx ci k n : Nat} {z : Int} (hd : decode M.2.1 pc = .ok (.getfield idx, 3)) (hf : pm_fl M.1.cls idx ci k) (hk : pm_cok ci) (hn : pm_nu ci k = true) (hl : ci < 50) (hz : (k : Int) = z) (kk : r32 (h a z) → RG sc M d kc ks (pc + 3) ls (pI (h a z) :: st) (S, F, h) Q) (hc : S[a]? = some (ci, n) := by first | assumption | rfl) : RG sc M d kc ks pc ls (pR a :: st) (S, F, h) Q := by
  intro E p l e R s m args below meth c H locs cells slots Qf L hF h1 h2 h3 h4 hR hS hL hq hZ
  obtain ⟨q, q1, q2, q3⟩ := hf
  obtain ⟨k1, k2, k3, k4⟩ := hk q q1
  subst hz
  refine va_get (D := E.1) (ci := ci) (C := q.1) (T := q.2.1) (N := q.2.2) (v := .int (Int32.ofInt (h a k))) hF.1 hF.2.1 hF.2.2.2.2.2.2.1 k1 hF.2.2.2.2.2.1 hF.2.2.2.2.2.2.2.1 hR.1 a (fs := (List.range (pm_nf ci)).map (pm_fv E (S, F, h) a ci)) ?_ q1 k q2 (hF.2.2.2.2.2.2.1 _ q3) (fun _ x => x) ?_ hd (kk ((hR.2.2 a _ hc k).1 (by show ci ≠ 102; omega)) E p l e R s m args below meth c H locs cells slots Qf L hF h1 h2 h3 h4 hR hS hL hq hZ)
  · rw [pm_wl_at (g := (S, F, h)) hc]
    unfold pm_ce
    rw [if_pos hl]
  · rw [List.getElem?_map, List.getElem?_range (by rw [← k4]; exact q2)]
    show some (pm_fv E (S, F, h) a ci k) = _
    unfold pm_fv
    rw [if_pos hn]
theorem G_getr {a b idx ci k n : Nat} (hd : decode M.2.1 pc = .ok (.getfield idx, 3)) (hf : pm_fl M.1.cls idx ci k) (hk : pm_cok ci) (hn : pm_nu ci k = false) (hl : ci < 50) (kk : RG sc M d kc ks (pc + 3) ls (pR b :: st) (S, F, h) Q) (hc : S[a]? = some (ci, n) := by first | assumption | rfl) (hr : F a k = some b := by first | assumption | rfl) : RG sc M d kc ks pc ls (pR a :: st) (S, F, h) Q := by
  intro E p l e R s m args below meth c H locs cells slots Qf L hF h1 h2 h3 h4 hR hS hL hq hZ
  obtain ⟨q, q1, q2, q3⟩ := hf
  obtain ⟨k1, k2, k3, k4⟩ := hk q q1
  refine va_get (D := E.1) (ci := ci) (C := q.1) (T := q.2.1) (N := q.2.2) (v := .ref (E.2.2.1 b)) hF.1 hF.2.1 hF.2.2.2.2.2.2.1 k1 hF.2.2.2.2.2.1 hF.2.2.2.2.2.2.2.1 hR.1 a (fs := (List.range (pm_nf ci)).map (pm_fv E (S, F, h) a ci)) ?_ q1 k q2 (hF.2.2.2.2.2.2.1 _ q3) (fun _ x => x) ?_ hd (kk E p l e R s m args below meth c H locs cells slots Qf L hF h1 h2 h3 h4 hR hS hL hq hZ)
  · rw [pm_wl_at (g := (S, F, h)) hc]
    unfold pm_ce
    rw [if_pos hl]
  · rw [List.getElem?_map, List.getElem?_range (by rw [← k4]; exact q2)]
    show some (pm_fv E (S, F, h) a ci k) = _
    unfold pm_fv
    rw [if_neg (by rw [hn]; decide)]
    show some (va_rf ((F a k).map E.2.2.1)) = _
    rw [hr]
    rfl
theorem G_puti {a idx ci k n : Nat} {z zk : Int} (hd : decode M.2.1 pc = .ok (.putfield idx, 3)) (hf : pm_fl M.1.cls idx ci k) (hk : pm_cok ci) (hl : ci < 50) (hfin : ∀ q : vw_C, pm_cl[ci]? = some q → (q.2.1 k).2.2.2 = false) (hz : (k : Int) = zk) (kk : RG sc M d kc ks (pc + 3) ls st (S, F, rup h a (fup (h a) zk z)) Q)
    (hty : pm_ty ci k = .int ∨ (pm_ty ci k = .boolean ∧ (z = 0 ∨ z = 1)) := by first | exact Or.inl rfl | exact Or.inr ⟨rfl, Or.inl rfl⟩ | exact Or.inr ⟨rfl, Or.inr rfl⟩ | exact Or.inr ⟨rfl, by omega⟩) (hr : r32 z := by first | assumption | omega) (hc : S[a]? = some (ci, n) := by first | assumption | rfl) : RG sc M d kc ks pc ls (pI z :: pR a :: st) (S, F, h) Q := by
  intro E p l e R s m args below meth c H locs cells slots Qf L hF h1 h2 h3 h4 hR hS hL hq hZ
  obtain ⟨q, q1, q2, q3⟩ := hf
  obtain ⟨k1, k2, k3, k4⟩ := hk q q1
  subst hz
  have hnar : narrow (pm_ty ci k) (.int (Int32.ofInt z)) = .int (Int32.ofInt z) ∧ fits (pm_ty ci k) (.int (Int32.ofInt z)) = true ∧ pm_nu ci k = true := by
    rcases hty with e | ⟨e, hb⟩
    · refine ⟨by rw [e]; rfl, by rw [e]; rfl, ?_⟩
      unfold pm_nu; rw [e]
    · refine ⟨by rw [e]; exact (pm_narb hb).1, by rw [e]; exact (pm_narb hb).2, ?_⟩
      unfold pm_nu; rw [e]
  refine va_put (D := E.1) (ci := ci) (C := q.1) (T := q.2.1) (N := q.2.2) (v := .int (Int32.ofInt z)) (ty := pm_ty ci k) hF.1 hF.2.1 hF.2.2.2.2.2.2.1 k1 (pm_ty ci) k2 k3 hF.2.2.2.2.2.1 hF.2.2.2.2.2.2.2.1 hR.1 hR.2.1 hS a (fs := (List.range (pm_nf ci)).map (pm_fv E (S, F, h) a ci)) ?_ q1 k q2 (hF.2.2.2.2.2.2.1 _ q3) (fun _ x => x) (hfin q q1) (k2 k q2) hnar.1 hnar.2.1 (by rw [List.length_map, List.length_range, ← k4]; exact q2) hd (fun H1 locs1 hP1 hD1 hS1 => ?_)
  · rw [pm_wl_at (g := (S, F, h)) hc]
    unfold pm_ce
    rw [if_pos hl]
  · refine kk E p l e R s m args below meth c H1 locs1 cells slots Qf L hF h1 h2 h3 h4 (pm_put hc ?_ (fun i => ?_) hR.2.2 hP1 hD1) hS1 hL hq hZ
    · unfold pm_ce
      rw [if_pos hl]
      have e : ((List.range (pm_nf ci)).map (pm_fv E (S, F, h) a ci)).set k (.int (Int32.ofInt z)) = (List.range (pm_nf ci)).map (pm_fv E (S, F, rup h a (fup (h a) k z)) a ci) := by
        have e1 : Value.int (Int32.ofInt z) = pm_fv E (S, F, rup h a (fup (h a) k z)) a ci k := by
          unfold pm_fv
          rw [if_pos hnar.2.2]
          show _ = Value.int (Int32.ofInt (rup h a (fup (h a) k z) a k))
          rw [rup_s, fup_s]
        rw [e1]
        refine pm_set (F := pm_fv E (S, F, h) a ci) (fun j _ hj => ?_)
        unfold pm_fv
        show (if pm_nu ci j then Value.int (Int32.ofInt (rup h a (fup (h a) k z) a j)) else va_rf ((F a j).map E.2.2.1)) = (if pm_nu ci j then Value.int (Int32.ofInt (h a j)) else va_rf ((F a j).map E.2.2.1))
        rw [rup_s, fup_n (by omega)]
      rw [e]
    · by_cases hi : i = k
      · subst hi
        rw [fup_s]
        exact ⟨fun _ => hr, by omega⟩
      · rw [fup_n hi]
        exact hR.2.2 a _ hc i
theorem G_iald {a n : Nat} {i : Int} (hd : decode M.2.1 pc = .ok (.iaload, 1)) (kk : r32 (h a i) → RG sc M d kc ks (pc + 1) ls (pI (h a i) :: st) (S, F, h) Q) (hc : S[a]? = some (100, n) := by first | assumption | rfl) (hi : 0 ≤ i ∧ i < n := by omega) (hr : r32 i := by omega) : RG sc M d kc ks pc ls (pI i :: pR a :: st) (S, F, h) Q := by
  intro E p l e R s m args below meth c H locs cells slots Qf L hF h1 h2 h3 h4 hR hS hL hq hZ
  obtain ⟨e1, e2⟩ := pm_inb hi hr
  refine va_iald (D := E.1) hF.1 hF.2.1 hF.2.2.2.2.2.2.2.1 hR.1 a 0 (n := n) (f := fun j => Int32.ofInt (h a j)) (pm_wl_at (g := (S, F, h)) hc) rfl e1 hd ?_
  rw [e2]
  have e3 : ((i.toNat : Nat) : Int) = i := Int.toNat_of_nonneg hi.1
  have := kk ((hR.2.2 a _ hc i).1 (by show (100 : Nat) ≠ 102; decide)) E p l e R s m args below meth c H locs cells slots Qf L hF h1 h2 h3 h4 hR hS hL hq hZ
  show W p l e R s m args below meth c H locs cells slots Qf (F0 m (pc + 1) L (Value.int (Int32.ofInt (h a (i.toNat : Int))) :: st.map (tv E)))
  rw [e3]
  exact this
theorem G_zald {a n : Nat} {i : Int} (hd : decode M.2.1 pc = .ok (.baload, 1)) (kk : r32 (h a i) → RG sc M d kc ks (pc + 1) ls (pI (h a i) :: st) (S, F, h) Q) (hc : S[a]? = some (101, n) := by first | assumption | rfl) (hi : 0 ≤ i ∧ i < n := by omega) (hr : r32 i := by omega) : RG sc M d kc ks pc ls (pI i :: pR a :: st) (S, F, h) Q := by
  intro E p l e R s m args below meth c H locs cells slots Qf L hF h1 h2 h3 h4 hR hS hL hq hZ
  obtain ⟨e1, e2⟩ := pm_inb hi hr
  refine va_zald (D := E.1) hF.1 hF.2.1 hF.2.2.2.2.2.2.2.1 hR.1 a 1 (n := n) (f := fun j => Int32.ofInt (h a j)) (pm_wl_at (g := (S, F, h)) hc) rfl e1 hd ?_
  rw [e2]
  have e3 : ((i.toNat : Nat) : Int) = i := Int.toNat_of_nonneg hi.1
  have := kk ((hR.2.2 a _ hc i).1 (by show (101 : Nat) ≠ 102; decide)) E p l e R s m args below meth c H locs cells slots Qf L hF h1 h2 h3 h4 hR hS hL hq hZ
  show W p l e R s m args below meth c H locs cells slots Qf (F0 m (pc + 1) L (Value.int (Int32.ofInt (h a (i.toNat : Int))) :: st.map (tv E)))
  rw [e3]
  exact this
theorem G_lald {a n : Nat} {i : Int} (hd : decode M.2.1 pc = .ok (.laload, 1)) (kk : r64 (h a i) → RG sc M d kc ks (pc + 1) ls (pL (h a i) :: st) (S, F, h) Q) (hc : S[a]? = some (102, n) := by first | assumption | rfl) (hi : 0 ≤ i ∧ i < n := by omega) (hr : r32 i := by omega) : RG sc M d kc ks pc ls (pI i :: pR a :: st) (S, F, h) Q := by
  intro E p l e R s m args below meth c H locs cells slots Qf L hF h1 h2 h3 h4 hR hS hL hq hZ
  obtain ⟨e1, e2⟩ := pm_inb hi hr
  refine va_lald (D := E.1) hF.1 hF.2.1 hF.2.2.2.2.2.2.2.1 hR.1 a 2 (n := n) (f := fun j => Int64.ofInt (h a j)) (pm_wl_at (g := (S, F, h)) hc) rfl e1 hd ?_
  rw [e2]
  have e3 : ((i.toNat : Nat) : Int) = i := Int.toNat_of_nonneg hi.1
  have := kk (hR.2.2 a _ hc i).2 E p l e R s m args below meth c H locs cells slots Qf L hF h1 h2 h3 h4 hR hS hL hq hZ
  show W p l e R s m args below meth c H locs cells slots Qf (F0 m (pc + 1) L (Value.long (Int64.ofInt (h a (i.toNat : Int))) :: st.map (tv E)))
  rw [e3]
  exact this
theorem G_aald {a b n : Nat} {i : Int} (hd : decode M.2.1 pc = .ok (.aaload, 1)) (kk : RG sc M d kc ks (pc + 1) ls (pR b :: st) (S, F, h) Q) (hb : F a i.toNat = some b) (hc : S[a]? = some (103, n) := by first | assumption | rfl) (hi : 0 ≤ i ∧ i < n := by omega) (hr : r32 i := by omega) : RG sc M d kc ks pc ls (pI i :: pR a :: st) (S, F, h) Q := by
  intro E p l e R s m args below meth c H locs cells slots Qf L hF h1 h2 h3 h4 hR hS hL hq hZ
  obtain ⟨e1, e2⟩ := pm_inb hi hr
  refine va_aldq (D := E.1) hF.1 hF.2.1 hF.2.2.2.2.2.2.2.1 hR.1 a 3 (n := n) (f := fun j => (F a j).map E.2.2.1) (pm_wl_at (g := (S, F, h)) hc) rfl e1 hd ?_
  rw [e2]
  have := kk E p l e R s m args below meth c H locs cells slots Qf L hF h1 h2 h3 h4 hR hS hL hq hZ
  show W p l e R s m args below meth c H locs cells slots Qf (F0 m (pc + 1) L (va_rf ((F a i.toNat).map E.2.2.1) :: st.map (tv E)))
  rw [hb]
  exact this
theorem G_iast {a n : Nat} {i z : Int} (hd : decode M.2.1 pc = .ok (.iastore, 1)) (kk : RG sc M d kc ks (pc + 1) ls st (S, F, rup h a (fup (h a) i z)) Q) (hc : S[a]? = some (100, n) := by first | assumption | rfl) (hi : 0 ≤ i ∧ i < n := by omega) (hr : r32 i := by omega) (hz : r32 z := by first | assumption | omega) : RG sc M d kc ks pc ls (pI z :: pI i :: pR a :: st) (S, F, h) Q := by
  intro E p l e R s m args below meth c H locs cells slots Qf L hF h1 h2 h3 h4 hR hS hL hq hZ
  obtain ⟨e1, e2⟩ := pm_inb hi hr
  refine va_iast (D := E.1) hF.1 hF.2.1 hF.2.2.2.2.2.2.2.1 hR.1 hR.2.1 hS a 0 (n := n) (f := fun j => Int32.ofInt (h a j)) (pm_wl_at (g := (S, F, h)) hc) rfl e1 hd (fun H1 locs1 hP1 hD1 hS1 => ?_)
  rw [e2, pm_upd hi.1] at hP1 hD1
  refine kk E p l e R s m args below meth c H1 locs1 cells slots Qf L hF h1 h2 h3 h4 (pm_put hc ?_ (fun j => ?_) hR.2.2 hP1 hD1) hS1 hL hq hZ
  · show Sum.inl (E.2.1 0, n, Sum.inl (fun j : Nat => Int32.ofInt (rup h a (fup (h a) i z) a j))) = _
    rw [rup_s]
    rfl
  · by_cases hj : j = i
    · subst hj
      rw [fup_s]
      exact ⟨fun _ => hz, by omega⟩
    · rw [fup_n hj]
      exact hR.2.2 a _ hc j
theorem G_zast {a n : Nat} {i z : Int} (hd : decode M.2.1 pc = .ok (.bastore, 1)) (kk : RG sc M d kc ks (pc + 1) ls st (S, F, rup h a (fup (h a) i z)) Q) (hc : S[a]? = some (101, n) := by first | assumption | rfl) (hi : 0 ≤ i ∧ i < n := by omega) (hr : r32 i := by omega) (hz : z = 0 ∨ z = 1 := by omega) : RG sc M d kc ks pc ls (pI z :: pI i :: pR a :: st) (S, F, h) Q := by
  intro E p l e R s m args below meth c H locs cells slots Qf L hF h1 h2 h3 h4 hR hS hL hq hZ
  obtain ⟨e1, e2⟩ := pm_inb hi hr
  have hn : vp_nar .boolean (Int32.ofInt z) = Int32.ofInt z := by
    unfold vp_nar
    rw [(pm_narb hz).1]
  refine va_zast (D := E.1) hF.1 hF.2.1 hF.2.2.2.2.2.2.2.1 hR.1 hR.2.1 hS a 1 (n := n) (f := fun j => Int32.ofInt (h a j)) (pm_wl_at (g := (S, F, h)) hc) rfl e1 hd (fun H1 locs1 hP1 hD1 hS1 => ?_)
  rw [e2, hn, pm_upd hi.1] at hP1 hD1
  refine kk E p l e R s m args below meth c H1 locs1 cells slots Qf L hF h1 h2 h3 h4 (pm_put hc ?_ (fun j => ?_) hR.2.2 hP1 hD1) hS1 hL hq hZ
  · show Sum.inl (E.2.1 1, n, Sum.inl (fun j : Nat => Int32.ofInt (rup h a (fup (h a) i z) a j))) = _
    rw [rup_s]
    rfl
  · by_cases hj : j = i
    · subst hj
      rw [fup_s]
      exact ⟨fun _ => by omega, by omega⟩
    · rw [fup_n hj]
      exact hR.2.2 a _ hc j
theorem G_last {a n : Nat} {i z : Int} (hd : decode M.2.1 pc = .ok (.lastore, 1)) (kk : RG sc M d kc ks (pc + 1) ls st (S, F, rup h a (fup (h a) i z)) Q) (hc : S[a]? = some (102, n) := by first | assumption | rfl) (hi : 0 ≤ i ∧ i < n := by omega) (hr : r32 i := by omega) (hz : r64 z := by first | assumption | omega) : RG sc M d kc ks pc ls (pL z :: pI i :: pR a :: st) (S, F, h) Q := by
  intro E p l e R s m args below meth c H locs cells slots Qf L hF h1 h2 h3 h4 hR hS hL hq hZ
  obtain ⟨e1, e2⟩ := pm_inb hi hr
  refine va_last (D := E.1) hF.1 hF.2.1 hF.2.2.2.2.2.2.2.1 hR.1 hR.2.1 hS a 2 (n := n) (f := fun j => Int64.ofInt (h a j)) (pm_wl_at (g := (S, F, h)) hc) rfl e1 hd (fun H1 locs1 hP1 hD1 hS1 => ?_)
  rw [e2, pm_updL hi.1] at hP1 hD1
  refine kk E p l e R s m args below meth c H1 locs1 cells slots Qf L hF h1 h2 h3 h4 (pm_put hc ?_ (fun j => ?_) hR.2.2 hP1 hD1) hS1 hL hq hZ
  · show Sum.inl (E.2.1 2, n, Sum.inr (Sum.inl (fun j : Nat => Int64.ofInt (rup h a (fup (h a) i z) a j)))) = _
    rw [rup_s]
  · by_cases hj : j = i
    · subst hj
      rw [fup_s]
      exact ⟨fun q => absurd rfl q, hz⟩
    · rw [fup_n hj]
      exact hR.2.2 a _ hc j
end GPMH

section GPMB
variable {sc : SC}
variable {M : PMt} {d kc ks pc : Nat} {ls st : List PV} {g : PH} {Q : Option PV → PH → Prop}
theorem G_ret {r : Option PV} (hd : decode M.2.1 pc = .ok (pm_ri r, 1)) (hst : ∀ E, st.map (tv E) = pm_rs E r) (ho : pm_ok M.2.2.2 r) (hQ : Q r g) : RG sc M d kc ks pc ls st g Q :=
  fun E p l e R s m args below meth c H locs cells slots Qf L hF h1 h2 h3 h4 hR hS hL hq hZ => by
    rw [hst]
    exact W.widen (Nat.le_add_right _ _) (Nat.le_add_right _ _) (hq.1 r g H locs pc L hQ ho hR hS hd)
theorem G_ireturn {a : Int} (hd : decode M.2.1 pc = .ok (.ireturn, 1)) (ho : pm_ok M.2.2.2 (some (pI a))) (hQ : Q (some (pI a)) g) : RG sc M d kc ks pc ls [pI a] g Q := G_ret (r := some (pI a)) hd (fun _ => rfl) ho hQ
theorem G_lreturn {a : Int} (hd : decode M.2.1 pc = .ok (.lreturn, 1)) (ho : pm_ok M.2.2.2 (some (pL a))) (hQ : Q (some (pL a)) g) : RG sc M d kc ks pc ls [pL a] g Q := G_ret (r := some (pL a)) hd (fun _ => rfl) ho hQ
theorem G_return (hd : decode M.2.1 pc = .ok (.return_, 1)) (ho : pm_ok M.2.2.2 none) (hQ : Q none g) : RG sc M d kc ks pc ls [] g Q := G_ret (r := none) hd (fun _ => rfl) ho hQ
/-- here it stops -/
theorem G_stop (hQ : Q (some (pR (5000 + pc))) g) : RG sc M d kc ks pc ls [] g Q :=
  fun E p l e R s m args below meth c H locs cells slots Qf L hF h1 h2 h3 h4 hR hS hL hq hZ => hq.2 pc g H locs L cells slots (Nat.le_add_right _ _) (Nat.le_add_right _ _) hQ hR hS hL.1
/-- a plain run is one of these -/
theorem RG.up (h : RR M d kc ks pc ls st g Q) : RG sc M d kc ks pc ls st g Q :=
  fun E p l e R s m args below meth c H locs cells slots Qf L hF h1 h2 h3 h4 hR hS hL hq hZ => h E p l e R s m args below meth c H locs cells slots Qf L hF h1 h2 h3 h4 hR hS hL (fun r g' H' locs' pc' L' x1 x2 x3 x4 x5 => hq.1 r g' H' locs' pc' L' x1 x2 x3 x4 x5)
theorem RG.post {Q2 : Option PV → PH → Prop} (h : RG sc M d kc ks pc ls st g Q) (hQ : ∀ r g', Q r g' → Q2 r g') : RG sc M d kc ks pc ls st g Q2 :=
  fun E p l e R s m args below meth c H locs cells slots Qf L hF h1 h2 h3 h4 hR hS hL hq hZ => h E p l e R s m args below meth c H locs cells slots Qf L hF h1 h2 h3 h4 hR hS hL ⟨fun r g' H' locs' pc' L' x1 => hq.1 r g' H' locs' pc' L' (hQ r g' x1), fun t g' H' locs' L' c' s' y1 y2 x1 => hq.2 t g' H' locs' L' c' s' y1 y2 (hQ _ g' x1)⟩ hZ
theorem RG.mono {a b : Nat} (h : RG sc M d kc ks pc ls st g Q) : RG sc M d (a + kc) (b + ks) pc ls st g Q :=
  fun E p l e R s m args below meth c H locs cells slots Qf L hF h1 h2 h3 h4 hR hS hL hq hZ => h E p l e R s m args below meth c H locs cells slots Qf L hF h1 h2 (by omega) (by omega) hR hS hL ⟨fun r g' H' locs' pc' L' x1 x2 x3 x4 x5 => W.widen (by omega) (by omega) (hq.1 r g' H' locs' pc' L' x1 x2 x3 x4 x5), fun t g' H' locs' L' c' s' y1 y2 => hq.2 t g' H' locs' L' c' s' (by omega) (by omega)⟩ hZ
end GPMB
section GPMC
variable {sc : SC}
variable {M M2 : PMt} {d d2 kc ks kc2 ks2 pc idx : Nat} {ls st : List PV} {Q Q2 : Option PV → PH → Prop} {g : PH}
theorem G_callV {a ci n n0 : Nat} {As st0 : List PV} (hd : decode M.2.1 pc = .ok (.invokevirtual idx, 3)) (hm : pm_mv M2 ci n) (hlk : Cond.methodLink M.1.cls idx M2.1 ∈ tblG) (hst : st0 = As.reverse ++ pR a :: st) (hn : As.length = n) (hcat : pm_cat st ≤ 8) (hlen : (pm_sl (pR a :: As)).length ≤ M2.2.2.1) (hdd : d2 + 1 ≤ d) (hl : ci < 50)
    (hc : g.1[a]? = some (ci, n0)) (hcall : RR M2 d2 kc2 ks2 0 (pm_ent (pR a :: As) M2.2.2.1) [] g Q2)
    (kk : ∀ r g', Q2 r g' → pm_ok M2.2.2.2 r → RG sc M d kc ks (pc + 3) ls (r.toList ++ st) g' Q) : RG sc M d (kc2 + kc) (ks2 + ks) pc ls st0 g Q := by
  intro E p l e R s m args below meth c H locs cells slots Qf L hF h1 h2 h3 h4 hR hS hL hq hZ
  obtain ⟨m1, m2, m3, m4, m5, m6, m7, q, m8, m9⟩ := hm
  subst hst
  obtain ⟨f1, f2, f3, f4, f5, f6, f7, f8, f9, f10⟩ := id hF
  have hmet := pm_met hcall hlen m1 E l
  have hG : GoodIn tblG (wsV M.1.cls idx M2.1.cls M2.1 (Cond.code M2.1 M2.2.1 M2.2.2.1 M2.2.2.2 :: tblG)) := by
    intro w hw
    have : w ∈ tblG := by
      simp only [wsV, List.cons_append, List.nil_append, List.mem_cons] at hw
      rcases hw with rfl | rfl | rfl | rfl | rfl | hw
      · exact hlk
      · exact m5
      · exact m6
      · exact m7
      · exact m4
      · exact hw
    exact tblG_good w this
  have hrec := va_recv (q0 := a) (ci := ci) f8 hR.1 m8 (fs := (List.range (pm_nf ci)).map (pm_fv E g a ci)) (by rw [pm_wl_at hc]; unfold pm_ce; rw [if_pos hl])
  rw [m9] at hrec
  have cw := cwV (own := M.1.cls) (index := idx) (C := M2.1.cls) (R := R) (rm := pm_rm d2 kc2 ks2) (mc := kc2) (ms := ks2) n f7 hG rfl rfl rfl ⟨rfl, m3⟩ ⟨by show d2 + 1 ≤ R.frames; omega, by show 8 + (M2.2.2.1 + 11) + 64 * d2 ≤ R.locals; omega⟩
  have run := va_runV (p := p) (e := e) (below := below) (meth := meth) (H := H) (locs := locs) (cells := cells) (slots := slots) (g := F0 m pc L ((As.reverse ++ pR a :: st).map (tv E))) (As := As.map (tv E)) (b := E.2.2.1 a) (rest := st.map (tv E)) ⟨f1, f2, f3, f6, f7⟩ hmet cw ⟨pm_blind E g _, hrec, pm_blind2 (As := pR a :: As) f8 hR (Nat.le_trans f9 hS.1) f10 hS.2.1⟩ rfl (by rw [List.length_map]; exact hn) hL.1 (by simp [tv]) (lv_room (by rw [pm_cat_eq]; exact hcat)) hd ⟨by omega, by omega⟩
  refine pm_after (M2 := M2) run hS (fun r g' H' locs' hQ2 hok hRel' hS' => ?_)
  exact kk r g' hQ2 hok E p l e R s m args below meth c H' locs' _ _ Qf L hF h1 h2 (by omega) (by omega) hRel' hS' hL ⟨fun r2 g2 H2 l2 pc2 L2 x1 x2 x3 x4 x5 => by rw [Nat.add_assoc, Nat.add_assoc]; exact hq.1 r2 g2 H2 l2 pc2 L2 x1 x2 x3 x4 x5, fun t g2 H2 l2 L2 c2 s2 y1 y2 x1 x2 x3 x4 => hq.2 t g2 H2 l2 L2 c2 s2 (by omega) (by omega) x1 x2 x3 x4⟩ hZ
theorem G_slen (hd : decode M.2.1 pc = .ok (.arraylength, 1)) (hsc : sc.1 ≤ 2560) (kk : RG sc M d kc ks (pc + 1) ls (pI sc.1 :: st) g Q) : RG sc M d kc ks pc ls (pR 1300 :: st) g Q := by
  intro E p l e R s m args below meth c H locs cells slots Qf L hF h1 h2 h3 h4 hR hS hL hq hZ
  exact va_tlen hF.1 hF.2.1 hZ.1.2.1 hS (i32_nat (by omega)).symm hd (kk E p l e R s m args below meth c H locs cells slots Qf L hF h1 h2 h3 h4 hR hS hL hq hZ)
theorem G_sld {j : Nat} {z : Int} (hd : decode M.2.1 pc = .ok (.iaload, 1)) (hz : z = (j : Int)) (hsc : sc.1 ≤ 2560) (hj : j < sc.1) (kk : RG sc M d kc ks (pc + 1) ls (pI (sc.2.1 j) :: st) g Q) : RG sc M d kc ks pc ls (pI z :: pR 1300 :: st) g Q := by
  intro E p l e R s m args below meth c H locs cells slots Qf L hF h1 h2 h3 h4 hR hS hL hq hZ
  subst hz
  obtain ⟨e1, e2⟩ := pm_inb (i := (j : Int)) (n := sc.1) (by omega) (by omega)
  refine va_ti hF.1 hF.2.1 hZ.1.2.1 hS e1 (v := tv E (pI (sc.2.1 j))) ?_ hd (kk E p l e R s m args below meth c H locs cells slots Qf L hF h1 h2 h3 h4 hR hS hL hq hZ)
  rw [e2, show (j : Int).toNat = j by omega]
  rfl
/-- a call of both systems -/
theorem G_ag {Mc Mm : PMt} {dc dm kA pc1 pc2 idx1 idx2 n : Nat} {As : List PV} {h : Nat → Int → Int} {st0 : List PV} (hA : AG Mc Mm dc dm As kA h) (hd1 : decode M.2.1 pc1 = .ok (.invokevirtual idx1, 3)) (hd2 : decode M.2.1 pc2 = .ok (.invokevirtual idx2, 3)) (hm1 : pm_mv Mc 11 n) (hm2 : pm_mv Mm 12 n) (hl1 : Cond.methodLink M.1.cls idx1 Mc.1 ∈ tblG) (hl2 : Cond.methodLink M.1.cls idx2 Mm.1 ∈ tblG) (hr1 : Mc.2.2.2 = some .int ∨ Mc.2.2.2 = some .boolean) (hn : As.length = n) (hlen1 : (pm_sl (pR 0 :: As)).length ≤ Mc.2.2.1) (hlen2 : (pm_sl (pR 147 :: As)).length ≤ Mm.2.2.1) (hdc : dc + 1 ≤ d) (hdm : dm + 1 ≤ d) (hst : st0 = As.reverse ++ [pR 0])
    (hpush : ∀ (z : Int) (h3 : Nat → Int → Int), RG sc M d kc ks pc2 ls (As.reverse ++ pR 147 :: [pI z]) (shp0, rf0, h3) Q → RG sc M d kc ks (pc1 + 3) ls [pI z] (shp0, rf0, h3) Q)
    (K : ∀ (z : Int) (h4 : Nat → Int → Int), SR (kA + 1) h4 → RG sc M d kc ks (pc2 + 3) ls [pI z, pI z] (shp0, rf0, h4) Q) : RG sc M d kc ks pc1 ls st0 (shp0, rf0, h) Q := by
  have ok : ∀ (MM : PMt) (r : Option PV), (MM.2.2.2 = some .int ∨ MM.2.2.2 = some .boolean) → pm_ok MM.2.2.2 r → ∃ z : Int, r = some (pI z) := fun MM r e h => by
    rcases e with e | e <;> rw [e] at h <;> match r, h with
    | some (.inl z), _ => exact ⟨z, rfl⟩
  have hA : RR Mc dc 0 0 0 (pm_ent (pR 0 :: As) Mc.2.2.1) [] (shp0, rf0, h) _ := hA
  refine (by rw [Nat.zero_add, Nat.zero_add] : RG sc M d (0 + kc) (0 + ks) pc1 ls st0 (shp0, rf0, h) Q = RG sc M d kc ks pc1 ls st0 (shp0, rf0, h) Q) ▸ ?_
  refine G_callV (kc2 := 0) (ks2 := 0) (As := As) (st := []) hd1 hm1 hl1 hst hn (by decide) hlen1 hdc (by omega) (rfl : shp0[0]? = some (11, _)) hA (fun r g' q hok => ?_)
  obtain ⟨z, rfl⟩ := ok Mc r hr1 hok
  obtain ⟨h3, rfl, q2⟩ := q
  refine hpush z h3 ?_
  refine (by rw [Nat.zero_add, Nat.zero_add] : RG sc M d (0 + kc) (0 + ks) pc2 ls (As.reverse ++ pR 147 :: [pI z]) (shp0, rf0, h3) Q = RG sc M d kc ks pc2 ls (As.reverse ++ pR 147 :: [pI z]) (shp0, rf0, h3) Q) ▸ ?_
  refine G_callV (kc2 := 0) (ks2 := 0) (As := As) (st := [pI z]) hd2 hm2 hl2 rfl hn (Nat.le_of_ble_eq_true rfl) hlen2 hdm (by omega) (rfl : shp0[147]? = some (12, _)) q2 (fun r2 g2 q3 _ => ?_)
  obtain ⟨rfl, h4, rfl, hS⟩ := q3
  exact K z h4 hS
end GPMC

