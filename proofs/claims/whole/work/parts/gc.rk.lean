/-! the machine of the constructors: RR whose cells' places grow -/
def pm_ext (E E2 : PE) (n : Nat) : Prop := E2.1 = E.1 ∧ E2.2.1 = E.2.1 ∧ E2.2.2.2 = E.2.2.2 ∧ ∀ a, (a < n ∨ 1000 ≤ a) → E2.2.2.1 a = E.2.2.1 a
theorem pm_ext.rf {E : PE} {n : Nat} : pm_ext E E n := ⟨rfl, rfl, rfl, fun _ _ => rfl⟩
theorem pm_ext.tr {E E2 E3 : PE} {n k : Nat} (h : pm_ext E E2 n) (h2 : pm_ext E2 E3 k) (hk : n ≤ k) : pm_ext E E3 n := ⟨h2.1.trans h.1, h2.2.1.trans h.2.1, h2.2.2.1.trans h.2.2.1, fun a ha => (h2.2.2.2 a (by omega)).trans (h.2.2.2 a ha)⟩
theorem pm_ext.A {E E2 : PE} {n : Nat} (h : pm_ext E E2 n) : pm_A E2 = pm_A E := by
  funext q
  show (E2.2.2.2 ≤ q) = (E.2.2.2 ≤ q)
  rw [h.2.2.1]
/-- links to nest mates' constructors, which no call hands on by itself -/
def kNq : List (String × Nat × MethodName) := [(RX11, 9, yX7_init), (RX11, 28, yX2_init), (RX11, 35, yX9_init), (RX11, 58, yX5_init), (RX5, 11, yX10_init), (RX1, 24, yX9_init), (RX11, 79, yX8_init), (RX11, 86, yX3_init)]
def pm_cr (s : State) : Prop := va_AO "CoachesVote$Train" s ∧ ∀ q ∈ kNq, va_Nw (.methodLinkNest q.1 q.2.1 q.2.2 "CoachesVote") s
theorem pm_cr.warm {s U : State} (hW : s.WarmedH U.vm) (h : pm_cr s) : pm_cr U := ⟨va_AO.moved hW.alike h.1, fun q hq => va_Nw.warmM hW (h.2 q hq)⟩
theorem pm_cr.call {U : State} {f : JFrame} {mk : MethodId} {a : Array Value} (h : pm_cr U) : pm_cr (U.calling f mk a) := ⟨va_AO.moved (u := U) (U := U.calling f mk a) (Vm.Alike.refl U.vm) h.1, fun q hq => va_tabs (A := #[]) (u := U) rfl rfl (h.2 q hq)⟩
def pm_cz (M : PMt) (s : State) (meth : Method) : Prop := pm_cr s ∧ (M.1.name = "<init>" → meth.name = "<init>")
/-- the law's locals before its loop -/
def lawLs : List PV := [pR 1300, pR 0, pR 147, pR 178, pI 0, pU, pU, pU]
/-- how a run goes on behind its end, or behind the law's first rows -/
def KQ (M : PMt) (E : PE) (n : Nat) (p : Program) (l : Launch) (e : Env) (R : Room) (s : State) (m : MethodId) (args : Array Value) (below : List Frame) (meth : Method) (c : Code) (cells slots : Nat) (Qf : State → Prop) (Q : Option PV → PH → Prop) : Prop :=
  (∀ (E2 : PE) (r : Option PV) (g' : PH) (H' : Heap) (locs' : List Loc) (pc' : Nat) (L' : Array Slot), pm_ext E E2 n → n ≤ g'.1.length → Q r g' → pm_ok M.2.2.2 r → pm_Rel E2 g' H' → va_S (pm_A E) s.heap H' locs' → decode M.2.1 pc' = .ok (pm_ri r, 1) →
      W p l e R s m args below meth c H' locs' cells slots Qf (F0 m pc' L' (pm_rs E2 r))) ∧
  (∀ (E2 : PE) (g' : PH) (H' : Heap) (locs' : List Loc) (L' : Array Slot), pm_ext E E2 n → Q (some (pR 5023)) g' → pm_Rel E2 g' H' → va_S (pm_A E) s.heap H' locs' → lv_has L' M.2.2.1 (pm_asc E2 lawLs) →
      W p l e R s m args below meth c H' locs' cells slots Qf (F0 m 23 L' []))
theorem KQ.ext {M : PMt} {E E' : PE} {n n' : Nat} {p : Program} {l : Launch} {e : Env} {R : Room} {s : State} {m : MethodId} {args : Array Value} {below : List Frame} {meth : Method} {c : Code} {cells slots : Nat} {Qf : State → Prop} {Q : Option PV → PH → Prop} (h : KQ M E n p l e R s m args below meth c cells slots Qf Q) (hx : pm_ext E E' n) (hn : n ≤ n') : KQ M E' n' p l e R s m args below meth c cells slots Qf Q :=
  ⟨fun E2 r g' H' locs' pc' L' x0 xl x1 x2 x3 x4 x5 => h.1 E2 r g' H' locs' pc' L' (hx.tr x0 hn) (Nat.le_trans hn xl) x1 x2 x3 (by rw [← hx.A]; exact x4) x5, fun E2 g' H' locs' L' x0 x1 x2 x3 x4 => h.2 E2 g' H' locs' L' (hx.tr x0 hn) x1 x2 (by rw [← hx.A]; exact x3) x4⟩
def RK (M : PMt) (d kc ks pc : Nat) (ls st : List PV) (g : PH) (Q : Option PV → PH → Prop) : Prop :=
  ∀ (E : PE) (p : Program) (l : Launch) (e : Env) (R : Room) (s : State) (m : MethodId) (args : Array Value) (below : List Frame) (meth : Method) (c : Code) (H : Heap) (locs : List Loc) (cells slots : Nat) (Qf : State → Prop) (L : Array Slot),
    pm_Fr E M p s m args meth c → d ≤ R.frames → 64 * d ≤ R.locals → cells + kc ≤ R.cells → slots + ks ≤ R.slots →
    pm_Rel E g H → va_S (pm_A E) s.heap H locs → lv_has L M.2.2.1 (pm_asc E ls) →
    KQ M E g.1.length p l e R s m args below meth c (cells + kc) (slots + ks) Qf Q →
    pm_cz M s meth →
    W p l e R s m args below meth c H locs cells slots Qf (F0 m pc L (st.map (tv E)))
section KPMR
variable {M : PMt} {d kc ks pc : Nat} {ls st : List PV} {g : PH} {Q : Option PV → PH → Prop}
theorem RK.of {pc2 : Nat} {st2 : List PV} (hh : ∀ {E : PE} {p : Program} {l : Launch} {e : Env} {R : Room} {s : State} {m : MethodId} {args : Array Value} {below : List Frame} {meth : Method} {c : Code} {H : Heap} {locs : List Loc} {cells slots : Nat} {Qf : State → Prop} {L : Array Slot}, pm_Fr E M p s m args meth c → lv_has L M.2.2.1 (pm_asc E ls) → W p l e R s m args below meth c H locs cells slots Qf (F0 m pc2 L (st2.map (tv E))) → W p l e R s m args below meth c H locs cells slots Qf (F0 m pc L (st.map (tv E)))) (k : RK M d kc ks pc2 ls st2 g Q) : RK M d kc ks pc ls st g Q :=
  fun E p l e R s m args below meth c H locs cells slots Qf L hF h1 h2 h3 h4 hR hS hL hq hZ => hh hF hL (k E p l e R s m args below meth c H locs cells slots Qf L hF h1 h2 h3 h4 hR hS hL hq hZ)
theorem RK.of2 {pc2 pc3 : Nat} {st2 st3 : List PV} {P P2 : Prop} (hh : ∀ {E : PE} {p : Program} {l : Launch} {e : Env} {R : Room} {s : State} {m : MethodId} {args : Array Value} {below : List Frame} {meth : Method} {c : Code} {H : Heap} {locs : List Loc} {cells slots : Nat} {Qf : State → Prop} {L : Array Slot}, pm_Fr E M p s m args meth c → (P → W p l e R s m args below meth c H locs cells slots Qf (F0 m pc2 L (st2.map (tv E)))) → (P2 → W p l e R s m args below meth c H locs cells slots Qf (F0 m pc3 L (st3.map (tv E)))) → W p l e R s m args below meth c H locs cells slots Qf (F0 m pc L (st.map (tv E)))) (k : P → RK M d kc ks pc2 ls st2 g Q) (k2 : P2 → RK M d kc ks pc3 ls st3 g Q) : RK M d kc ks pc ls st g Q :=
  fun E p l e R s m args below meth c H locs cells slots Qf L hF h1 h2 h3 h4 hR hS hL hq hZ => hh hF (fun x => k x E p l e R s m args below meth c H locs cells slots Qf L hF h1 h2 h3 h4 hR hS hL hq hZ) (fun x => k2 x E p l e R s m args below meth c H locs cells slots Qf L hF h1 h2 h3 h4 hR hS hL hq hZ)
theorem K_iconst {z : Int} (hd : decode M.2.1 pc = .ok (.iconst z, 1)) (k : RK M d kc ks (pc + 1) ls (pI z :: st) g Q) : RK M d kc ks pc ls st g Q :=
  RK.of (fun hF _ k => lv_iconst hF.1 hF.2.1 hd rfl k) k
theorem K_bipush {z : Int} (hd : decode M.2.1 pc = .ok (.bipush z, 2)) (hz : (Int8.ofInt z).toInt32 = Int32.ofInt z) (k : RK M d kc ks (pc + 2) ls (pI z :: st) g Q) : RK M d kc ks pc ls st g Q :=
  RK.of (fun hF _ k => lv_bipush hF.1 hF.2.1 hd hz k) k
theorem K_sipush {z : Int} (hd : decode M.2.1 pc = .ok (.sipush z, 3)) (hz : (Int16.ofInt z).toInt32 = Int32.ofInt z) (k : RK M d kc ks (pc + 3) ls (pI z :: st) g Q) : RK M d kc ks pc ls st g Q :=
  RK.of (fun hF _ k => lv_sipush hF.1 hF.2.1 hd hz k) k
theorem K_lconst {n : Fin 2} {z : Int} (hd : decode M.2.1 pc = .ok (.lconst n, 1)) (hz : Int64.ofNat (n : Nat) = Int64.ofInt z) (k : RK M d kc ks (pc + 1) ls (pL z :: st) g Q) : RK M d kc ks pc ls st g Q :=
  RK.of (fun hF _ k => lv_lconst hF.1 hF.2.1 hd hz k) k
theorem K_ldc {z : Int} {i : Nat} (hd : decode M.2.1 pc = .ok (.ldc i, 2)) (hw : Cond.constant M.1.cls i (Int32.ofInt z) ∈ tblG) (k : RK M d kc ks (pc + 2) ls (pI z :: st) g Q) : RK M d kc ks pc ls st g Q :=
  RK.of (fun hF _ k => lv_ldc hF.1 hF.2.1 hF.2.2.2.2.2.1 (hF.2.2.2.2.2.2.1 _ hw) hd k) k
theorem K_ldcw {z : Int} {i : Nat} (hd : decode M.2.1 pc = .ok (.ldc_w i, 3)) (hw : Cond.constant M.1.cls i (Int32.ofInt z) ∈ tblG) (k : RK M d kc ks (pc + 3) ls (pI z :: st) g Q) : RK M d kc ks pc ls st g Q :=
  RK.of (fun hF _ k => lv_ldcw hF.1 hF.2.1 hF.2.2.2.2.2.1 (hF.2.2.2.2.2.2.1 _ hw) hd k) k
theorem K_ldc2 {z : Int} {i : Nat} (hd : decode M.2.1 pc = .ok (.ldc2_w i, 3)) (hw : Cond.constantLong M.1.cls i (Int64.ofInt z) ∈ tblG) (k : RK M d kc ks (pc + 3) ls (pL z :: st) g Q) : RK M d kc ks pc ls st g Q :=
  RK.of (fun hF _ k => lv_ldc2 hF.1 hF.2.1 hF.2.2.2.2.2.1 (hF.2.2.2.2.2.2.1 _ hw) hd k) k
theorem K_iload_n {n : Fin 4} {z : Int} (hd : decode M.2.1 pc = .ok (.iload_n n, 1)) (hl : ls[(n : Nat)]? = some (pI z)) (k : RK M d kc ks (pc + 1) ls (pI z :: st) g Q) : RK M d kc ks pc ls st g Q :=
  RK.of (fun hF hL k => lv_iload_n hF.1 hF.2.1 hd rfl (pm_at hL hl (fun e => by cases e)) k) k
theorem K_iload {i : Nat} {z : Int} (hd : decode M.2.1 pc = .ok (.iload i, 2)) (hl : ls[i]? = some (pI z)) (k : RK M d kc ks (pc + 2) ls (pI z :: st) g Q) : RK M d kc ks pc ls st g Q :=
  RK.of (fun hF hL k => lv_iload hF.1 hF.2.1 hd (pm_at hL hl (fun e => by cases e)) k) k
theorem K_lload_n {n : Fin 4} {z : Int} (hd : decode M.2.1 pc = .ok (.lload_n n, 1)) (hl : ls[(n : Nat)]? = some (pL z)) (k : RK M d kc ks (pc + 1) ls (pL z :: st) g Q) : RK M d kc ks pc ls st g Q :=
  RK.of (fun hF hL k => lv_lload_n hF.1 hF.2.1 hd rfl (pm_at hL hl (fun e => by cases e)) k) k
theorem K_lload {i : Nat} {z : Int} (hd : decode M.2.1 pc = .ok (.lload i, 2)) (hl : ls[i]? = some (pL z)) (k : RK M d kc ks (pc + 2) ls (pL z :: st) g Q) : RK M d kc ks pc ls st g Q :=
  RK.of (fun hF hL k => lv_lload hF.1 hF.2.1 hd (pm_at hL hl (fun e => by cases e)) k) k
theorem K_aload_n {n : Fin 4} {a : Nat} (hd : decode M.2.1 pc = .ok (.aload_n n, 1)) (hl : ls[(n : Nat)]? = some (pR a)) (k : RK M d kc ks (pc + 1) ls (pR a :: st) g Q) : RK M d kc ks pc ls st g Q :=
  RK.of (fun hF hL k => lv_aload_n hF.1 hF.2.1 hd rfl (pm_at hL hl (fun e => by cases e)) k) k
theorem K_aload {i : Nat} {a : Nat} (hd : decode M.2.1 pc = .ok (.aload i, 2)) (hl : ls[i]? = some (pR a)) (k : RK M d kc ks (pc + 2) ls (pR a :: st) g Q) : RK M d kc ks pc ls st g Q :=
  RK.of (fun hF hL k => lv_aload hF.1 hF.2.1 hd (pm_at hL hl (fun e => by cases e)) k) k
theorem K_istore_n {n : Fin 4} {z : Int} (hd : decode M.2.1 pc = .ok (.istore_n n, 1)) (hn : (n : Nat) < M.2.2.1) (k : RK M d kc ks (pc + 1) (pm_s1 ls n (pI z)) st g Q) : RK M d kc ks pc ls (pI z :: st) g Q :=
  fun E p l e R s m args below meth c H locs cells slots Qf L hF h1 h2 h3 h4 hR hS hL hq hZ => lv_istore_n hF.1 hF.2.1 hd rfl hL hn rfl (fun L' hL' => k E p l e R s m args below meth c H locs cells slots Qf L' hF h1 h2 h3 h4 hR hS (pm_s1_has (v := pI z) hL') hq hZ)
theorem K_istore {i : Nat} {z : Int} (hd : decode M.2.1 pc = .ok (.istore i, 2)) (hn : i < M.2.2.1) (k : RK M d kc ks (pc + 2) (pm_s1 ls i (pI z)) st g Q) : RK M d kc ks pc ls (pI z :: st) g Q :=
  fun E p l e R s m args below meth c H locs cells slots Qf L hF h1 h2 h3 h4 hR hS hL hq hZ => lv_istore hF.1 hF.2.1 hd hL hn rfl (fun L' hL' => k E p l e R s m args below meth c H locs cells slots Qf L' hF h1 h2 h3 h4 hR hS (pm_s1_has (v := pI z) hL') hq hZ)
theorem K_astore_n {n : Fin 4} {a : Nat} (hd : decode M.2.1 pc = .ok (.astore_n n, 1)) (hn : (n : Nat) < M.2.2.1) (k : RK M d kc ks (pc + 1) (pm_s1 ls n (pR a)) st g Q) : RK M d kc ks pc ls (pR a :: st) g Q :=
  fun E p l e R s m args below meth c H locs cells slots Qf L hF h1 h2 h3 h4 hR hS hL hq hZ => lv_astore_n hF.1 hF.2.1 hd rfl hL hn rfl (fun L' hL' => k E p l e R s m args below meth c H locs cells slots Qf L' hF h1 h2 h3 h4 hR hS (pm_s1_has (v := pR a) hL') hq hZ)
theorem K_astore {i : Nat} {a : Nat} (hd : decode M.2.1 pc = .ok (.astore i, 2)) (hn : i < M.2.2.1) (k : RK M d kc ks (pc + 2) (pm_s1 ls i (pR a)) st g Q) : RK M d kc ks pc ls (pR a :: st) g Q :=
  fun E p l e R s m args below meth c H locs cells slots Qf L hF h1 h2 h3 h4 hR hS hL hq hZ => lv_astore hF.1 hF.2.1 hd hL hn rfl (fun L' hL' => k E p l e R s m args below meth c H locs cells slots Qf L' hF h1 h2 h3 h4 hR hS (pm_s1_has (v := pR a) hL') hq hZ)
theorem K_lstore_n {n : Fin 4} {z : Int} (hd : decode M.2.1 pc = .ok (.lstore_n n, 1)) (hn : (n : Nat) + 1 < M.2.2.1) (k : RK M d kc ks (pc + 1) (pm_s2 ls n (pL z)) st g Q) : RK M d kc ks pc ls (pL z :: st) g Q :=
  fun E p l e R s m args below meth c H locs cells slots Qf L hF h1 h2 h3 h4 hR hS hL hq hZ => lv_lstore_n hF.1 hF.2.1 hd rfl hL hn rfl (fun L' hL' => k E p l e R s m args below meth c H locs cells slots Qf L' hF h1 h2 h3 h4 hR hS (pm_s2_has (v := pL z) hL') hq hZ)
theorem K_lstore {i : Nat} {z : Int} (hd : decode M.2.1 pc = .ok (.lstore i, 2)) (hn : i + 1 < M.2.2.1) (k : RK M d kc ks (pc + 2) (pm_s2 ls i (pL z)) st g Q) : RK M d kc ks pc ls (pL z :: st) g Q :=
  fun E p l e R s m args below meth c H locs cells slots Qf L hF h1 h2 h3 h4 hR hS hL hq hZ => lv_lstore hF.1 hF.2.1 hd hL hn rfl (fun L' hL' => k E p l e R s m args below meth c H locs cells slots Qf L' hF h1 h2 h3 h4 hR hS (pm_s2_has (v := pL z) hL') hq hZ)
theorem K_iinc {i : Nat} {z w : Int} (hd : decode M.2.1 pc = .ok (.iinc i w, 3)) (hl : ls[i]? = some (pI z)) (hn : i < M.2.2.1) (k : RK M d kc ks (pc + 3) (pm_s1 ls i (pI (z + w))) st g Q) : RK M d kc ks pc ls st g Q := by
  intro E p l e R s m args below meth c H locs cells slots Qf L hF h1 h2 h3 h4 hR hS hL hq hZ
  obtain ⟨j, hj⟩ := List.getElem?_of_mem (pm_asc_mem (E := E).mpr ⟨pI z, hl, (fun e => by cases e), rfl⟩)
  exact lv_iinc (v := Int32.ofInt (z + w)) hF.1 hF.2.1 hd hL hj (Int32.ofInt_add z w).symm hn rfl (fun L' hL' => k E p l e R s m args below meth c H locs cells slots Qf L' hF h1 h2 h3 h4 hR hS (pm_s1_has (v := pI (z + w)) hL') hq hZ)
theorem K_iadd {a b : Int} (hd : decode M.2.1 pc = .ok (.iadd, 1)) (k : RK M d kc ks (pc + 1) ls (pI (a + b) :: st) g Q) : RK M d kc ks pc ls (pI b :: pI a :: st) g Q :=
  RK.of (fun hF _ k => lv_iadd hF.1 hF.2.1 hd (by rw [← Int32.ofInt_add]; exact k)) k
theorem K_isub {a b : Int} (hd : decode M.2.1 pc = .ok (.isub, 1)) (k : RK M d kc ks (pc + 1) ls (pI (a - b) :: st) g Q) : RK M d kc ks pc ls (pI b :: pI a :: st) g Q :=
  RK.of (fun hF _ k => lv_isub hF.1 hF.2.1 hd (by rw [← Int32.ofInt_sub]; exact k)) k
theorem K_imul {a b : Int} (hd : decode M.2.1 pc = .ok (.imul, 1)) (k : RK M d kc ks (pc + 1) ls (pI (a * b) :: st) g Q) : RK M d kc ks pc ls (pI b :: pI a :: st) g Q :=
  RK.of (fun hF _ k => lv_imul hF.1 hF.2.1 hd (by rw [← Int32.ofInt_mul]; exact k)) k
theorem K_ineg {a : Int} (hd : decode M.2.1 pc = .ok (.ineg, 1)) (k : RK M d kc ks (pc + 1) ls (pI (-a) :: st) g Q) : RK M d kc ks pc ls (pI a :: st) g Q :=
  RK.of (fun hF _ k => lv_ineg hF.1 hF.2.1 hd (by have e := Int32.ofInt_neg a; first | (rw [← e]; exact k) | (simpa [e, tv] using k))) k
theorem K_iand {a b : Int} (hd : decode M.2.1 pc = .ok (.iand, 1)) (k : RK M d kc ks (pc + 1) ls (pI (iAnd a b) :: st) g Q) : RK M d kc ks pc ls (pI b :: pI a :: st) g Q :=
  RK.of (fun hF _ k => lv_iand hF.1 hF.2.1 hd (by simpa [tv, iAnd, Int32.ofInt_toInt] using k)) k
theorem K_ior {a b : Int} (hd : decode M.2.1 pc = .ok (.ior, 1)) (k : RK M d kc ks (pc + 1) ls (pI (iOr a b) :: st) g Q) : RK M d kc ks pc ls (pI b :: pI a :: st) g Q :=
  RK.of (fun hF _ k => lv_ior hF.1 hF.2.1 hd (by simpa [tv, iOr, Int32.ofInt_toInt] using k)) k
theorem K_ixor {a b : Int} (hd : decode M.2.1 pc = .ok (.ixor, 1)) (k : RK M d kc ks (pc + 1) ls (pI (iXor a b) :: st) g Q) : RK M d kc ks pc ls (pI b :: pI a :: st) g Q :=
  RK.of (fun hF _ k => lv_ixor hF.1 hF.2.1 hd (by simpa [tv, iXor, Int32.ofInt_toInt] using k)) k
theorem K_ishl {a b : Int} (hd : decode M.2.1 pc = .ok (.ishl, 1)) (k : RK M d kc ks (pc + 1) ls (pI (iShl a b) :: st) g Q) : RK M d kc ks pc ls (pI b :: pI a :: st) g Q :=
  RK.of (fun hF _ k => lv_ishl hF.1 hF.2.1 hd (by simpa only [List.map, tv, iShl, Int32.ofInt_toInt] using k)) k
theorem K_ishr {a b : Int} (hd : decode M.2.1 pc = .ok (.ishr, 1)) (k : RK M d kc ks (pc + 1) ls (pI (iShr a b) :: st) g Q) : RK M d kc ks pc ls (pI b :: pI a :: st) g Q :=
  RK.of (fun hF _ k => lv_ishr hF.1 hF.2.1 hd (by simpa only [List.map, tv, iShr, Int32.ofInt_toInt] using k)) k
theorem K_iushr {a b : Int} (hd : decode M.2.1 pc = .ok (.iushr, 1)) (k : RK M d kc ks (pc + 1) ls (pI (iUshr a b) :: st) g Q) : RK M d kc ks pc ls (pI b :: pI a :: st) g Q :=
  RK.of (fun hF _ k => lv_iushr hF.1 hF.2.1 hd rfl (by simpa only [List.map, tv, iUshr, Int32.ofInt_toInt] using k)) k
theorem K_idiv {a b : Int} (hd : decode M.2.1 pc = .ok (.idiv, 1)) (hb : r32 b) (h0 : b ≠ 0) (k : RK M d kc ks (pc + 1) ls (pI (iDiv a b) :: st) g Q) : RK M d kc ks pc ls (pI b :: pI a :: st) g Q :=
  RK.of (fun hF _ k => lv_idiv hF.1 hF.2.1 hd (fun e => h0 ((i_eq hb (by decide)).mp (e.trans i_0))) (by simpa only [List.map, tv, iDiv, Int32.ofInt_toInt] using k)) k
theorem K_irem {a b : Int} (hd : decode M.2.1 pc = .ok (.irem, 1)) (hb : r32 b) (h0 : b ≠ 0) (k : RK M d kc ks (pc + 1) ls (pI (iRem a b) :: st) g Q) : RK M d kc ks pc ls (pI b :: pI a :: st) g Q :=
  RK.of (fun hF _ k => lv_irem hF.1 hF.2.1 hd (fun e => h0 ((i_eq hb (by decide)).mp (e.trans i_0))) (by simpa only [List.map, tv, iRem, Int32.ofInt_toInt] using k)) k
theorem K_i2b {a : Int} (hd : decode M.2.1 pc = .ok (.i2b, 1)) (k : RK M d kc ks (pc + 1) ls (pI (iB a) :: st) g Q) : RK M d kc ks pc ls (pI a :: st) g Q :=
  RK.of (fun hF _ k => lv_i2b hF.1 hF.2.1 hd rfl (by simpa only [List.map, tv, iB, Int32.ofInt_toInt] using k)) k
theorem K_i2s {a : Int} (hd : decode M.2.1 pc = .ok (.i2s, 1)) (k : RK M d kc ks (pc + 1) ls (pI (iS a) :: st) g Q) : RK M d kc ks pc ls (pI a :: st) g Q :=
  RK.of (fun hF _ k => lv_i2s hF.1 hF.2.1 hd rfl (by simpa only [List.map, tv, iS, Int32.ofInt_toInt] using k)) k
theorem K_i2l {a : Int} (hd : decode M.2.1 pc = .ok (.i2l, 1)) (ha : r32 a) (k : RK M d kc ks (pc + 1) ls (pL a :: st) g Q) : RK M d kc ks pc ls (pI a :: st) g Q :=
  RK.of (fun hF _ k => lv_i2l hF.1 hF.2.1 hd (i2l_of ha) k) k
theorem K_ladd {a b : Int} (hd : decode M.2.1 pc = .ok (.ladd, 1)) (k : RK M d kc ks (pc + 1) ls (pL (a + b) :: st) g Q) : RK M d kc ks pc ls (pL b :: pL a :: st) g Q :=
  RK.of (fun hF _ k => lv_ladd hF.1 hF.2.1 hd (by rw [← Int64.ofInt_add]; exact k)) k
theorem K_lmul {a b : Int} (hd : decode M.2.1 pc = .ok (.lmul, 1)) (k : RK M d kc ks (pc + 1) ls (pL (a * b) :: st) g Q) : RK M d kc ks pc ls (pL b :: pL a :: st) g Q :=
  RK.of (fun hF _ k => lv_lmul hF.1 hF.2.1 hd (by rw [← Int64.ofInt_mul]; exact k)) k
theorem K_ldiv {a b : Int} (hd : decode M.2.1 pc = .ok (.ldiv, 1)) (hb : r64 b) (h0 : b ≠ 0) (k : RK M d kc ks (pc + 1) ls (pL (lDiv a b) :: st) g Q) : RK M d kc ks pc ls (pL b :: pL a :: st) g Q :=
  RK.of (fun hF _ k => lv_ldiv hF.1 hF.2.1 hd (fun e => h0 ((l_eq hb (by decide)).mp (e.trans (show (0 : Int64) = Int64.ofInt 0 from rfl)))) (by simpa only [List.map, tv, lDiv, Int64.ofInt_toInt] using k)) k
theorem K_lrem {a b : Int} (hd : decode M.2.1 pc = .ok (.lrem, 1)) (hb : r64 b) (h0 : b ≠ 0) (k : RK M d kc ks (pc + 1) ls (pL (lRem a b) :: st) g Q) : RK M d kc ks pc ls (pL b :: pL a :: st) g Q :=
  RK.of (fun hF _ k => lv_lrem hF.1 hF.2.1 hd (fun e => h0 ((l_eq hb (by decide)).mp (e.trans (show (0 : Int64) = Int64.ofInt 0 from rfl)))) (by simpa only [List.map, tv, lRem, Int64.ofInt_toInt] using k)) k
theorem K_lshl {a b : Int} (hd : decode M.2.1 pc = .ok (.lshl, 1)) (k : RK M d kc ks (pc + 1) ls (pL (lShl a b) :: st) g Q) : RK M d kc ks pc ls (pI b :: pL a :: st) g Q :=
  RK.of (fun hF _ k => lv_lshl hF.1 hF.2.1 hd rfl (by simpa only [List.map, tv, lShl, Int64.ofInt_toInt] using k)) k
theorem K_lcmp {a b : Int} (hd : decode M.2.1 pc = .ok (.lcmp, 1)) (ha : r64 a) (hb : r64 b) (k : RK M d kc ks (pc + 1) ls (pI (if a < b then -1 else if a = b then 0 else 1) :: st) g Q) : RK M d kc ks pc ls (pL b :: pL a :: st) g Q :=
  RK.of (fun hF _ k => W.lcmp hF.1 hF.2.1 hd (by
    have e : lg_cmp (Int64.ofInt a) (Int64.ofInt b) = Int32.ofInt (if a < b then -1 else if a = b then 0 else 1) := by
      unfold lg_cmp
      simp only [l_lt ha hb, l_eq ha hb, l_lt hb ha, GT.gt, beq_iff_eq]
      by_cases h1 : a < b
      · simp [h1, show ¬ b < a by omega, show ¬ a = b by omega]; try rfl
      · by_cases h2 : a = b
        · simp [h2]; try rfl
        · simp [h1, h2, show b < a by omega]; try rfl
    rw [e]; exact k)) k
theorem K_dup {v : PV} (hd : decode M.2.1 pc = .ok (.dup, 1)) (hv : ∀ E, (tv E v).category = 1) (k : RK M d kc ks (pc + 1) ls (v :: v :: st) g Q) : RK M d kc ks pc ls (v :: st) g Q :=
  RK.of (fun hF _ k => lv_dup hF.1 hF.2.1 hd (hv _) k) k
theorem K_dup2 {v w : PV} (hd : decode M.2.1 pc = .ok (.dup2, 1)) (hv : ∀ E, (tv E v).category = 1) (hw : ∀ E, (tv E w).category = 1) (k : RK M d kc ks (pc + 1) ls (v :: w :: v :: w :: st) g Q) : RK M d kc ks pc ls (v :: w :: st) g Q :=
  RK.of (fun hF _ k => lv_dup2_11 hF.1 hF.2.1 hd (hv _) (hw _) k) k
theorem K_pop {v : PV} (hd : decode M.2.1 pc = .ok (.pop, 1)) (hv : ∀ E, (tv E v).category = 1) (k : RK M d kc ks (pc + 1) ls st g Q) : RK M d kc ks pc ls (v :: st) g Q :=
  RK.of (fun hF _ k => lv_pop hF.1 hF.2.1 hd (hv _) k) k
theorem K_goto {off : Int} {t : Nat} (hd : decode M.2.1 pc = .ok (.goto off, 3)) (ht : (pc : Int) + off = (t : Int)) (k : RK M d kc ks t ls st g Q) : RK M d kc ks pc ls st g Q :=
  RK.of (fun hF _ k => lv_goto hF.1 hF.2.1 hd ht k) k
end KPMR

section KPMB
variable {M : PMt} {d kc ks pc : Nat} {ls st : List PV} {g : PH} {Q : Option PV → PH → Prop}
theorem K_icmp_eq {a b off : Int} {t : Nat} (hd : decode M.2.1 pc = .ok (.if_icmp .eq off, 3)) (ht : (pc : Int) + off = (t : Int)) (kt : a = b → RK M d kc ks t ls st g Q) (kf : a ≠ b → RK M d kc ks (pc + 3) ls st g Q) (ha : r32 a := by first | assumption | omega) (hb : r32 b := by first | assumption | omega) : RK M d kc ks pc ls (pI b :: pI a :: st) g Q :=
  RK.of2 (fun hF k1 k2 => lv_icmp_eq hF.1 hF.2.1 hd ht (fun q => k1 (by have e1 := i_eq ha hb; have e2 := i_lt ha hb; have e3 := i_le ha hb; have e4 := i_lt hb ha; have e5 := i_le hb ha; first | exact e1.mp q | exact e2.mp q | exact e3.mp q | exact e4.mp q | exact e5.mp q | exact fun z => q (e1.mpr z)))
    (fun q => k2 (by have e1 := i_eq ha hb; have e2 := i_lt ha hb; have e3 := i_le ha hb; have e4 := i_lt hb ha; have e5 := i_le hb ha; first | exact e1.mp q | exact fun z => q (e1.mpr z) | exact e1.mp (Classical.not_not.mp q) | exact Int.not_lt.mp (fun z => q (e2.mpr z)) | exact Int.not_lt.mp (fun z => q (e4.mpr z)) | exact Int.not_le.mp (fun z => q (e3.mpr z)) | exact Int.not_le.mp (fun z => q (e5.mpr z))))) kt kf
theorem K_if_eq {a off : Int} {t : Nat} (hd : decode M.2.1 pc = .ok (.ifCond .eq off, 3)) (ht : (pc : Int) + off = (t : Int)) (kt : a = 0 → RK M d kc ks t ls st g Q) (kf : a ≠ 0 → RK M d kc ks (pc + 3) ls st g Q) (ha : r32 a := by first | assumption | omega) : RK M d kc ks pc ls (pI a :: st) g Q :=
  have hb : r32 0 := by omega
  RK.of2 (fun hF k1 k2 => lv_if_eq hF.1 hF.2.1 hd ht (fun q => k1 (by have e1 := i_eq ha hb; have e2 := i_lt ha hb; have e3 := i_le ha hb; have e4 := i_lt hb ha; have e5 := i_le hb ha; first | exact e1.mp q | exact e2.mp q | exact e3.mp q | exact e4.mp q | exact e5.mp q | exact fun z => q (e1.mpr z)))
    (fun q => k2 (by have e1 := i_eq ha hb; have e2 := i_lt ha hb; have e3 := i_le ha hb; have e4 := i_lt hb ha; have e5 := i_le hb ha; first | exact e1.mp q | exact fun z => q (e1.mpr z) | exact e1.mp (Classical.not_not.mp q) | exact Int.not_lt.mp (fun z => q (e2.mpr z)) | exact Int.not_lt.mp (fun z => q (e4.mpr z)) | exact Int.not_le.mp (fun z => q (e3.mpr z)) | exact Int.not_le.mp (fun z => q (e5.mpr z))))) kt kf
theorem K_icmp_ne {a b off : Int} {t : Nat} (hd : decode M.2.1 pc = .ok (.if_icmp .ne off, 3)) (ht : (pc : Int) + off = (t : Int)) (kt : a ≠ b → RK M d kc ks t ls st g Q) (kf : a = b → RK M d kc ks (pc + 3) ls st g Q) (ha : r32 a := by first | assumption | omega) (hb : r32 b := by first | assumption | omega) : RK M d kc ks pc ls (pI b :: pI a :: st) g Q :=
  RK.of2 (fun hF k1 k2 => lv_icmp_ne hF.1 hF.2.1 hd ht (fun q => k1 (by have e1 := i_eq ha hb; have e2 := i_lt ha hb; have e3 := i_le ha hb; have e4 := i_lt hb ha; have e5 := i_le hb ha; first | exact e1.mp q | exact e2.mp q | exact e3.mp q | exact e4.mp q | exact e5.mp q | exact fun z => q (e1.mpr z)))
    (fun q => k2 (by have e1 := i_eq ha hb; have e2 := i_lt ha hb; have e3 := i_le ha hb; have e4 := i_lt hb ha; have e5 := i_le hb ha; first | exact e1.mp q | exact fun z => q (e1.mpr z) | exact e1.mp (Classical.not_not.mp q) | exact Int.not_lt.mp (fun z => q (e2.mpr z)) | exact Int.not_lt.mp (fun z => q (e4.mpr z)) | exact Int.not_le.mp (fun z => q (e3.mpr z)) | exact Int.not_le.mp (fun z => q (e5.mpr z))))) kt kf
theorem K_if_ne {a off : Int} {t : Nat} (hd : decode M.2.1 pc = .ok (.ifCond .ne off, 3)) (ht : (pc : Int) + off = (t : Int)) (kt : a ≠ 0 → RK M d kc ks t ls st g Q) (kf : a = 0 → RK M d kc ks (pc + 3) ls st g Q) (ha : r32 a := by first | assumption | omega) : RK M d kc ks pc ls (pI a :: st) g Q :=
  have hb : r32 0 := by omega
  RK.of2 (fun hF k1 k2 => lv_if_ne hF.1 hF.2.1 hd ht (fun q => k1 (by have e1 := i_eq ha hb; have e2 := i_lt ha hb; have e3 := i_le ha hb; have e4 := i_lt hb ha; have e5 := i_le hb ha; first | exact e1.mp q | exact e2.mp q | exact e3.mp q | exact e4.mp q | exact e5.mp q | exact fun z => q (e1.mpr z)))
    (fun q => k2 (by have e1 := i_eq ha hb; have e2 := i_lt ha hb; have e3 := i_le ha hb; have e4 := i_lt hb ha; have e5 := i_le hb ha; first | exact e1.mp q | exact fun z => q (e1.mpr z) | exact e1.mp (Classical.not_not.mp q) | exact Int.not_lt.mp (fun z => q (e2.mpr z)) | exact Int.not_lt.mp (fun z => q (e4.mpr z)) | exact Int.not_le.mp (fun z => q (e3.mpr z)) | exact Int.not_le.mp (fun z => q (e5.mpr z))))) kt kf
theorem K_icmp_lt {a b off : Int} {t : Nat} (hd : decode M.2.1 pc = .ok (.if_icmp .lt off, 3)) (ht : (pc : Int) + off = (t : Int)) (kt : a < b → RK M d kc ks t ls st g Q) (kf : b ≤ a → RK M d kc ks (pc + 3) ls st g Q) (ha : r32 a := by first | assumption | omega) (hb : r32 b := by first | assumption | omega) : RK M d kc ks pc ls (pI b :: pI a :: st) g Q :=
  RK.of2 (fun hF k1 k2 => lv_icmp_lt hF.1 hF.2.1 hd ht (fun q => k1 (by have e1 := i_eq ha hb; have e2 := i_lt ha hb; have e3 := i_le ha hb; have e4 := i_lt hb ha; have e5 := i_le hb ha; first | exact e1.mp q | exact e2.mp q | exact e3.mp q | exact e4.mp q | exact e5.mp q | exact fun z => q (e1.mpr z)))
    (fun q => k2 (by have e1 := i_eq ha hb; have e2 := i_lt ha hb; have e3 := i_le ha hb; have e4 := i_lt hb ha; have e5 := i_le hb ha; first | exact e1.mp q | exact fun z => q (e1.mpr z) | exact e1.mp (Classical.not_not.mp q) | exact Int.not_lt.mp (fun z => q (e2.mpr z)) | exact Int.not_lt.mp (fun z => q (e4.mpr z)) | exact Int.not_le.mp (fun z => q (e3.mpr z)) | exact Int.not_le.mp (fun z => q (e5.mpr z))))) kt kf
theorem K_if_lt {a off : Int} {t : Nat} (hd : decode M.2.1 pc = .ok (.ifCond .lt off, 3)) (ht : (pc : Int) + off = (t : Int)) (kt : a < 0 → RK M d kc ks t ls st g Q) (kf : 0 ≤ a → RK M d kc ks (pc + 3) ls st g Q) (ha : r32 a := by first | assumption | omega) : RK M d kc ks pc ls (pI a :: st) g Q :=
  have hb : r32 0 := by omega
  RK.of2 (fun hF k1 k2 => lv_if_lt hF.1 hF.2.1 hd ht (fun q => k1 (by have e1 := i_eq ha hb; have e2 := i_lt ha hb; have e3 := i_le ha hb; have e4 := i_lt hb ha; have e5 := i_le hb ha; first | exact e1.mp q | exact e2.mp q | exact e3.mp q | exact e4.mp q | exact e5.mp q | exact fun z => q (e1.mpr z)))
    (fun q => k2 (by have e1 := i_eq ha hb; have e2 := i_lt ha hb; have e3 := i_le ha hb; have e4 := i_lt hb ha; have e5 := i_le hb ha; first | exact e1.mp q | exact fun z => q (e1.mpr z) | exact e1.mp (Classical.not_not.mp q) | exact Int.not_lt.mp (fun z => q (e2.mpr z)) | exact Int.not_lt.mp (fun z => q (e4.mpr z)) | exact Int.not_le.mp (fun z => q (e3.mpr z)) | exact Int.not_le.mp (fun z => q (e5.mpr z))))) kt kf
theorem K_icmp_ge {a b off : Int} {t : Nat} (hd : decode M.2.1 pc = .ok (.if_icmp .ge off, 3)) (ht : (pc : Int) + off = (t : Int)) (kt : b ≤ a → RK M d kc ks t ls st g Q) (kf : a < b → RK M d kc ks (pc + 3) ls st g Q) (ha : r32 a := by first | assumption | omega) (hb : r32 b := by first | assumption | omega) : RK M d kc ks pc ls (pI b :: pI a :: st) g Q :=
  RK.of2 (fun hF k1 k2 => lv_icmp_ge hF.1 hF.2.1 hd ht (fun q => k1 (by have e1 := i_eq ha hb; have e2 := i_lt ha hb; have e3 := i_le ha hb; have e4 := i_lt hb ha; have e5 := i_le hb ha; first | exact e1.mp q | exact e2.mp q | exact e3.mp q | exact e4.mp q | exact e5.mp q | exact fun z => q (e1.mpr z)))
    (fun q => k2 (by have e1 := i_eq ha hb; have e2 := i_lt ha hb; have e3 := i_le ha hb; have e4 := i_lt hb ha; have e5 := i_le hb ha; first | exact e1.mp q | exact fun z => q (e1.mpr z) | exact e1.mp (Classical.not_not.mp q) | exact Int.not_lt.mp (fun z => q (e2.mpr z)) | exact Int.not_lt.mp (fun z => q (e4.mpr z)) | exact Int.not_le.mp (fun z => q (e3.mpr z)) | exact Int.not_le.mp (fun z => q (e5.mpr z))))) kt kf
theorem K_if_ge {a off : Int} {t : Nat} (hd : decode M.2.1 pc = .ok (.ifCond .ge off, 3)) (ht : (pc : Int) + off = (t : Int)) (kt : 0 ≤ a → RK M d kc ks t ls st g Q) (kf : a < 0 → RK M d kc ks (pc + 3) ls st g Q) (ha : r32 a := by first | assumption | omega) : RK M d kc ks pc ls (pI a :: st) g Q :=
  have hb : r32 0 := by omega
  RK.of2 (fun hF k1 k2 => lv_if_ge hF.1 hF.2.1 hd ht (fun q => k1 (by have e1 := i_eq ha hb; have e2 := i_lt ha hb; have e3 := i_le ha hb; have e4 := i_lt hb ha; have e5 := i_le hb ha; first | exact e1.mp q | exact e2.mp q | exact e3.mp q | exact e4.mp q | exact e5.mp q | exact fun z => q (e1.mpr z)))
    (fun q => k2 (by have e1 := i_eq ha hb; have e2 := i_lt ha hb; have e3 := i_le ha hb; have e4 := i_lt hb ha; have e5 := i_le hb ha; first | exact e1.mp q | exact fun z => q (e1.mpr z) | exact e1.mp (Classical.not_not.mp q) | exact Int.not_lt.mp (fun z => q (e2.mpr z)) | exact Int.not_lt.mp (fun z => q (e4.mpr z)) | exact Int.not_le.mp (fun z => q (e3.mpr z)) | exact Int.not_le.mp (fun z => q (e5.mpr z))))) kt kf
theorem K_icmp_gt {a b off : Int} {t : Nat} (hd : decode M.2.1 pc = .ok (.if_icmp .gt off, 3)) (ht : (pc : Int) + off = (t : Int)) (kt : b < a → RK M d kc ks t ls st g Q) (kf : a ≤ b → RK M d kc ks (pc + 3) ls st g Q) (ha : r32 a := by first | assumption | omega) (hb : r32 b := by first | assumption | omega) : RK M d kc ks pc ls (pI b :: pI a :: st) g Q :=
  RK.of2 (fun hF k1 k2 => lv_icmp_gt hF.1 hF.2.1 hd ht (fun q => k1 (by have e1 := i_eq ha hb; have e2 := i_lt ha hb; have e3 := i_le ha hb; have e4 := i_lt hb ha; have e5 := i_le hb ha; first | exact e1.mp q | exact e2.mp q | exact e3.mp q | exact e4.mp q | exact e5.mp q | exact fun z => q (e1.mpr z)))
    (fun q => k2 (by have e1 := i_eq ha hb; have e2 := i_lt ha hb; have e3 := i_le ha hb; have e4 := i_lt hb ha; have e5 := i_le hb ha; first | exact e1.mp q | exact fun z => q (e1.mpr z) | exact e1.mp (Classical.not_not.mp q) | exact Int.not_lt.mp (fun z => q (e2.mpr z)) | exact Int.not_lt.mp (fun z => q (e4.mpr z)) | exact Int.not_le.mp (fun z => q (e3.mpr z)) | exact Int.not_le.mp (fun z => q (e5.mpr z))))) kt kf
theorem K_if_gt {a off : Int} {t : Nat} (hd : decode M.2.1 pc = .ok (.ifCond .gt off, 3)) (ht : (pc : Int) + off = (t : Int)) (kt : 0 < a → RK M d kc ks t ls st g Q) (kf : a ≤ 0 → RK M d kc ks (pc + 3) ls st g Q) (ha : r32 a := by first | assumption | omega) : RK M d kc ks pc ls (pI a :: st) g Q :=
  have hb : r32 0 := by omega
  RK.of2 (fun hF k1 k2 => lv_if_gt hF.1 hF.2.1 hd ht (fun q => k1 (by have e1 := i_eq ha hb; have e2 := i_lt ha hb; have e3 := i_le ha hb; have e4 := i_lt hb ha; have e5 := i_le hb ha; first | exact e1.mp q | exact e2.mp q | exact e3.mp q | exact e4.mp q | exact e5.mp q | exact fun z => q (e1.mpr z)))
    (fun q => k2 (by have e1 := i_eq ha hb; have e2 := i_lt ha hb; have e3 := i_le ha hb; have e4 := i_lt hb ha; have e5 := i_le hb ha; first | exact e1.mp q | exact fun z => q (e1.mpr z) | exact e1.mp (Classical.not_not.mp q) | exact Int.not_lt.mp (fun z => q (e2.mpr z)) | exact Int.not_lt.mp (fun z => q (e4.mpr z)) | exact Int.not_le.mp (fun z => q (e3.mpr z)) | exact Int.not_le.mp (fun z => q (e5.mpr z))))) kt kf
theorem K_icmp_le {a b off : Int} {t : Nat} (hd : decode M.2.1 pc = .ok (.if_icmp .le off, 3)) (ht : (pc : Int) + off = (t : Int)) (kt : a ≤ b → RK M d kc ks t ls st g Q) (kf : b < a → RK M d kc ks (pc + 3) ls st g Q) (ha : r32 a := by first | assumption | omega) (hb : r32 b := by first | assumption | omega) : RK M d kc ks pc ls (pI b :: pI a :: st) g Q :=
  RK.of2 (fun hF k1 k2 => lv_icmp_le hF.1 hF.2.1 hd ht (fun q => k1 (by have e1 := i_eq ha hb; have e2 := i_lt ha hb; have e3 := i_le ha hb; have e4 := i_lt hb ha; have e5 := i_le hb ha; first | exact e1.mp q | exact e2.mp q | exact e3.mp q | exact e4.mp q | exact e5.mp q | exact fun z => q (e1.mpr z)))
    (fun q => k2 (by have e1 := i_eq ha hb; have e2 := i_lt ha hb; have e3 := i_le ha hb; have e4 := i_lt hb ha; have e5 := i_le hb ha; first | exact e1.mp q | exact fun z => q (e1.mpr z) | exact e1.mp (Classical.not_not.mp q) | exact Int.not_lt.mp (fun z => q (e2.mpr z)) | exact Int.not_lt.mp (fun z => q (e4.mpr z)) | exact Int.not_le.mp (fun z => q (e3.mpr z)) | exact Int.not_le.mp (fun z => q (e5.mpr z))))) kt kf
theorem K_if_le {a off : Int} {t : Nat} (hd : decode M.2.1 pc = .ok (.ifCond .le off, 3)) (ht : (pc : Int) + off = (t : Int)) (kt : a ≤ 0 → RK M d kc ks t ls st g Q) (kf : 0 < a → RK M d kc ks (pc + 3) ls st g Q) (ha : r32 a := by first | assumption | omega) : RK M d kc ks pc ls (pI a :: st) g Q :=
  have hb : r32 0 := by omega
  RK.of2 (fun hF k1 k2 => lv_if_le hF.1 hF.2.1 hd ht (fun q => k1 (by have e1 := i_eq ha hb; have e2 := i_lt ha hb; have e3 := i_le ha hb; have e4 := i_lt hb ha; have e5 := i_le hb ha; first | exact e1.mp q | exact e2.mp q | exact e3.mp q | exact e4.mp q | exact e5.mp q | exact fun z => q (e1.mpr z)))
    (fun q => k2 (by have e1 := i_eq ha hb; have e2 := i_lt ha hb; have e3 := i_le ha hb; have e4 := i_lt hb ha; have e5 := i_le hb ha; first | exact e1.mp q | exact fun z => q (e1.mpr z) | exact e1.mp (Classical.not_not.mp q) | exact Int.not_lt.mp (fun z => q (e2.mpr z)) | exact Int.not_lt.mp (fun z => q (e4.mpr z)) | exact Int.not_le.mp (fun z => q (e3.mpr z)) | exact Int.not_le.mp (fun z => q (e5.mpr z))))) kt kf
theorem K_tabOut {dflt lo hi a : Int} {offs : Array Int} {len t : Nat} (hd : decode M.2.1 pc = .ok (.tableswitch dflt lo hi offs, len)) (ht : (pc : Int) + dflt = (t : Int)) (hh : a < lo ∨ hi < a) (k : RK M d kc ks t ls st g Q) (ha : r32 a := by first | assumption | omega) : RK M d kc ks pc ls (pI a :: st) g Q :=
  RK.of (fun hF _ k => lv_tableOut hF.1 hF.2.1 hd (by rw [r32_i ha]; exact hh) ht k) k
theorem K_tabIn {dflt lo hi a off : Int} {offs : Array Int} {len t : Nat} (hd : decode M.2.1 pc = .ok (.tableswitch dflt lo hi offs, len)) (h1 : lo ≤ a) (h2 : a ≤ hi) (ho : offs[(a - lo).toNat]? = some off) (ht : (pc : Int) + off = (t : Int)) (k : RK M d kc ks t ls st g Q) (ha : r32 a := by first | assumption | omega) : RK M d kc ks pc ls (pI a :: st) g Q :=
  RK.of (fun hF _ k => lv_tableIn hF.1 hF.2.1 hd (by rw [r32_i ha]; omega) (by rw [r32_i ha]; omega) (by rw [r32_i ha]; exact ho) ht k) k
theorem K_look {dflt a off : Int} {ps : Array (Int × Int)} {len t : Nat} (hd : decode M.2.1 pc = .ok (.lookupswitch dflt ps, len)) (hp : (ps.toList.zip (ps.toList.drop 1)).all (fun (a, next) => a.1 < next.1) = true) (ho : Op.lookupswitch.offset ps.toList dflt a = off) (ht : (pc : Int) + off = (t : Int)) (k : RK M d kc ks t ls st g Q) (ha : r32 a := by first | assumption | omega) : RK M d kc ks pc ls (pI a :: st) g Q :=
  RK.of (fun hF _ k => lv_lookup hF.1 hF.2.1 hd hp (by rw [r32_i ha]; exact ho) ht k) k
end KPMB

section KPMH
variable {M : PMt} {d kc ks pc : Nat} {ls st : List PV} {Q : Option PV → PH → Prop} {S : List (Nat × Nat)} {F : Nat → Nat → Option Nat} {h : Nat → Int → Int}
theorem K_geti {a idx ci k n : Nat} {z : Int} (hd : decode M.2.1 pc = .ok (.getfield idx, 3)) (hf : pm_fl M.1.cls idx ci k) (hk : pm_cok ci) (hn : pm_nu ci k = true) (hl : ci < 50) (hz : (k : Int) = z) (kk : r32 (h a z) → RK M d kc ks (pc + 3) ls (pI (h a z) :: st) (S, F, h) Q) (hc : S[a]? = some (ci, n) := by first | assumption | rfl) : RK M d kc ks pc ls (pR a :: st) (S, F, h) Q := by
  intro E p l e R s m args below meth c H locs cells slots Qf L hF h1 h2 h3 h4 hR hS hL hq hZ
  obtain ⟨q, q1, q2, q3⟩ := hf
  obtain ⟨k1, k2, k3, k4⟩ := hk q q1
  subst hz
  refine va_get (D := E.1) (ci := ci) (C := q.1) (T := q.2.1) (N := q.2.2) (v := .int (Int32.ofInt (h a k))) hF.1 hF.2.1 hF.2.2.2.2.2.2.1 k1 hF.2.2.2.2.2.1 hF.2.2.2.2.2.2.2.1 hR.1 a (fs := (List.range (pm_nf ci)).map (pm_fv E (S, F, h) a ci)) ?_ q1 k q2 (hF.2.2.2.2.2.2.1 _ q3) (fun _ x => x) ?_ hd (kk ((hR.2.2 a _ hc k).1 (by show ci ≠ 102; omega)) E p l e R s m args below meth c H locs cells slots Qf L hF h1 h2 h3 h4 hR hS hL hq hZ)
  · rw [pm_wl_at (g := (S, F, h)) hc]
    unfold pm_ce
    rw [if_pos hl]
  · rw [List.getElem?_map, List.getElem?_range (by rw [← k4]; exact q2)]
    show some (pm_fv E (S, F, h) a ci k) = _
    unfold pm_fv
    rw [if_pos hn]
theorem K_getr {a b idx ci k n : Nat} (hd : decode M.2.1 pc = .ok (.getfield idx, 3)) (hf : pm_fl M.1.cls idx ci k) (hk : pm_cok ci) (hn : pm_nu ci k = false) (hl : ci < 50) (kk : RK M d kc ks (pc + 3) ls (pR b :: st) (S, F, h) Q) (hc : S[a]? = some (ci, n) := by first | assumption | rfl) (hr : F a k = some b := by first | assumption | rfl) : RK M d kc ks pc ls (pR a :: st) (S, F, h) Q := by
  intro E p l e R s m args below meth c H locs cells slots Qf L hF h1 h2 h3 h4 hR hS hL hq hZ
  obtain ⟨q, q1, q2, q3⟩ := hf
  obtain ⟨k1, k2, k3, k4⟩ := hk q q1
  refine va_get (D := E.1) (ci := ci) (C := q.1) (T := q.2.1) (N := q.2.2) (v := .ref (E.2.2.1 b)) hF.1 hF.2.1 hF.2.2.2.2.2.2.1 k1 hF.2.2.2.2.2.1 hF.2.2.2.2.2.2.2.1 hR.1 a (fs := (List.range (pm_nf ci)).map (pm_fv E (S, F, h) a ci)) ?_ q1 k q2 (hF.2.2.2.2.2.2.1 _ q3) (fun _ x => x) ?_ hd (kk E p l e R s m args below meth c H locs cells slots Qf L hF h1 h2 h3 h4 hR hS hL hq hZ)
  · rw [pm_wl_at (g := (S, F, h)) hc]
    unfold pm_ce
    rw [if_pos hl]
  · rw [List.getElem?_map, List.getElem?_range (by rw [← k4]; exact q2)]
    show some (pm_fv E (S, F, h) a ci k) = _
    unfold pm_fv
    rw [if_neg (by rw [hn]; decide)]
    show some (va_rf ((F a k).map E.2.2.1)) = _
    rw [hr]
    rfl
theorem K_puti {a idx ci k n : Nat} {z zk : Int} (hd : decode M.2.1 pc = .ok (.putfield idx, 3)) (hf : pm_fl M.1.cls idx ci k) (hk : pm_cok ci) (hl : ci < 50) (hfin : ∀ q : vw_C, pm_cl[ci]? = some q → (q.2.1 k).2.2.2 = false) (hz : (k : Int) = zk) (kk : RK M d kc ks (pc + 3) ls st (S, F, rup h a (fup (h a) zk z)) Q)
    (hty : pm_ty ci k = .int ∨ (pm_ty ci k = .boolean ∧ (z = 0 ∨ z = 1)) := by first | exact Or.inl rfl | exact Or.inr ⟨rfl, Or.inl rfl⟩ | exact Or.inr ⟨rfl, Or.inr rfl⟩ | exact Or.inr ⟨rfl, by omega⟩) (hr : r32 z := by first | assumption | omega) (hc : S[a]? = some (ci, n) := by first | assumption | rfl) : RK M d kc ks pc ls (pI z :: pR a :: st) (S, F, h) Q := by
  intro E p l e R s m args below meth c H locs cells slots Qf L hF h1 h2 h3 h4 hR hS hL hq hZ
  obtain ⟨q, q1, q2, q3⟩ := hf
  obtain ⟨k1, k2, k3, k4⟩ := hk q q1
  subst hz
  have hnar : narrow (pm_ty ci k) (.int (Int32.ofInt z)) = .int (Int32.ofInt z) ∧ fits (pm_ty ci k) (.int (Int32.ofInt z)) = true ∧ pm_nu ci k = true := by
    rcases hty with e | ⟨e, hb⟩
    · refine ⟨by rw [e]; rfl, by rw [e]; rfl, ?_⟩
      unfold pm_nu; rw [e]
    · refine ⟨by rw [e]; exact (pm_narb hb).1, by rw [e]; exact (pm_narb hb).2, ?_⟩
      unfold pm_nu; rw [e]
  refine va_put (D := E.1) (ci := ci) (C := q.1) (T := q.2.1) (N := q.2.2) (v := .int (Int32.ofInt z)) (ty := pm_ty ci k) hF.1 hF.2.1 hF.2.2.2.2.2.2.1 k1 (pm_ty ci) k2 k3 hF.2.2.2.2.2.1 hF.2.2.2.2.2.2.2.1 hR.1 hR.2.1 hS a (fs := (List.range (pm_nf ci)).map (pm_fv E (S, F, h) a ci)) ?_ q1 k q2 (hF.2.2.2.2.2.2.1 _ q3) (fun _ x => x) (hfin q q1) (k2 k q2) hnar.1 hnar.2.1 (by rw [List.length_map, List.length_range, ← k4]; exact q2) hd (fun H1 locs1 hP1 hD1 hS1 => ?_)
  · rw [pm_wl_at (g := (S, F, h)) hc]
    unfold pm_ce
    rw [if_pos hl]
  · refine kk E p l e R s m args below meth c H1 locs1 cells slots Qf L hF h1 h2 h3 h4 (pm_put hc ?_ (fun i => ?_) hR.2.2 hP1 hD1) hS1 hL hq hZ
    · unfold pm_ce
      rw [if_pos hl]
      have e : ((List.range (pm_nf ci)).map (pm_fv E (S, F, h) a ci)).set k (.int (Int32.ofInt z)) = (List.range (pm_nf ci)).map (pm_fv E (S, F, rup h a (fup (h a) k z)) a ci) := by
        have e1 : Value.int (Int32.ofInt z) = pm_fv E (S, F, rup h a (fup (h a) k z)) a ci k := by
          unfold pm_fv
          rw [if_pos hnar.2.2]
          show _ = Value.int (Int32.ofInt (rup h a (fup (h a) k z) a k))
          rw [rup_s, fup_s]
        rw [e1]
        refine pm_set (F := pm_fv E (S, F, h) a ci) (fun j _ hj => ?_)
        unfold pm_fv
        show (if pm_nu ci j then Value.int (Int32.ofInt (rup h a (fup (h a) k z) a j)) else va_rf ((F a j).map E.2.2.1)) = (if pm_nu ci j then Value.int (Int32.ofInt (h a j)) else va_rf ((F a j).map E.2.2.1))
        rw [rup_s, fup_n (by omega)]
      rw [e]
    · by_cases hi : i = k
      · subst hi
        rw [fup_s]
        exact ⟨fun _ => hr, by omega⟩
      · rw [fup_n hi]
        exact hR.2.2 a _ hc i
theorem K_iast {a n : Nat} {i z : Int} (hd : decode M.2.1 pc = .ok (.iastore, 1)) (kk : RK M d kc ks (pc + 1) ls st (S, F, rup h a (fup (h a) i z)) Q) (hc : S[a]? = some (100, n) := by first | assumption | rfl) (hi : 0 ≤ i ∧ i < n := by omega) (hr : r32 i := by omega) (hz : r32 z := by first | assumption | omega) : RK M d kc ks pc ls (pI z :: pI i :: pR a :: st) (S, F, h) Q := by
  intro E p l e R s m args below meth c H locs cells slots Qf L hF h1 h2 h3 h4 hR hS hL hq hZ
  obtain ⟨e1, e2⟩ := pm_inb hi hr
  refine va_iast (D := E.1) hF.1 hF.2.1 hF.2.2.2.2.2.2.2.1 hR.1 hR.2.1 hS a 0 (n := n) (f := fun j => Int32.ofInt (h a j)) (pm_wl_at (g := (S, F, h)) hc) rfl e1 hd (fun H1 locs1 hP1 hD1 hS1 => ?_)
  rw [e2, pm_upd hi.1] at hP1 hD1
  refine kk E p l e R s m args below meth c H1 locs1 cells slots Qf L hF h1 h2 h3 h4 (pm_put hc ?_ (fun j => ?_) hR.2.2 hP1 hD1) hS1 hL hq hZ
  · show Sum.inl (E.2.1 0, n, Sum.inl (fun j : Nat => Int32.ofInt (rup h a (fup (h a) i z) a j))) = _
    rw [rup_s]
    rfl
  · by_cases hj : j = i
    · subst hj
      rw [fup_s]
      exact ⟨fun _ => hz, by omega⟩
    · rw [fup_n hj]
      exact hR.2.2 a _ hc j
end KPMH

section KRET
variable {M : PMt} {d kc ks pc : Nat} {ls st : List PV} {g : PH} {Q : Option PV → PH → Prop}
theorem K_return (hd : decode M.2.1 pc = .ok (.return_, 1)) (ho : pm_ok M.2.2.2 none) (hQ : Q none g) : RK M d kc ks pc ls [] g Q :=
  fun E p l e R s m args below meth c H locs cells slots Qf L hF h1 h2 h3 h4 hR hS hL hq hZ => W.widen (Nat.le_add_right _ _) (Nat.le_add_right _ _) (hq.1 E none g H locs pc L pm_ext.rf (Nat.le_refl _) hQ ho hR hS hd)
theorem K_stop (hQ : Q (some (pR 5023)) g) : RK M d kc ks 23 lawLs [] g Q :=
  fun E p l e R s m args below meth c H locs cells slots Qf L hF h1 h2 h3 h4 hR hS hL hq hZ => W.widen (Nat.le_add_right _ _) (Nat.le_add_right _ _) (hq.2 E g H locs L pm_ext.rf hQ hR hS hL)
end KRET
