section PMR
variable {M : PMt} {d kc ks pc : Nat} {ls st : List PV} {g : PH} {Q : Option PV → PH → Prop}
theorem RR.of {pc2 : Nat} {st2 : List PV} (hh : ∀ {E : PE} {p : Program} {l : Launch} {e : Env} {R : Room} {s : State} {m : MethodId} {args : Array Value} {below : List Frame} {meth : Method} {c : Code} {H : Heap} {locs : List Loc} {cells slots : Nat} {Qf : State → Prop} {L : Array Slot}, pm_Fr E M p s m args meth c → lv_has L M.2.2.1 (pm_asc E ls) → W p l e R s m args below meth c H locs cells slots Qf (F0 m pc2 L (st2.map (tv E))) → W p l e R s m args below meth c H locs cells slots Qf (F0 m pc L (st.map (tv E)))) (k : RR M d kc ks pc2 ls st2 g Q) : RR M d kc ks pc ls st g Q :=
  fun E p l e R s m args below meth c H locs cells slots Qf L hF h1 h2 h3 h4 hR hS hL hq => hh hF hL (k E p l e R s m args below meth c H locs cells slots Qf L hF h1 h2 h3 h4 hR hS hL hq)
theorem RR.of2 {pc2 pc3 : Nat} {st2 st3 : List PV} {P P2 : Prop} (hh : ∀ {E : PE} {p : Program} {l : Launch} {e : Env} {R : Room} {s : State} {m : MethodId} {args : Array Value} {below : List Frame} {meth : Method} {c : Code} {H : Heap} {locs : List Loc} {cells slots : Nat} {Qf : State → Prop} {L : Array Slot}, pm_Fr E M p s m args meth c → (P → W p l e R s m args below meth c H locs cells slots Qf (F0 m pc2 L (st2.map (tv E)))) → (P2 → W p l e R s m args below meth c H locs cells slots Qf (F0 m pc3 L (st3.map (tv E)))) → W p l e R s m args below meth c H locs cells slots Qf (F0 m pc L (st.map (tv E)))) (k : P → RR M d kc ks pc2 ls st2 g Q) (k2 : P2 → RR M d kc ks pc3 ls st3 g Q) : RR M d kc ks pc ls st g Q :=
  fun E p l e R s m args below meth c H locs cells slots Qf L hF h1 h2 h3 h4 hR hS hL hq => hh hF (fun x => k x E p l e R s m args below meth c H locs cells slots Qf L hF h1 h2 h3 h4 hR hS hL hq) (fun x => k2 x E p l e R s m args below meth c H locs cells slots Qf L hF h1 h2 h3 h4 hR hS hL hq)
theorem RR.mono {d' : Nat} (h : RR M d kc ks pc ls st g Q) (hd : d ≤ d') : RR M d' kc ks pc ls st g Q :=
  fun E p l e R s m args below meth c H locs cells slots Qf L hF h1 h2 h3 h4 hR hS hL hq => h E p l e R s m args below meth c H locs cells slots Qf L hF (by omega) (by omega) h3 h4 hR hS hL hq
theorem RR.post {Q2 : Option PV → PH → Prop} (h : RR M d kc ks pc ls st g Q) (hQ : ∀ r g', Q r g' → Q2 r g') : RR M d kc ks pc ls st g Q2 :=
  fun E p l e R s m args below meth c H locs cells slots Qf L hF h1 h2 h3 h4 hR hS hL hq => h E p l e R s m args below meth c H locs cells slots Qf L hF h1 h2 h3 h4 hR hS hL (fun r g' H' locs' pc' L' q => hq r g' H' locs' pc' L' (hQ r g' q))
/-! numbers -/
theorem i_lt {a b : Int} (ha : r32 a) (hb : r32 b) : Int32.ofInt a < Int32.ofInt b ↔ a < b := by rw [Int32.lt_iff_toInt_lt, r32_i ha, r32_i hb]
theorem i_le {a b : Int} (ha : r32 a) (hb : r32 b) : Int32.ofInt a ≤ Int32.ofInt b ↔ a ≤ b := by rw [Int32.le_iff_toInt_le, r32_i ha, r32_i hb]
theorem i_eq {a b : Int} (ha : r32 a) (hb : r32 b) : Int32.ofInt a = Int32.ofInt b ↔ a = b := by rw [← Int32.toInt_inj, r32_i ha, r32_i hb]
theorem i_0 : (0 : Int32) = Int32.ofInt 0 := rfl
def iAnd (a b : Int) : Int := (Int32.ofInt a &&& Int32.ofInt b).toInt
def iOr (a b : Int) : Int := (Int32.ofInt a ||| Int32.ofInt b).toInt
def iXor (a b : Int) : Int := (Int32.ofInt a ^^^ Int32.ofInt b).toInt
def iShl (a b : Int) : Int := (Int32.ofInt a <<< (Int32.ofInt b &&& 31)).toInt
def iShr (a b : Int) : Int := (Int32.ofInt a >>> (Int32.ofInt b &&& 31)).toInt
def iUshr (a b : Int) : Int := ((Int32.ofInt a).toUInt32 >>> ((Int32.ofInt b).toUInt32 &&& Int32.toUInt32 31)).toInt32.toInt
def iDiv (a b : Int) : Int := (Int32.ofInt a / Int32.ofInt b).toInt
def iRem (a b : Int) : Int := (Int32.ofInt a - Int32.ofInt a / Int32.ofInt b * Int32.ofInt b).toInt
def lDiv (a b : Int) : Int := (Int64.ofInt a / Int64.ofInt b).toInt
def lRem (a b : Int) : Int := (Int64.ofInt a - Int64.ofInt a / Int64.ofInt b * Int64.ofInt b).toInt
def lShl (a b : Int) : Int := (Int64.ofInt a <<< ((Int32.ofInt b).toInt64 &&& 63)).toInt
def iB (a : Int) : Int := ((Int32.ofInt a).toInt8.toInt32).toInt
def iS (a : Int) : Int := ((Int32.ofInt a).toInt16.toInt32).toInt
/-! constants and places -/
theorem R_iconst {z : Int} (hd : decode M.2.1 pc = .ok (.iconst z, 1)) (k : RR M d kc ks (pc + 1) ls (pI z :: st) g Q) : RR M d kc ks pc ls st g Q :=
  RR.of (fun hF _ k => lv_iconst hF.1 hF.2.1 hd rfl k) k
theorem R_bipush {z : Int} (hd : decode M.2.1 pc = .ok (.bipush z, 2)) (hz : (Int8.ofInt z).toInt32 = Int32.ofInt z) (k : RR M d kc ks (pc + 2) ls (pI z :: st) g Q) : RR M d kc ks pc ls st g Q :=
  RR.of (fun hF _ k => lv_bipush hF.1 hF.2.1 hd hz k) k
theorem R_sipush {z : Int} (hd : decode M.2.1 pc = .ok (.sipush z, 3)) (hz : (Int16.ofInt z).toInt32 = Int32.ofInt z) (k : RR M d kc ks (pc + 3) ls (pI z :: st) g Q) : RR M d kc ks pc ls st g Q :=
  RR.of (fun hF _ k => lv_sipush hF.1 hF.2.1 hd hz k) k
theorem R_lconst {n : Fin 2} {z : Int} (hd : decode M.2.1 pc = .ok (.lconst n, 1)) (hz : Int64.ofNat (n : Nat) = Int64.ofInt z) (k : RR M d kc ks (pc + 1) ls (pL z :: st) g Q) : RR M d kc ks pc ls st g Q :=
  RR.of (fun hF _ k => lv_lconst hF.1 hF.2.1 hd hz k) k
theorem R_ldc {z : Int} {i : Nat} (hd : decode M.2.1 pc = .ok (.ldc i, 2)) (hw : Cond.constant M.1.cls i (Int32.ofInt z) ∈ tblG) (k : RR M d kc ks (pc + 2) ls (pI z :: st) g Q) : RR M d kc ks pc ls st g Q :=
  RR.of (fun hF _ k => lv_ldc hF.1 hF.2.1 hF.2.2.2.2.2.1 (hF.2.2.2.2.2.2.1 _ hw) hd k) k
theorem R_ldcw {z : Int} {i : Nat} (hd : decode M.2.1 pc = .ok (.ldc_w i, 3)) (hw : Cond.constant M.1.cls i (Int32.ofInt z) ∈ tblG) (k : RR M d kc ks (pc + 3) ls (pI z :: st) g Q) : RR M d kc ks pc ls st g Q :=
  RR.of (fun hF _ k => lv_ldcw hF.1 hF.2.1 hF.2.2.2.2.2.1 (hF.2.2.2.2.2.2.1 _ hw) hd k) k
theorem R_ldc2 {z : Int} {i : Nat} (hd : decode M.2.1 pc = .ok (.ldc2_w i, 3)) (hw : Cond.constantLong M.1.cls i (Int64.ofInt z) ∈ tblG) (k : RR M d kc ks (pc + 3) ls (pL z :: st) g Q) : RR M d kc ks pc ls st g Q :=
  RR.of (fun hF _ k => lv_ldc2 hF.1 hF.2.1 hF.2.2.2.2.2.1 (hF.2.2.2.2.2.2.1 _ hw) hd k) k
theorem R_iload_n {n : Fin 4} {z : Int} (hd : decode M.2.1 pc = .ok (.iload_n n, 1)) (hl : ls[(n : Nat)]? = some (pI z)) (k : RR M d kc ks (pc + 1) ls (pI z :: st) g Q) : RR M d kc ks pc ls st g Q :=
  RR.of (fun hF hL k => lv_iload_n hF.1 hF.2.1 hd rfl (pm_at hL hl (fun e => by cases e)) k) k
theorem R_iload {i : Nat} {z : Int} (hd : decode M.2.1 pc = .ok (.iload i, 2)) (hl : ls[i]? = some (pI z)) (k : RR M d kc ks (pc + 2) ls (pI z :: st) g Q) : RR M d kc ks pc ls st g Q :=
  RR.of (fun hF hL k => lv_iload hF.1 hF.2.1 hd (pm_at hL hl (fun e => by cases e)) k) k
theorem R_lload_n {n : Fin 4} {z : Int} (hd : decode M.2.1 pc = .ok (.lload_n n, 1)) (hl : ls[(n : Nat)]? = some (pL z)) (k : RR M d kc ks (pc + 1) ls (pL z :: st) g Q) : RR M d kc ks pc ls st g Q :=
  RR.of (fun hF hL k => lv_lload_n hF.1 hF.2.1 hd rfl (pm_at hL hl (fun e => by cases e)) k) k
theorem R_lload {i : Nat} {z : Int} (hd : decode M.2.1 pc = .ok (.lload i, 2)) (hl : ls[i]? = some (pL z)) (k : RR M d kc ks (pc + 2) ls (pL z :: st) g Q) : RR M d kc ks pc ls st g Q :=
  RR.of (fun hF hL k => lv_lload hF.1 hF.2.1 hd (pm_at hL hl (fun e => by cases e)) k) k
theorem R_aload_n {n : Fin 4} {a : Nat} (hd : decode M.2.1 pc = .ok (.aload_n n, 1)) (hl : ls[(n : Nat)]? = some (pR a)) (k : RR M d kc ks (pc + 1) ls (pR a :: st) g Q) : RR M d kc ks pc ls st g Q :=
  RR.of (fun hF hL k => lv_aload_n hF.1 hF.2.1 hd rfl (pm_at hL hl (fun e => by cases e)) k) k
theorem R_aload {i : Nat} {a : Nat} (hd : decode M.2.1 pc = .ok (.aload i, 2)) (hl : ls[i]? = some (pR a)) (k : RR M d kc ks (pc + 2) ls (pR a :: st) g Q) : RR M d kc ks pc ls st g Q :=
  RR.of (fun hF hL k => lv_aload hF.1 hF.2.1 hd (pm_at hL hl (fun e => by cases e)) k) k
def pm_kil (ls : List PV) (i : Nat) : List PV := match i with
  | 0 => ls
  | i + 1 => match ls[i]? with
    | some (.inr (.inl _)) => ls.set i pU
    | _ => ls
def pm_s1 (ls : List PV) (i : Nat) (v : PV) : List PV := (pm_kil ls i).set i v
def pm_s2 (ls : List PV) (i : Nat) (v : PV) : List PV := ((pm_kil ls i).set i v).set (i + 1) pU
theorem pm_kil_at {ls : List PV} {i j : Nat} {v : PV} (h : (pm_kil ls i)[j]? = some v) (hu : v ≠ pU) : ls[j]? = some v ∧ ¬ (j + 1 = i ∧ ∃ z, v = pL z) := by
  unfold pm_kil at h
  split at h
  · exact ⟨h, fun e => by omega⟩
  · rename_i i
    split at h
    · rename_i z hz
      rw [List.getElem?_set] at h
      split at h
      · split at h
        · cases h; exact absurd rfl hu
        · cases h
      · rename_i hne
        exact ⟨h, fun e => hne (by omega)⟩
    · rename_i hz
      refine ⟨h, fun e => ?_⟩
      obtain ⟨e1, z, e2⟩ := e
      have : j = i := by omega
      subst this
      subst e2
      exact hz z h
theorem pm_s1_has {E : PE} {L : Array Slot} {n i : Nat} {v : PV} (h : lv_has L n ((i, tv E v) :: (pm_asc E ls).filter (fun q => !(q.1 == i) && !(q.1 + 1 == i && q.2.category == 2)))) : lv_has L n (pm_asc E (pm_s1 ls i v)) := by
  refine ⟨h.1, h.2.1, fun q hq => ?_⟩
  obtain ⟨j, x⟩ := q
  obtain ⟨w, hw, hu, rfl⟩ := pm_asc_mem.mp hq
  unfold pm_s1 at hw
  rw [List.getElem?_set] at hw
  split at hw
  · rename_i hij
    subst hij
    split at hw
    · cases hw
      exact h.2.2 (i, tv E v) List.mem_cons_self
    · cases hw
  · rename_i hij
    obtain ⟨h1, h2⟩ := pm_kil_at hw hu
    refine h.2.2 (j, tv E w) (List.mem_cons_of_mem _ (List.mem_filter.mpr ⟨pm_asc_mem.mpr ⟨w, h1, hu, rfl⟩, ?_⟩))
    simp only [Bool.and_eq_true, Bool.not_eq_true', beq_eq_false_iff_ne, ne_eq]
    refine ⟨fun e => hij e.symm, ?_⟩
    rw [Bool.and_eq_false_iff]
    by_cases hj : j + 1 = i
    · right
      match w, h2 with
      | .inl z, _ => rfl
      | .inr (.inl z), h2 => exact absurd ⟨hj, z, rfl⟩ h2
      | .inr (.inr (some a)), _ => rfl
      | .inr (.inr none), _ => rfl
    · left
      simpa using hj
theorem pm_s2_has {E : PE} {L : Array Slot} {n i : Nat} {v : PV} (h : lv_has L n ((i, tv E v) :: (pm_asc E ls).filter (fun q => !(q.1 == i) && (!(q.1 == i + 1) && !(q.1 + 1 == i && q.2.category == 2))))) : lv_has L n (pm_asc E (pm_s2 ls i v)) := by
  refine ⟨h.1, h.2.1, fun q hq => ?_⟩
  obtain ⟨j, x⟩ := q
  obtain ⟨w, hw, hu, rfl⟩ := pm_asc_mem.mp hq
  unfold pm_s2 at hw
  rw [List.getElem?_set] at hw
  split at hw
  · split at hw
    · cases hw; exact absurd rfl hu
    · cases hw
  · rename_i hj1
    rw [List.getElem?_set] at hw
    split at hw
    · rename_i hij
      subst hij
      split at hw
      · cases hw
        exact h.2.2 (i, tv E v) List.mem_cons_self
      · cases hw
    · rename_i hij
      obtain ⟨h1, h2⟩ := pm_kil_at hw hu
      refine h.2.2 (j, tv E w) (List.mem_cons_of_mem _ (List.mem_filter.mpr ⟨pm_asc_mem.mpr ⟨w, h1, hu, rfl⟩, ?_⟩))
      simp only [Bool.and_eq_true, Bool.not_eq_true', beq_eq_false_iff_ne, ne_eq]
      refine ⟨fun e => hij e.symm, fun e => hj1 e.symm, ?_⟩
      rw [Bool.and_eq_false_iff]
      by_cases hj : j + 1 = i
      · right
        match w, h2 with
        | .inl z, _ => rfl
        | .inr (.inl z), h2 => exact absurd ⟨hj, z, rfl⟩ h2
        | .inr (.inr (some a)), _ => rfl
        | .inr (.inr none), _ => rfl
      · left
        simpa using hj
theorem R_istore_n {n : Fin 4} {z : Int} (hd : decode M.2.1 pc = .ok (.istore_n n, 1)) (hn : (n : Nat) < M.2.2.1) (k : RR M d kc ks (pc + 1) (pm_s1 ls n (pI z)) st g Q) : RR M d kc ks pc ls (pI z :: st) g Q :=
  fun E p l e R s m args below meth c H locs cells slots Qf L hF h1 h2 h3 h4 hR hS hL hq => lv_istore_n hF.1 hF.2.1 hd rfl hL hn rfl (fun L' hL' => k E p l e R s m args below meth c H locs cells slots Qf L' hF h1 h2 h3 h4 hR hS (pm_s1_has (v := pI z) hL') hq)
theorem R_istore {i : Nat} {z : Int} (hd : decode M.2.1 pc = .ok (.istore i, 2)) (hn : i < M.2.2.1) (k : RR M d kc ks (pc + 2) (pm_s1 ls i (pI z)) st g Q) : RR M d kc ks pc ls (pI z :: st) g Q :=
  fun E p l e R s m args below meth c H locs cells slots Qf L hF h1 h2 h3 h4 hR hS hL hq => lv_istore hF.1 hF.2.1 hd hL hn rfl (fun L' hL' => k E p l e R s m args below meth c H locs cells slots Qf L' hF h1 h2 h3 h4 hR hS (pm_s1_has (v := pI z) hL') hq)
theorem R_astore_n {n : Fin 4} {a : Nat} (hd : decode M.2.1 pc = .ok (.astore_n n, 1)) (hn : (n : Nat) < M.2.2.1) (k : RR M d kc ks (pc + 1) (pm_s1 ls n (pR a)) st g Q) : RR M d kc ks pc ls (pR a :: st) g Q :=
  fun E p l e R s m args below meth c H locs cells slots Qf L hF h1 h2 h3 h4 hR hS hL hq => lv_astore_n hF.1 hF.2.1 hd rfl hL hn rfl (fun L' hL' => k E p l e R s m args below meth c H locs cells slots Qf L' hF h1 h2 h3 h4 hR hS (pm_s1_has (v := pR a) hL') hq)
theorem R_astore {i : Nat} {a : Nat} (hd : decode M.2.1 pc = .ok (.astore i, 2)) (hn : i < M.2.2.1) (k : RR M d kc ks (pc + 2) (pm_s1 ls i (pR a)) st g Q) : RR M d kc ks pc ls (pR a :: st) g Q :=
  fun E p l e R s m args below meth c H locs cells slots Qf L hF h1 h2 h3 h4 hR hS hL hq => lv_astore hF.1 hF.2.1 hd hL hn rfl (fun L' hL' => k E p l e R s m args below meth c H locs cells slots Qf L' hF h1 h2 h3 h4 hR hS (pm_s1_has (v := pR a) hL') hq)
theorem R_lstore_n {n : Fin 4} {z : Int} (hd : decode M.2.1 pc = .ok (.lstore_n n, 1)) (hn : (n : Nat) + 1 < M.2.2.1) (k : RR M d kc ks (pc + 1) (pm_s2 ls n (pL z)) st g Q) : RR M d kc ks pc ls (pL z :: st) g Q :=
  fun E p l e R s m args below meth c H locs cells slots Qf L hF h1 h2 h3 h4 hR hS hL hq => lv_lstore_n hF.1 hF.2.1 hd rfl hL hn rfl (fun L' hL' => k E p l e R s m args below meth c H locs cells slots Qf L' hF h1 h2 h3 h4 hR hS (pm_s2_has (v := pL z) hL') hq)
theorem R_lstore {i : Nat} {z : Int} (hd : decode M.2.1 pc = .ok (.lstore i, 2)) (hn : i + 1 < M.2.2.1) (k : RR M d kc ks (pc + 2) (pm_s2 ls i (pL z)) st g Q) : RR M d kc ks pc ls (pL z :: st) g Q :=
  fun E p l e R s m args below meth c H locs cells slots Qf L hF h1 h2 h3 h4 hR hS hL hq => lv_lstore hF.1 hF.2.1 hd hL hn rfl (fun L' hL' => k E p l e R s m args below meth c H locs cells slots Qf L' hF h1 h2 h3 h4 hR hS (pm_s2_has (v := pL z) hL') hq)
theorem R_iinc {i : Nat} {z w : Int} (hd : decode M.2.1 pc = .ok (.iinc i w, 3)) (hl : ls[i]? = some (pI z)) (hn : i < M.2.2.1) (k : RR M d kc ks (pc + 3) (pm_s1 ls i (pI (z + w))) st g Q) : RR M d kc ks pc ls st g Q := by
  intro E p l e R s m args below meth c H locs cells slots Qf L hF h1 h2 h3 h4 hR hS hL hq
  obtain ⟨j, hj⟩ := List.getElem?_of_mem (pm_asc_mem (E := E).mpr ⟨pI z, hl, (fun e => by cases e), rfl⟩)
  exact lv_iinc (v := Int32.ofInt (z + w)) hF.1 hF.2.1 hd hL hj (Int32.ofInt_add z w).symm hn rfl (fun L' hL' => k E p l e R s m args below meth c H locs cells slots Qf L' hF h1 h2 h3 h4 hR hS (pm_s1_has (v := pI (z + w)) hL') hq)
/-! arithmetic -/
theorem R_iadd {a b : Int} (hd : decode M.2.1 pc = .ok (.iadd, 1)) (k : RR M d kc ks (pc + 1) ls (pI (a + b) :: st) g Q) : RR M d kc ks pc ls (pI b :: pI a :: st) g Q :=
  RR.of (fun hF _ k => lv_iadd hF.1 hF.2.1 hd (by rw [← Int32.ofInt_add]; exact k)) k
theorem R_isub {a b : Int} (hd : decode M.2.1 pc = .ok (.isub, 1)) (k : RR M d kc ks (pc + 1) ls (pI (a - b) :: st) g Q) : RR M d kc ks pc ls (pI b :: pI a :: st) g Q :=
  RR.of (fun hF _ k => lv_isub hF.1 hF.2.1 hd (by rw [← Int32.ofInt_sub]; exact k)) k
theorem R_imul {a b : Int} (hd : decode M.2.1 pc = .ok (.imul, 1)) (k : RR M d kc ks (pc + 1) ls (pI (a * b) :: st) g Q) : RR M d kc ks pc ls (pI b :: pI a :: st) g Q :=
  RR.of (fun hF _ k => lv_imul hF.1 hF.2.1 hd (by rw [← Int32.ofInt_mul]; exact k)) k
theorem R_ineg {a : Int} (hd : decode M.2.1 pc = .ok (.ineg, 1)) (k : RR M d kc ks (pc + 1) ls (pI (-a) :: st) g Q) : RR M d kc ks pc ls (pI a :: st) g Q :=
  RR.of (fun hF _ k => lv_ineg hF.1 hF.2.1 hd (by have e := Int32.ofInt_neg a; first | (rw [← e]; exact k) | (simpa [e, tv] using k))) k
theorem R_iand {a b : Int} (hd : decode M.2.1 pc = .ok (.iand, 1)) (k : RR M d kc ks (pc + 1) ls (pI (iAnd a b) :: st) g Q) : RR M d kc ks pc ls (pI b :: pI a :: st) g Q :=
  RR.of (fun hF _ k => lv_iand hF.1 hF.2.1 hd (by simpa [tv, iAnd, Int32.ofInt_toInt] using k)) k
theorem R_ior {a b : Int} (hd : decode M.2.1 pc = .ok (.ior, 1)) (k : RR M d kc ks (pc + 1) ls (pI (iOr a b) :: st) g Q) : RR M d kc ks pc ls (pI b :: pI a :: st) g Q :=
  RR.of (fun hF _ k => lv_ior hF.1 hF.2.1 hd (by simpa [tv, iOr, Int32.ofInt_toInt] using k)) k
theorem R_ixor {a b : Int} (hd : decode M.2.1 pc = .ok (.ixor, 1)) (k : RR M d kc ks (pc + 1) ls (pI (iXor a b) :: st) g Q) : RR M d kc ks pc ls (pI b :: pI a :: st) g Q :=
  RR.of (fun hF _ k => lv_ixor hF.1 hF.2.1 hd (by simpa [tv, iXor, Int32.ofInt_toInt] using k)) k
theorem R_ishl {a b : Int} (hd : decode M.2.1 pc = .ok (.ishl, 1)) (k : RR M d kc ks (pc + 1) ls (pI (iShl a b) :: st) g Q) : RR M d kc ks pc ls (pI b :: pI a :: st) g Q :=
  RR.of (fun hF _ k => lv_ishl hF.1 hF.2.1 hd (by simpa only [List.map, tv, iShl, Int32.ofInt_toInt] using k)) k
theorem R_ishr {a b : Int} (hd : decode M.2.1 pc = .ok (.ishr, 1)) (k : RR M d kc ks (pc + 1) ls (pI (iShr a b) :: st) g Q) : RR M d kc ks pc ls (pI b :: pI a :: st) g Q :=
  RR.of (fun hF _ k => lv_ishr hF.1 hF.2.1 hd (by simpa only [List.map, tv, iShr, Int32.ofInt_toInt] using k)) k
theorem R_iushr {a b : Int} (hd : decode M.2.1 pc = .ok (.iushr, 1)) (k : RR M d kc ks (pc + 1) ls (pI (iUshr a b) :: st) g Q) : RR M d kc ks pc ls (pI b :: pI a :: st) g Q :=
  RR.of (fun hF _ k => lv_iushr hF.1 hF.2.1 hd rfl (by simpa only [List.map, tv, iUshr, Int32.ofInt_toInt] using k)) k
theorem R_idiv {a b : Int} (hd : decode M.2.1 pc = .ok (.idiv, 1)) (hb : r32 b) (h0 : b ≠ 0) (k : RR M d kc ks (pc + 1) ls (pI (iDiv a b) :: st) g Q) : RR M d kc ks pc ls (pI b :: pI a :: st) g Q :=
  RR.of (fun hF _ k => lv_idiv hF.1 hF.2.1 hd (fun e => h0 ((i_eq hb (by decide)).mp (e.trans i_0))) (by simpa only [List.map, tv, iDiv, Int32.ofInt_toInt] using k)) k
theorem R_irem {a b : Int} (hd : decode M.2.1 pc = .ok (.irem, 1)) (hb : r32 b) (h0 : b ≠ 0) (k : RR M d kc ks (pc + 1) ls (pI (iRem a b) :: st) g Q) : RR M d kc ks pc ls (pI b :: pI a :: st) g Q :=
  RR.of (fun hF _ k => lv_irem hF.1 hF.2.1 hd (fun e => h0 ((i_eq hb (by decide)).mp (e.trans i_0))) (by simpa only [List.map, tv, iRem, Int32.ofInt_toInt] using k)) k
theorem R_i2b {a : Int} (hd : decode M.2.1 pc = .ok (.i2b, 1)) (k : RR M d kc ks (pc + 1) ls (pI (iB a) :: st) g Q) : RR M d kc ks pc ls (pI a :: st) g Q :=
  RR.of (fun hF _ k => lv_i2b hF.1 hF.2.1 hd rfl (by simpa only [List.map, tv, iB, Int32.ofInt_toInt] using k)) k
theorem R_i2s {a : Int} (hd : decode M.2.1 pc = .ok (.i2s, 1)) (k : RR M d kc ks (pc + 1) ls (pI (iS a) :: st) g Q) : RR M d kc ks pc ls (pI a :: st) g Q :=
  RR.of (fun hF _ k => lv_i2s hF.1 hF.2.1 hd rfl (by simpa only [List.map, tv, iS, Int32.ofInt_toInt] using k)) k
theorem i2l_of {a : Int} (h : r32 a) : (Int32.ofInt a).toInt64 = Int64.ofInt a := by
  apply Int64.toInt_inj.mp
  rw [Int32.toInt_toInt64, r32_i h, r64_i ⟨by have := h.1; omega, by have := h.2; omega⟩]
theorem R_i2l {a : Int} (hd : decode M.2.1 pc = .ok (.i2l, 1)) (ha : r32 a) (k : RR M d kc ks (pc + 1) ls (pL a :: st) g Q) : RR M d kc ks pc ls (pI a :: st) g Q :=
  RR.of (fun hF _ k => lv_i2l hF.1 hF.2.1 hd (i2l_of ha) k) k
theorem R_ladd {a b : Int} (hd : decode M.2.1 pc = .ok (.ladd, 1)) (k : RR M d kc ks (pc + 1) ls (pL (a + b) :: st) g Q) : RR M d kc ks pc ls (pL b :: pL a :: st) g Q :=
  RR.of (fun hF _ k => lv_ladd hF.1 hF.2.1 hd (by rw [← Int64.ofInt_add]; exact k)) k
theorem R_lmul {a b : Int} (hd : decode M.2.1 pc = .ok (.lmul, 1)) (k : RR M d kc ks (pc + 1) ls (pL (a * b) :: st) g Q) : RR M d kc ks pc ls (pL b :: pL a :: st) g Q :=
  RR.of (fun hF _ k => lv_lmul hF.1 hF.2.1 hd (by rw [← Int64.ofInt_mul]; exact k)) k
theorem l_eq {a b : Int} (ha : r64 a) (hb : r64 b) : Int64.ofInt a = Int64.ofInt b ↔ a = b := by rw [← Int64.toInt_inj, r64_i ha, r64_i hb]
theorem l_lt {a b : Int} (ha : r64 a) (hb : r64 b) : Int64.ofInt a < Int64.ofInt b ↔ a < b := by rw [Int64.lt_iff_toInt_lt, r64_i ha, r64_i hb]
theorem R_ldiv {a b : Int} (hd : decode M.2.1 pc = .ok (.ldiv, 1)) (hb : r64 b) (h0 : b ≠ 0) (k : RR M d kc ks (pc + 1) ls (pL (lDiv a b) :: st) g Q) : RR M d kc ks pc ls (pL b :: pL a :: st) g Q :=
  RR.of (fun hF _ k => lv_ldiv hF.1 hF.2.1 hd (fun e => h0 ((l_eq hb (by decide)).mp (e.trans (show (0 : Int64) = Int64.ofInt 0 from rfl)))) (by simpa only [List.map, tv, lDiv, Int64.ofInt_toInt] using k)) k
theorem R_lrem {a b : Int} (hd : decode M.2.1 pc = .ok (.lrem, 1)) (hb : r64 b) (h0 : b ≠ 0) (k : RR M d kc ks (pc + 1) ls (pL (lRem a b) :: st) g Q) : RR M d kc ks pc ls (pL b :: pL a :: st) g Q :=
  RR.of (fun hF _ k => lv_lrem hF.1 hF.2.1 hd (fun e => h0 ((l_eq hb (by decide)).mp (e.trans (show (0 : Int64) = Int64.ofInt 0 from rfl)))) (by simpa only [List.map, tv, lRem, Int64.ofInt_toInt] using k)) k
theorem R_lshl {a b : Int} (hd : decode M.2.1 pc = .ok (.lshl, 1)) (k : RR M d kc ks (pc + 1) ls (pL (lShl a b) :: st) g Q) : RR M d kc ks pc ls (pI b :: pL a :: st) g Q :=
  RR.of (fun hF _ k => lv_lshl hF.1 hF.2.1 hd rfl (by simpa only [List.map, tv, lShl, Int64.ofInt_toInt] using k)) k
theorem R_lcmp {a b : Int} (hd : decode M.2.1 pc = .ok (.lcmp, 1)) (ha : r64 a) (hb : r64 b) (k : RR M d kc ks (pc + 1) ls (pI (if a < b then -1 else if a = b then 0 else 1) :: st) g Q) : RR M d kc ks pc ls (pL b :: pL a :: st) g Q :=
  RR.of (fun hF _ k => W.lcmp hF.1 hF.2.1 hd (by
    have e : lg_cmp (Int64.ofInt a) (Int64.ofInt b) = Int32.ofInt (if a < b then -1 else if a = b then 0 else 1) := by
      unfold lg_cmp
      simp only [l_lt ha hb, l_eq ha hb, l_lt hb ha, GT.gt, beq_iff_eq]
      by_cases h1 : a < b
      · simp [h1, show ¬ b < a by omega, show ¬ a = b by omega]; try rfl
      · by_cases h2 : a = b
        · simp [h2]; try rfl
        · simp [h1, h2, show b < a by omega]; try rfl
    rw [e]; exact k)) k
theorem R_dup {v : PV} (hd : decode M.2.1 pc = .ok (.dup, 1)) (hv : ∀ E, (tv E v).category = 1) (k : RR M d kc ks (pc + 1) ls (v :: v :: st) g Q) : RR M d kc ks pc ls (v :: st) g Q :=
  RR.of (fun hF _ k => lv_dup hF.1 hF.2.1 hd (hv _) k) k
theorem R_dup2 {v w : PV} (hd : decode M.2.1 pc = .ok (.dup2, 1)) (hv : ∀ E, (tv E v).category = 1) (hw : ∀ E, (tv E w).category = 1) (k : RR M d kc ks (pc + 1) ls (v :: w :: v :: w :: st) g Q) : RR M d kc ks pc ls (v :: w :: st) g Q :=
  RR.of (fun hF _ k => lv_dup2_11 hF.1 hF.2.1 hd (hv _) (hw _) k) k
theorem R_pop {v : PV} (hd : decode M.2.1 pc = .ok (.pop, 1)) (hv : ∀ E, (tv E v).category = 1) (k : RR M d kc ks (pc + 1) ls st g Q) : RR M d kc ks pc ls (v :: st) g Q :=
  RR.of (fun hF _ k => lv_pop hF.1 hF.2.1 hd (hv _) k) k
theorem R_goto {off : Int} {t : Nat} (hd : decode M.2.1 pc = .ok (.goto off, 3)) (ht : (pc : Int) + off = (t : Int)) (k : RR M d kc ks t ls st g Q) : RR M d kc ks pc ls st g Q :=
  RR.of (fun hF _ k => lv_goto hF.1 hF.2.1 hd ht k) k
end PMR
