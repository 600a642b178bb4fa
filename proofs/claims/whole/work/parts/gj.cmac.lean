/-! the constructors: what they make -/
def apps (S cells : List (Nat × Nat)) : List (Nat × Nat) := cells.foldl (fun S x => S ++ [x]) S
def hk (n : Nat) (S : List (Nat × Nat)) (F : Nat → Nat → Option Nat) (h : Nat → Int → Int) : Prop := S.length = n ∧ hpOK S F h
def pm_nr (rest : List PV) : Prop := ∀ v ∈ rest, ∀ n, pm_lt n v
theorem nr0 : pm_nr [] := fun v hv => absurd hv List.not_mem_nil
theorem nrU : pm_nr [pU] := fun v hv n => by
  obtain rfl : v = pU := List.mem_singleton.mp hv
  trivial
theorem nrI {z : Int} : pm_nr [pI z] := fun v hv n => by
  obtain rfl : v = pI z := List.mem_singleton.mp hv
  trivial
theorem pl0 {n : Nat} : ∀ v ∈ ([] : List PV), pm_lt n v := fun v hv => absurd hv List.not_mem_nil
theorem plc {n : Nat} {v : PV} {vs : List PV} (h : pm_lt n v) (hs : ∀ w ∈ vs, pm_lt n w) : ∀ w ∈ v :: vs, pm_lt n w := List.forall_mem_cons.mpr ⟨h, hs⟩
theorem plr {n a : Nat} {vs : List PV} (h : a < n) (hs : ∀ w ∈ vs, pm_lt n w) : ∀ w ∈ pR a :: vs, pm_lt n w := plc (Or.inl h) hs
theorem pli {n : Nat} {z : Int} {vs : List PV} (hs : ∀ w ∈ vs, pm_lt n w) : ∀ w ∈ pI z :: vs, pm_lt n w := plc trivial hs
theorem plu {n : Nat} {vs : List PV} (hs : ∀ w ∈ vs, pm_lt n w) : ∀ w ∈ pU :: vs, pm_lt n w := plc trivial hs
section KHK
variable {S cells : List (Nat × Nat)} {F : Nat → Nat → Option Nat} {h : Nat → Int → Int} {n a b k : Nat} {q x : Nat × Nat}
theorem hk.app (h0 : hk n S F h) (hn : n < 899) : hk (n + 1) (S ++ [x]) F h := by
  obtain ⟨rfl, o1, o2, o3, o4⟩ := h0
  have e : (S ++ [x]).length = S.length + 1 := by rw [List.length_append, List.length_singleton]
  refine ⟨e, by rw [e]; omega, fun a k b ha hF => ?_, fun a ha k => o3 a (by omega) k, fun a ha i => o4 a (by omega) i⟩
  rw [e] at ha ⊢
  by_cases q : a < S.length
  · have := o2 a k b q hF; omega
  · rw [o3 a (by omega) k] at hF; cases hF
theorem hk.fs (h0 : hk n S F h) (ha : a < n) (hb : b < n) : hk n S (fset F a k b) h := by
  obtain ⟨rfl, o1, o2, o3, o4⟩ := h0
  refine ⟨rfl, o1, fun a2 k2 b2 q hF => ?_, fun a2 q k2 => ?_, o4⟩
  · unfold fset at hF
    split at hF
    · cases hF; exact hb
    · exact o2 a2 k2 b2 q hF
  · unfold fset
    rw [if_neg (by omega)]
    exact o3 a2 q k2
theorem hk.ru {f : Int → Int} (h0 : hk n S F h) (ha : a < n) : hk n S F (rup h a f) := by
  obtain ⟨rfl, o1, o2, o3, o4⟩ := h0
  exact ⟨rfl, o1, o2, o3, fun a2 q i => by rw [rup_n (by omega)]; exact o4 a2 q i⟩
theorem at_app (hc : S[a]? = some q) : (S ++ [x])[a]? = some q := by
  rw [List.getElem?_append_left (List.getElem?_eq_some_iff.mp hc).1]
  exact hc
theorem at_apps : ∀ {cells S : List (Nat × Nat)}, S[a]? = some q → (apps S cells)[a]? = some q := by
  intro cells
  induction cells with
  | nil => intro S hc; exact hc
  | cons y cells ih => intro S hc; exact ih (at_app hc)
theorem at_new (h0 : S.length = n) : (S ++ [x])[n]? = some x := by
  subst h0
  exact List.getElem?_concat_length
end KHK
/-- a constructor's contract: the cells that it makes behind its own, the references, the numbers -/
def CK (M : PMt) (d kc ks ci : Nat) (cells : List (Nat × Nat)) (nc : Nat) (wF : Nat → (Nat → Nat → Option Nat) → Nat → Nat → Option Nat) (P : Nat → (Nat → Int → Int) → (Nat → Int → Int) → Prop) : Prop :=
  ∀ (S : List (Nat × Nat)) (F : Nat → Nat → Option Nat) (h : Nat → Int → Int) (a : Nat), hk (a + 1) S F h → a + 1 + nc < 899 → S[a]? = some (ci, 0) → RK M d kc ks 0 (pm_ent [pR a] M.2.2.1) [] (S, F, h) (fun r g' => r = none ∧ ∃ h', g' = (apps S cells, wF a F, h') ∧ hk (a + 1 + nc) (apps S cells) (wF a F) h' ∧ P a h h')
abbrev hEq : Nat → (Nat → Int → Int) → (Nat → Int → Int) → Prop := fun _ h h' => h' = h
section KMC
variable {M : PMt} {d kc ks pc : Nat} {Q : Option PV → PH → Prop} {S : List (Nat × Nat)} {F : Nat → Nat → Option Nat} {h : Nat → Int → Int} {N n a k ci idx len : Nat} {rest : List PV}
theorem K_ai (d0 : decode M.2.1 pc = .ok (.aload_n 0, 1)) (hp : ∀ {kc ks : Nat} {g : PH} {Q : Option PV → PH → Prop}, RK M d kc ks (pc + 1 + len) (pR a :: rest) [pI (N : Int), pR a] g Q → RK M d kc ks (pc + 1) (pR a :: rest) [pR a] g Q) (d2 : decode M.2.1 (pc + 1 + len) = .ok (.newarray .int, 2)) (d3 : decode M.2.1 (pc + 1 + len + 2) = .ok (.putfield idx, 3)) (hf : pm_fl M.1.cls idx ci k) (hfp : pm_fp M ci k) (hr : pm_nr rest) (ha : a < n) (hn : n < 899) (hN : N < 1000) (h0 : hk n S F h) (hc : S[a]? = some (ci, 0))
    (kk : hk (n + 1) (S ++ [(100, N)]) (fset F a k n) h → (S ++ [(100, N)])[a]? = some (ci, 0) → RK M d kc ks (pc + 1 + len + 2 + 3) (pR a :: rest) [] (S ++ [(100, N)], fset F a k n, h) Q) : RK M d (1 + kc) (N + ks) pc (pR a :: rest) [] (S, F, h) Q := by
  have h1 : hk (n + 1) (S ++ [(100, N)]) (fset F a k n) h := (h0.app hn).fs (by omega) (by omega)
  have hc1 : (S ++ [(100, N)])[a]? = some (ci, 0) := at_app hc
  have kk := kk h1 hc1
  obtain ⟨rfl, ho⟩ := h0
  exact K_aload_n d0 rfl (hp (K_newi rfl hN d2 ac_i ho (plr ha (fun v hv => hr v hv _)) (plr ha pl0) (K_putrF d3 hf hfp.1 hfp.2.1 hfp.2.2.1 hfp.2.2.2.1 hfp.2.2.2.2.1 hfp.2.2.2.2.2 kk hc1)))
theorem K_az (d0 : decode M.2.1 pc = .ok (.aload_n 0, 1)) (hp : ∀ {kc ks : Nat} {g : PH} {Q : Option PV → PH → Prop}, RK M d kc ks (pc + 1 + len) (pR a :: rest) [pI (N : Int), pR a] g Q → RK M d kc ks (pc + 1) (pR a :: rest) [pR a] g Q) (d2 : decode M.2.1 (pc + 1 + len) = .ok (.newarray .boolean, 2)) (d3 : decode M.2.1 (pc + 1 + len + 2) = .ok (.putfield idx, 3)) (hf : pm_fl M.1.cls idx ci k) (hfp : pm_fp M ci k) (hr : pm_nr rest) (ha : a < n) (hn : n < 899) (hN : N < 1000) (h0 : hk n S F h) (hc : S[a]? = some (ci, 0))
    (kk : hk (n + 1) (S ++ [(101, N)]) (fset F a k n) h → (S ++ [(101, N)])[a]? = some (ci, 0) → RK M d kc ks (pc + 1 + len + 2 + 3) (pR a :: rest) [] (S ++ [(101, N)], fset F a k n, h) Q) : RK M d (1 + kc) (N + ks) pc (pR a :: rest) [] (S, F, h) Q := by
  have h1 : hk (n + 1) (S ++ [(101, N)]) (fset F a k n) h := (h0.app hn).fs (by omega) (by omega)
  have hc1 : (S ++ [(101, N)])[a]? = some (ci, 0) := at_app hc
  have kk := kk h1 hc1
  obtain ⟨rfl, ho⟩ := h0
  exact K_aload_n d0 rfl (hp (K_newz rfl hN d2 ac_z ho (plr ha (fun v hv => hr v hv _)) (plr ha pl0) (K_putrF d3 hf hfp.1 hfp.2.1 hfp.2.2.1 hfp.2.2.2.1 hfp.2.2.2.2.1 hfp.2.2.2.2.2 kk hc1)))
theorem K_al (d0 : decode M.2.1 pc = .ok (.aload_n 0, 1)) (hp : ∀ {kc ks : Nat} {g : PH} {Q : Option PV → PH → Prop}, RK M d kc ks (pc + 1 + len) (pR a :: rest) [pI (N : Int), pR a] g Q → RK M d kc ks (pc + 1) (pR a :: rest) [pR a] g Q) (d2 : decode M.2.1 (pc + 1 + len) = .ok (.newarray .long, 2)) (d3 : decode M.2.1 (pc + 1 + len + 2) = .ok (.putfield idx, 3)) (hf : pm_fl M.1.cls idx ci k) (hfp : pm_fp M ci k) (hr : pm_nr rest) (ha : a < n) (hn : n < 899) (hN : N < 1000) (h0 : hk n S F h) (hc : S[a]? = some (ci, 0))
    (kk : hk (n + 1) (S ++ [(102, N)]) (fset F a k n) h → (S ++ [(102, N)])[a]? = some (ci, 0) → RK M d kc ks (pc + 1 + len + 2 + 3) (pR a :: rest) [] (S ++ [(102, N)], fset F a k n, h) Q) : RK M d (1 + kc) (N + ks) pc (pR a :: rest) [] (S, F, h) Q := by
  have h1 : hk (n + 1) (S ++ [(102, N)]) (fset F a k n) h := (h0.app hn).fs (by omega) (by omega)
  have hc1 : (S ++ [(102, N)])[a]? = some (ci, 0) := at_app hc
  have kk := kk h1 hc1
  obtain ⟨rfl, ho⟩ := h0
  exact K_aload_n d0 rfl (hp (K_newl rfl hN d2 ac_l ho (plr ha (fun v hv => hr v hv _)) (plr ha pl0) (K_putrF d3 hf hfp.1 hfp.2.1 hfp.2.2.1 hfp.2.2.2.1 hfp.2.2.2.2.1 hfp.2.2.2.2.2 kk hc1)))
theorem K_at {idn : Nat} (d0 : decode M.2.1 pc = .ok (.aload_n 0, 1)) (hp : ∀ {kc ks : Nat} {g : PH} {Q : Option PV → PH → Prop}, RK M d kc ks (pc + 1 + len) (pR a :: rest) [pI (N : Int), pR a] g Q → RK M d kc ks (pc + 1) (pR a :: rest) [pR a] g Q) (d2 : decode M.2.1 (pc + 1 + len) = .ok (.anewarray idn, 3)) (d3 : decode M.2.1 (pc + 1 + len + 3) = .ok (.putfield idx, 3)) (hcl : Cond.classLink M.1.cls idn "CoachesVote$Train" ∈ tblG) (hf : pm_fl M.1.cls idx ci k) (hfp : pm_fp M ci k) (hr : pm_nr rest) (ha : a < n) (hn : n < 899) (hN : N < 1000) (h0 : hk n S F h) (hc : S[a]? = some (ci, 0))
    (kk : hk (n + 1) (S ++ [(103, N)]) (fset F a k n) h → (S ++ [(103, N)])[a]? = some (ci, 0) → RK M d kc ks (pc + 1 + len + 3 + 3) (pR a :: rest) [] (S ++ [(103, N)], fset F a k n, h) Q) : RK M d (1 + kc) (N + ks) pc (pR a :: rest) [] (S, F, h) Q := by
  have h1 : hk (n + 1) (S ++ [(103, N)]) (fset F a k n) h := (h0.app hn).fs (by omega) (by omega)
  have hc1 : (S ++ [(103, N)])[a]? = some (ci, 0) := at_app hc
  have kk := kk h1 hc1
  obtain ⟨rfl, ho⟩ := h0
  exact K_aload_n d0 rfl (hp (K_newt rfl hN d2 hcl ho (plr ha (fun v hv => hr v hv _)) (plr ha pl0) (K_putrF d3 hf hfp.1 hfp.2.1 hfp.2.2.1 hfp.2.2.2.1 hfp.2.2.2.2.1 hfp.2.2.2.2.2 kk hc1)))
theorem K_mk {M2 : PMt} {d2 kc2 ks2 ci2 nc2 N2 idn idi : Nat} {cells2 : List (Nat × Nat)} {wF2 : Nat → (Nat → Nat → Option Nat) → Nat → Nat → Option Nat} {P2 : Nat → (Nat → Int → Int) → (Nat → Int → Int) → Prop} {C : String} {T : u_T} (hCK : CK M2 d2 kc2 ks2 ci2 cells2 nc2 wF2 P2) (d0 : decode M.2.1 pc = .ok (.aload_n 0, 1)) (d1 : decode M.2.1 (pc + 1) = .ok (.new idn, 3)) (d4 : decode M.2.1 (pc + 4) = .ok (.dup, 1)) (d5 : decode M.2.1 (pc + 5) = .ok (.invokespecial idi, 3)) (d8 : decode M.2.1 (pc + 8) = .ok (.putfield idx, 3)) (hw : pm_nw M idn ci2 C T N2) (hm : pm_mi M2) (hlk : Cond.methodLink M.1.cls idi M2.1 ∈ tblG ∨ (M.1.cls, idi, M2.1) ∈ kNq) (hdd : d2 + 1 ≤ d) (hf : pm_fl M.1.cls idx ci k) (hfp : pm_fp M ci k) (hr : pm_nr rest) (ha : a < n) (hn : n + 1 + nc2 < 899) (h0 : hk n S F h) (hc : S[a]? = some (ci, 0))
    (kk : ∀ h', hk (n + 1 + nc2) (apps (S ++ [(ci2, 0)]) cells2) (fset (wF2 n F) a k n) h' → (apps (S ++ [(ci2, 0)]) cells2)[a]? = some (ci, 0) → P2 n h h' → RK M d kc ks (pc + 11) (pR a :: rest) [] (apps (S ++ [(ci2, 0)]) cells2, fset (wF2 n F) a k n, h') Q) : RK M d (1 + (kc2 + kc)) (N2 + (ks2 + ks)) pc (pR a :: rest) [] (S, F, h) Q := by
  have h1 : hk (n + 1) (S ++ [(ci2, 0)]) F h := h0.app (by omega)
  have hc1 : (S ++ [(ci2, 0)])[a]? = some (ci, 0) := at_app hc
  have hcn : (S ++ [(ci2, 0)])[n]? = some (ci2, 0) := at_new h0.1
  have hl1 : (S ++ [(ci2, 0)]).length = n + 1 := h1.1
  obtain ⟨rfl, ho⟩ := h0
  refine K_aload_n d0 rfl ?_
  refine K_new C T N2 hw.1 d1 hw.2.1 hw.2.2.1 hw.2.2.2.1 hw.2.2.2.2.1 hw.2.2.2.2.2.1 (fun j hj => pdef (hw.2.2.2.2.2.2 j hj)) ho (plr ha (fun v hv => hr v hv _)) (plr ha pl0) ?_
  refine K_dup d4 (fun _ => rfl) ?_
  refine K_callI (g := (S ++ [(ci2, 0)], F, h)) d5 hm hlk (Nat.le_of_ble_eq_true rfl) hdd (plr (by show a < (S ++ [(ci2, 0)]).length; omega) (fun v hv => hr v hv _)) (plr (by show S.length < (S ++ [(ci2, 0)]).length; omega) (plr (by show a < (S ++ [(ci2, 0)]).length; omega) pl0)) (hCK _ F h S.length h1 hn hcn) (fun g' z => by cases z.1) (fun g' z => ?_)
  obtain ⟨-, h', rfl, hk', hP⟩ := z
  exact K_putrF d8 hf hfp.1 hfp.2.1 hfp.2.2.1 hfp.2.2.2.1 hfp.2.2.2.2.1 hfp.2.2.2.2.2 (kk h' (hk'.fs (by omega) (by omega)) (at_apps hc1) hP) (at_apps hc1)
end KMC
