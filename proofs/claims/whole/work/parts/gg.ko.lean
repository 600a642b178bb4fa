/-! the constructors' rows: Object's constructor, references into fields -/
def fset (F : Nat → Nat → Option Nat) (a k b : Nat) : Nat → Nat → Option Nat := fun a' k' => if a' = a ∧ k' = k then some b else F a' k'
section KOB
variable {M : PMt} {d kc ks pc : Nat} {ls st : List PV} {Q : Option PV → PH → Prop} {g : PH} {S : List (Nat × Nat)} {F : Nat → Nat → Option Nat} {h : Nat → Int → Int}
theorem K_obj {idx a : Nat} (hd : decode M.2.1 pc = .ok (.invokespecial idx, 3)) (hlk : Cond.methodLink M.1.cls idx Lib.objectInit ∈ tblG) (hin : Cond.instanceMethod Lib.objectInit ∈ tblG) (hco : Cond.code Lib.objectInit ⟨#[0xb1]⟩ 1 none ∈ tblG) (hd1 : 1 ≤ d) (hcat : pm_cat st ≤ 8) (kk : RK M d kc ks (pc + 3) ls st g Q) : RK M d kc ks pc ls (pR a :: st) g Q := by
  intro E p l e R s m args below meth c H locs cells slots Qf L hF h1 h2 h3 h4 hR hS hL hq hZ
  refine W.objInit hF.1 hF.2.1 hF.2.2.2.2.2.1 (hF.2.2.2.2.2.2.1 _ hlk) (hF.2.2.2.2.2.2.1 _ hin) (hF.2.2.2.2.2.2.1 _ hco) (g := F0 m pc L ((pR a :: st).map (tv E))) rfl (hL.1.trans hF.2.2.1.symm) (a := E.2.2.1 a) (rest := st.map (tv E)) rfl hd (by omega) ?_ (kk E p l e R s m args below meth c H locs cells slots Qf L hF h1 h2 h3 h4 hR hS hL hq hZ)
  have q : 2 * (F0 m pc L ((pR a :: st).map (tv E))).monitorRoom + ((st.map (tv E)).map fun v => v.category).sum ≤ 8 := lv_room (by rw [pm_cat_eq]; exact hcat)
  omega
end KOB
