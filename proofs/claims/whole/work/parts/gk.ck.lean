/-! the constructors that make rows only -/
def cl_X2 : List (Nat × Nat) := [(100, 12), (100, 12)]
def wf_X2 (a : Nat) (F : Nat → Nat → Option Nat) : Nat → Nat → Option Nat := (fset (fset F a 1 (a + 1)) a 2 (a + 2))
theorem CK_X2 : CK mX2_init 1 2 24 2 cl_X2 2 wf_X2 hEq := by
  intro S F h a h0 hn hc
  show RK mX2_init 1 2 24 0 [pR a] [] (S, F, h) _
  refine K_aload_n dX2_init_0 rfl (K_obj dX2_init_1 oi_X2 oi_in oi_co (by decide) (by decide) ?_)
  refine K_ai (N := 12) (n := a + 1) (len := 2) (kc := 1) (ks := 12) dX2_init_4 (fun kk => K_bipush dX2_init_5 rfl kk) dX2_init_7 dX2_init_9 flX2_9 fpX2_1 nr0 (by omega) (by omega) (by decide) h0 hc (fun k2 c2 => ?_)
  refine K_ai (N := 12) (n := a + 2) (len := 2) (kc := 0) (ks := 0) dX2_init_12 (fun kk => K_bipush dX2_init_13 rfl kk) dX2_init_15 dX2_init_17 flX2_15 fpX2_2 nr0 (by omega) (by omega) (by decide) k2 c2 (fun k3 c3 => ?_)
  exact K_return dX2_init_20 trivial ⟨rfl, _, rfl, k3, rfl⟩
def cl_X3 : List (Nat × Nat) := [(102, 12)]
def wf_X3 (a : Nat) (F : Nat → Nat → Option Nat) : Nat → Nat → Option Nat := (fset F a 0 (a + 1))
theorem CK_X3 : CK mX3_init 1 1 12 3 cl_X3 1 wf_X3 hEq := by
  intro S F h a h0 hn hc
  show RK mX3_init 1 1 12 0 [pR a] [] (S, F, h) _
  refine K_aload_n dX3_init_0 rfl (K_obj dX3_init_1 oi_X3 oi_in oi_co (by decide) (by decide) ?_)
  refine K_al (N := 12) (n := a + 1) (len := 2) (kc := 0) (ks := 0) dX3_init_4 (fun kk => K_bipush dX3_init_5 rfl kk) dX3_init_7 dX3_init_9 flX3_9 fpX3_0 nr0 (by omega) (by omega) (by decide) h0 hc (fun k2 c2 => ?_)
  exact K_return dX3_init_12 trivial ⟨rfl, _, rfl, k2, rfl⟩
def cl_X7 : List (Nat × Nat) := [(100, 80)]
def wf_X7 (a : Nat) (F : Nat → Nat → Option Nat) : Nat → Nat → Option Nat := (fset F a 0 (a + 1))
theorem CK_X7 : CK mX7_init 1 1 80 7 cl_X7 1 wf_X7 hEq := by
  intro S F h a h0 hn hc
  show RK mX7_init 1 1 80 0 [pR a] [] (S, F, h) _
  refine K_aload_n dX7_init_0 rfl (K_obj dX7_init_1 oi_X7 oi_in oi_co (by decide) (by decide) ?_)
  refine K_ai (N := 80) (n := a + 1) (len := 2) (kc := 0) (ks := 0) dX7_init_4 (fun kk => K_bipush dX7_init_5 rfl kk) dX7_init_7 dX7_init_9 flX7_9 fpX7_0 nr0 (by omega) (by omega) (by decide) h0 hc (fun k2 c2 => ?_)
  exact K_return dX7_init_12 trivial ⟨rfl, _, rfl, k2, rfl⟩
def cl_X8 : List (Nat × Nat) := [(100, 7), (100, 448)]
def wf_X8 (a : Nat) (F : Nat → Nat → Option Nat) : Nat → Nat → Option Nat := (fset (fset F a 0 (a + 1)) a 2 (a + 2))
theorem CK_X8 : CK mX8_init 1 2 455 8 cl_X8 2 wf_X8 hEq := by
  intro S F h a h0 hn hc
  show RK mX8_init 1 2 455 0 [pR a] [] (S, F, h) _
  refine K_aload_n dX8_init_0 rfl (K_obj dX8_init_1 oi_X8 oi_in oi_co (by decide) (by decide) ?_)
  refine K_ai (N := 7) (n := a + 1) (len := 2) (kc := 1) (ks := 448) dX8_init_4 (fun kk => K_bipush dX8_init_5 rfl kk) dX8_init_7 dX8_init_9 flX8_11 fpX8_0 nr0 (by omega) (by omega) (by decide) h0 hc (fun k2 c2 => ?_)
  refine K_ai (N := 448) (n := a + 2) (len := 3) (kc := 0) (ks := 0) dX8_init_12 (fun kk => K_sipush dX8_init_13 rfl kk) dX8_init_16 dX8_init_18 flX8_15 fpX8_2 nr0 (by omega) (by omega) (by decide) k2 c2 (fun k3 c3 => ?_)
  exact K_return dX8_init_21 trivial ⟨rfl, _, rfl, k3, rfl⟩
def cl_X9 : List (Nat × Nat) := [(100, 6), (100, 6), (100, 6), (100, 12)]
def wf_X9 (a : Nat) (F : Nat → Nat → Option Nat) : Nat → Nat → Option Nat := (fset (fset (fset (fset F a 4 (a + 1)) a 5 (a + 2)) a 6 (a + 3)) a 7 (a + 4))
theorem CK_X9 : CK mX9_init 1 4 30 9 cl_X9 4 wf_X9 hEq := by
  intro S F h a h0 hn hc
  show RK mX9_init 1 4 30 0 [pR a] [] (S, F, h) _
  refine K_aload_n dX9_init_0 rfl (K_obj dX9_init_1 oi_X9 oi_in oi_co (by decide) (by decide) ?_)
  refine K_ai (N := 6) (n := a + 1) (len := 2) (kc := 3) (ks := 24) dX9_init_4 (fun kk => K_bipush dX9_init_5 rfl kk) dX9_init_7 dX9_init_9 flX9_9 fpX9_4 nr0 (by omega) (by omega) (by decide) h0 hc (fun k2 c2 => ?_)
  refine K_ai (N := 6) (n := a + 2) (len := 2) (kc := 2) (ks := 18) dX9_init_12 (fun kk => K_bipush dX9_init_13 rfl kk) dX9_init_15 dX9_init_17 flX9_15 fpX9_5 nr0 (by omega) (by omega) (by decide) k2 c2 (fun k3 c3 => ?_)
  refine K_ai (N := 6) (n := a + 3) (len := 2) (kc := 1) (ks := 12) dX9_init_20 (fun kk => K_bipush dX9_init_21 rfl kk) dX9_init_23 dX9_init_25 flX9_18 fpX9_6 nr0 (by omega) (by omega) (by decide) k3 c3 (fun k4 c4 => ?_)
  refine K_ai (N := 12) (n := a + 4) (len := 2) (kc := 0) (ks := 0) dX9_init_28 (fun kk => K_bipush dX9_init_29 rfl kk) dX9_init_31 dX9_init_33 flX9_21 fpX9_7 nr0 (by omega) (by omega) (by decide) k4 c4 (fun k5 c5 => ?_)
  exact K_return dX9_init_36 trivial ⟨rfl, _, rfl, k5, rfl⟩
def cl_X10 : List (Nat × Nat) := [(100, 12), (100, 12), (100, 18), (100, 3), (100, 6), (100, 3), (100, 6)]
def wf_X10 (a : Nat) (F : Nat → Nat → Option Nat) : Nat → Nat → Option Nat := (fset (fset (fset (fset (fset (fset (fset F a 0 (a + 1)) a 1 (a + 2)) a 2 (a + 3)) a 3 (a + 4)) a 4 (a + 5)) a 5 (a + 6)) a 6 (a + 7))
theorem CK_X10 : CK mX10_init 1 7 60 10 cl_X10 7 wf_X10 hEq := by
  intro S F h a h0 hn hc
  show RK mX10_init 1 7 60 0 [pR a] [] (S, F, h) _
  refine K_aload_n dX10_init_0 rfl (K_obj dX10_init_1 oi_X10 oi_in oi_co (by decide) (by decide) ?_)
  refine K_ai (N := 12) (n := a + 1) (len := 2) (kc := 6) (ks := 48) dX10_init_4 (fun kk => K_bipush dX10_init_5 rfl kk) dX10_init_7 dX10_init_9 flX10_9 fpX10_0 nr0 (by omega) (by omega) (by decide) h0 hc (fun k2 c2 => ?_)
  refine K_ai (N := 12) (n := a + 2) (len := 2) (kc := 5) (ks := 36) dX10_init_12 (fun kk => K_bipush dX10_init_13 rfl kk) dX10_init_15 dX10_init_17 flX10_15 fpX10_1 nr0 (by omega) (by omega) (by decide) k2 c2 (fun k3 c3 => ?_)
  refine K_ai (N := 18) (n := a + 3) (len := 2) (kc := 4) (ks := 18) dX10_init_20 (fun kk => K_bipush dX10_init_21 rfl kk) dX10_init_23 dX10_init_25 flX10_18 fpX10_2 nr0 (by omega) (by omega) (by decide) k3 c3 (fun k4 c4 => ?_)
  refine K_ai (N := 3) (n := a + 4) (len := 1) (kc := 3) (ks := 15) dX10_init_28 (fun kk => K_iconst dX10_init_29 kk) dX10_init_30 dX10_init_32 flX10_21 fpX10_3 nr0 (by omega) (by omega) (by decide) k4 c4 (fun k5 c5 => ?_)
  refine K_ai (N := 6) (n := a + 5) (len := 2) (kc := 2) (ks := 9) dX10_init_35 (fun kk => K_bipush dX10_init_36 rfl kk) dX10_init_38 dX10_init_40 flX10_24 fpX10_4 nr0 (by omega) (by omega) (by decide) k5 c5 (fun k6 c6 => ?_)
  refine K_ai (N := 3) (n := a + 6) (len := 1) (kc := 1) (ks := 6) dX10_init_43 (fun kk => K_iconst dX10_init_44 kk) dX10_init_45 dX10_init_47 flX10_27 fpX10_5 nr0 (by omega) (by omega) (by decide) k6 c6 (fun k7 c7 => ?_)
  refine K_ai (N := 6) (n := a + 7) (len := 2) (kc := 0) (ks := 0) dX10_init_50 (fun kk => K_bipush dX10_init_51 rfl kk) dX10_init_53 dX10_init_55 flX10_30 fpX10_6 nr0 (by omega) (by omega) (by decide) k7 c7 (fun k8 c8 => ?_)
  exact K_return dX10_init_58 trivial ⟨rfl, _, rfl, k8, rfl⟩
def cl_X5 : List (Nat × Nat) := (10, 0) :: cl_X10
def wf_X5 (a : Nat) (F : Nat → Nat → Option Nat) : Nat → Nat → Option Nat := fset (wf_X10 (a + 1) F) a 0 (a + 1)
theorem CK_X5 : CK mX5_init 2 8 67 5 cl_X5 8 wf_X5 hEq := by
  intro S F h a h0 hn hc
  show RK mX5_init 2 8 67 0 [pR a] [] (S, F, h) _
  refine K_aload_n dX5_init_0 rfl (K_obj dX5_init_1 oi_X5 oi_in oi_co (by decide) (by decide) ?_)
  refine K_mk (n := a + 1) (kc := 0) (ks := 0) CK_X10 dX5_init_4 dX5_init_5 dX5_init_8 dX5_init_9 dX5_init_12 nwX5_9 miX10 (Or.inr (by decide)) (by decide) flX5_12 fpX5_0 nr0 (by omega) (by omega) h0 hc (fun h2 k2 c2 p2 => ?_)
  subst p2
  exact K_return dX5_init_15 trivial ⟨rfl, _, rfl, k2, rfl⟩
