/-! CoachesVote's constructor -/
def sS_11 (S : List (Nat × Nat)) : List (Nat × Nat) := (apps ((apps ((apps ((apps ((apps ((apps ((apps ((apps ((apps ((apps ((apps ((apps ((apps ((apps (S ++ [(7, 0)]) cl_X7) ++ [(0, 0)]) cl_X0) ++ [(0, 0)]) cl_X0) ++ [(2, 0)]) cl_X2) ++ [(9, 0)]) cl_X9) ++ [(9, 0)]) cl_X9) ++ [(9, 0)]) cl_X9) ++ [(4, 0)]) cl_X4) ++ [(4, 0)]) cl_X4) ++ [(5, 0)]) cl_X5) ++ [(1, 0)]) cl_X1) ++ [(6, 0)]) cl_X6) ++ [(8, 0)]) cl_X8) ++ [(3, 0)]) cl_X3)
def wf_11 (F : Nat → Nat → Option Nat) : Nat → Nat → Option Nat := (fset (wf_X3 145 (fset (wf_X8 142 (fset (wf_X6 138 (fset (wf_X1 44 (fset (wf_X5 35 (fset (wf_X4 32 (fset (wf_X4 29 (fset (wf_X9 24 (fset (wf_X9 19 (fset (wf_X9 14 (fset (wf_X2 11 (fset (wf_X0 7 (fset (wf_X0 3 (fset (wf_X7 1 F) 0 0 1)) 0 1 3)) 0 2 7)) 0 3 11)) 0 4 14)) 0 5 19)) 0 6 24)) 0 7 29)) 0 8 32)) 0 9 35)) 0 10 44)) 0 11 138)) 0 12 142)) 0 13 145)
def pr_11 (h h2 : Nat → Int → Int) : Prop := (∀ b, ¬ (b = 3 ∨ b = 4 ∨ b = 7 ∨ b = 8 ∨ b = 29 ∨ b = 30 ∨ b = 32 ∨ b = 33 ∨ b = 139) → h2 b = h b) ∧ h2 3 0 = 1 ∧ (∀ e : Int, 0 ≤ e → e < 18 → h2 4 e = -1 ∧ h2 8 e = -1) ∧ h2 29 2 = 1 ∧ h2 29 4 = h 29 4 ∧ h2 32 4 = h 32 4 ∧ h2 30 0 = 1000 ∧ ∀ e : Int, 0 ≤ e → e < 13 → h2 139 e = 511
theorem C_X11 {S : List (Nat × Nat)} {F : Nat → Nat → Option Nat} {h : Nat → Int → Int} (h0 : hk 1 S F h) (hc : S[0]? = some (11, 0)) : RK mX11_init 3 146 2037 0 (pm_ent [pR 0] 1) [] (S, F, h) (fun r g' => r = none ∧ ∃ h', g' = (sS_11 S, wf_11 F, h') ∧ hk 147 (sS_11 S) (wf_11 F) h' ∧ pr_11 h h') := by
  show RK mX11_init 3 146 2037 0 [pR 0] [] (S, F, h) _
  refine K_aload_n dX11_init_0 rfl (K_obj dX11_init_1 oi_X11 oi_in oi_co (by decide) (by decide) ?_)
  refine K_mk (n := 1) (kc := 144) (ks := 1954) CK_X7 dX11_init_4 dX11_init_5 dX11_init_8 dX11_init_9 dX11_init_12 nwX11_7 miX7 (Or.inr (by decide)) (by decide) flX11_10 fpX11_0 nr0 (by omega) (by decide) h0 hc (fun h2 k2 c2 p2 => ?_)
  subst p2
  refine K_mk (n := 3) (kc := 140) (ks := 1833) CK_X0 dX11_init_15 dX11_init_16 dX11_init_19 dX11_init_20 dX11_init_23 nwX11_16 miX0 (Or.inl mlX11_18) (by decide) flX11_19 fpX11_1 nr0 (by omega) (by decide) k2 c2 (fun h3 k3 c3 p3 => ?_)
  refine K_mk (n := 7) (kc := 136) (ks := 1712) CK_X0 dX11_init_26 dX11_init_27 dX11_init_30 dX11_init_31 dX11_init_34 nwX11_16 miX0 (Or.inl mlX11_18) (by decide) flX11_23 fpX11_2 nr0 (by omega) (by decide) k3 c3 (fun h4 k4 c4 p4 => ?_)
  refine K_mk (n := 11) (kc := 133) (ks := 1685) CK_X2 dX11_init_37 dX11_init_38 dX11_init_41 dX11_init_42 dX11_init_45 nwX11_26 miX2 (Or.inr (by decide)) (by decide) flX11_29 fpX11_3 nr0 (by omega) (by decide) k4 c4 (fun h5 k5 c5 p5 => ?_)
  subst p5
  refine K_mk (n := 14) (kc := 128) (ks := 1647) CK_X9 dX11_init_48 dX11_init_49 dX11_init_52 dX11_init_53 dX11_init_56 nwX11_33 miX9 (Or.inr (by decide)) (by decide) flX11_36 fpX11_4 nr0 (by omega) (by decide) k5 c5 (fun h6 k6 c6 p6 => ?_)
  subst p6
  refine K_mk (n := 19) (kc := 123) (ks := 1609) CK_X9 dX11_init_59 dX11_init_60 dX11_init_63 dX11_init_64 dX11_init_67 nwX11_33 miX9 (Or.inr (by decide)) (by decide) flX11_40 fpX11_5 nr0 (by omega) (by decide) k6 c6 (fun h7 k7 c7 p7 => ?_)
  subst p7
  refine K_mk (n := 24) (kc := 118) (ks := 1571) CK_X9 dX11_init_70 dX11_init_71 dX11_init_74 dX11_init_75 dX11_init_78 nwX11_33 miX9 (Or.inr (by decide)) (by decide) flX11_43 fpX11_6 nr0 (by omega) (by decide) k7 c7 (fun h8 k8 c8 p8 => ?_)
  subst p8
  refine K_mk (n := 29) (kc := 115) (ks := 1486) CK_X4 dX11_init_81 dX11_init_82 dX11_init_85 dX11_init_86 dX11_init_89 nwX11_46 miX4 (Or.inl mlX11_48) (by decide) flX11_49 fpX11_7 nr0 (by omega) (by decide) k8 c8 (fun h9 k9 c9 p9 => ?_)
  refine K_mk (n := 32) (kc := 112) (ks := 1401) CK_X4 dX11_init_92 dX11_init_93 dX11_init_96 dX11_init_97 dX11_init_100 nwX11_46 miX4 (Or.inl mlX11_48) (by decide) flX11_53 fpX11_8 nr0 (by omega) (by decide) k9 c9 (fun h10 k10 c10 p10 => ?_)
  refine K_mk (n := 35) (kc := 103) (ks := 1330) CK_X5 dX11_init_103 dX11_init_104 dX11_init_107 dX11_init_108 dX11_init_111 nwX11_56 miX5 (Or.inr (by decide)) (by decide) flX11_59 fpX11_9 nr0 (by omega) (by decide) k10 c10 (fun h11 k11 c11 p11 => ?_)
  subst p11
  refine K_mk (n := 44) (kc := 9) (ks := 620) CK_X1 dX11_init_114 dX11_init_115 dX11_init_118 dX11_init_119 dX11_init_122 nwX11_63 miX1 (Or.inl mlX11_65) (by decide) flX11_66 fpX11_10 nr0 (by omega) (by decide) k11 c11 (fun h12 k12 c12 p12 => ?_)
  subst p12
  refine K_mk (n := 138) (kc := 5) (ks := 472) CK_X6 dX11_init_125 dX11_init_126 dX11_init_129 dX11_init_130 dX11_init_133 nwX11_70 miX6 (Or.inl mlX11_72) (by decide) flX11_73 fpX11_11 nr0 (by omega) (by decide) k12 c12 (fun h13 k13 c13 p13 => ?_)
  refine K_mk (n := 142) (kc := 2) (ks := 14) CK_X8 dX11_init_136 dX11_init_137 dX11_init_140 dX11_init_141 dX11_init_144 nwX11_77 miX8 (Or.inr (by decide)) (by decide) flX11_80 fpX11_12 nr0 (by omega) (by decide) k13 c13 (fun h14 k14 c14 p14 => ?_)
  subst p14
  refine K_mk (n := 145) (kc := 0) (ks := 0) CK_X3 dX11_init_147 dX11_init_148 dX11_init_151 dX11_init_152 dX11_init_155 nwX11_84 miX3 (Or.inr (by decide)) (by decide) flX11_87 fpX11_13 nr0 (by omega) (by decide) k14 c14 (fun h15 k15 c15 p15 => ?_)
  subst p15
  refine K_return dX11_init_158 trivial ⟨rfl, _, rfl, k15, fun b hb => ?_, ?_, fun e e0 e1 => ⟨?_, ?_⟩, ?_, ?_, ?_, ?_, p13.1⟩
  · rw [p13.2 b (by omega), p10.2.2.2 b (by omega) (by omega), p9.2.2.2 b (by omega) (by omega), p4.2.2 b (by omega) (by omega), p3.2.2 b (by omega) (by omega)]
  · rw [p13.2 3 (by omega), p10.2.2.2 3 (by omega) (by omega), p9.2.2.2 3 (by omega) (by omega), p4.2.2 3 (by omega) (by omega)]; exact p3.1
  · rw [p13.2 4 (by omega), p10.2.2.2 4 (by omega) (by omega), p9.2.2.2 4 (by omega) (by omega), p4.2.2 4 (by omega) (by omega)]; exact p3.2.1 e e0 e1
  · rw [p13.2 8 (by omega), p10.2.2.2 8 (by omega) (by omega), p9.2.2.2 8 (by omega) (by omega)]; exact p4.2.1 e e0 e1
  · rw [p13.2 29 (by omega), p10.2.2.2 29 (by omega) (by omega)]; exact p9.1
  · rw [p13.2 29 (by omega), p10.2.2.2 29 (by omega) (by omega), p9.2.1, p4.2.2 29 (by omega) (by omega), p3.2.2 29 (by omega) (by omega)]
  · rw [p13.2 32 (by omega), p10.2.1, p9.2.2.2 32 (by omega) (by omega), p4.2.2 32 (by omega) (by omega), p3.2.2 32 (by omega) (by omega)]
  · rw [p13.2 30 (by omega), p10.2.2.2 30 (by omega) (by omega)]; exact p9.2.2.1
