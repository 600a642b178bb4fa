/-! the reference's constructor -/
def sS_12 (S : List (Nat × Nat)) : List (Nat × Nat) := ((((((((((((((((((((((((((((((S ++ [(102, 24)]) ++ [(100, 18)]) ++ [(100, 18)]) ++ [(100, 81)]) ++ [(100, 12)]) ++ [(100, 12)]) ++ [(100, 26)]) ++ [(100, 26)]) ++ [(100, 80)]) ++ [(100, 36)]) ++ [(100, 80)]) ++ [(100, 80)]) ++ [(100, 80)]) ++ [(100, 6)]) ++ [(100, 3)]) ++ [(100, 416)]) ++ [(100, 60)]) ++ [(100, 60)]) ++ [(100, 60)]) ++ [(100, 6)]) ++ [(100, 6)]) ++ [(100, 80)]) ++ [(100, 12)]) ++ [(100, 12)]) ++ [(100, 12)]) ++ [(100, 117)]) ++ [(101, 117)]) ++ [(101, 3)]) ++ [(100, 3)]) ++ [(100, 78)])
def wf_12 (F : Nat → Nat → Option Nat) : Nat → Nat → Option Nat := (fset (fset (fset (fset (fset (fset (fset (fset (fset (fset (fset (fset (fset (fset (fset (fset (fset (fset (fset (fset (fset (fset (fset (fset (fset (fset (fset (fset (fset (fset F 147 2 148) 147 7 149) 147 8 150) 147 9 151) 147 10 152) 147 11 153) 147 12 154) 147 13 155) 147 14 156) 147 19 157) 147 21 158) 147 22 159) 147 25 160) 147 26 161) 147 27 162) 147 29 163) 147 31 164) 147 32 165) 147 33 166) 147 35 167) 147 36 168) 147 39 169) 147 41 170) 147 42 171) 147 43 172) 147 44 173) 147 45 174) 147 47 175) 147 48 176) 147 49 177)
def pr_12 (h h2 : Nat → Int → Int) : Prop := h2 147 3 = 1 ∧ (∀ j : Int, j ≠ 3 → h2 147 j = h 147 j) ∧ (∀ e : Int, 0 ≤ e → e < 18 → h2 149 e = -1) ∧ ∀ b, b ≠ 147 → b ≠ 149 → h2 b = h b
def fl18 (f : Int → Int) : Int → Int := fun e => if 0 ≤ e ∧ e < 18 then -1 else f e
theorem X12_st {ls st : List PV} {S : List (Nat × Nat)} {F : Nat → Nat → Option Nat} {h : Nat → Int → Int} {d kc ks a : Nat} {Q : Option PV → PH → Prop} (hc : S[a]? = some (100, 18)) (kk : ∀ h2, (∀ e : Int, 0 ≤ e → e < 18 → h2 a e = -1) → (∀ b, b ≠ a → h2 b = h b) → RK mX12_init d kc ks 106 ls (pR a :: st) (S, F, h2) Q) : RK mX12_init d kc ks 22 ls (pR a :: st) (S, F, h) Q := by
  have step : ∀ {hx : Nat → Int → Int} {j : Int}, (∀ e : Int, 0 ≤ e → e < j → hx a e = -1) ∧ (∀ b, b ≠ a → hx b = h b) → ∀ {j2 : Int}, j2 = j + 1 → (∀ e : Int, 0 ≤ e → e < j2 → rup hx a (fup (hx a) j (-1)) a e = -1) ∧ (∀ b, b ≠ a → rup hx a (fup (hx a) j (-1)) b = h b) := by
    intro hx j q j2 hj2
    refine ⟨fun e e0 e1 => ?_, fun b hb => by rw [rup_n hb]; exact q.2 b hb⟩
    rw [rup_s]
    by_cases z : e = j
    · rw [z, fup_s]
    · rw [fup_n z]; exact q.1 e e0 (by omega)
  have z0 : (∀ e : Int, 0 ≤ e → e < 0 → h a e = -1) ∧ (∀ b, b ≠ a → h b = h b) := ⟨fun e e0 e1 => by omega, fun b _ => rfl⟩
  refine K_dup dX12_init_22 (fun _ => rfl) (K_iconst dX12_init_23 (K_iconst dX12_init_24 (K_iast (n := 18) dX12_init_25 (?_ : RK _ _ _ _ 26 _ _ _ _) hc (by omega) (by omega) (by omega))))
  have z1 := step z0 (j2 := 1) (by omega)
  generalize rup h a (fup (h a) 0 (-1)) = g1 at z1 ⊢
  refine K_dup dX12_init_26 (fun _ => rfl) (K_iconst dX12_init_27 (K_iconst dX12_init_28 (K_iast (n := 18) dX12_init_29 (?_ : RK _ _ _ _ 30 _ _ _ _) hc (by omega) (by omega) (by omega))))
  have z2 := step z1 (j2 := 2) (by omega)
  generalize rup g1 a (fup (g1 a) 1 (-1)) = g2 at z2 ⊢
  refine K_dup dX12_init_30 (fun _ => rfl) (K_iconst dX12_init_31 (K_iconst dX12_init_32 (K_iast (n := 18) dX12_init_33 (?_ : RK _ _ _ _ 34 _ _ _ _) hc (by omega) (by omega) (by omega))))
  have z3 := step z2 (j2 := 3) (by omega)
  generalize rup g2 a (fup (g2 a) 2 (-1)) = g3 at z3 ⊢
  refine K_dup dX12_init_34 (fun _ => rfl) (K_iconst dX12_init_35 (K_iconst dX12_init_36 (K_iast (n := 18) dX12_init_37 (?_ : RK _ _ _ _ 38 _ _ _ _) hc (by omega) (by omega) (by omega))))
  have z4 := step z3 (j2 := 4) (by omega)
  generalize rup g3 a (fup (g3 a) 3 (-1)) = g4 at z4 ⊢
  refine K_dup dX12_init_38 (fun _ => rfl) (K_iconst dX12_init_39 (K_iconst dX12_init_40 (K_iast (n := 18) dX12_init_41 (?_ : RK _ _ _ _ 42 _ _ _ _) hc (by omega) (by omega) (by omega))))
  have z5 := step z4 (j2 := 5) (by omega)
  generalize rup g4 a (fup (g4 a) 4 (-1)) = g5 at z5 ⊢
  refine K_dup dX12_init_42 (fun _ => rfl) (K_iconst dX12_init_43 (K_iconst dX12_init_44 (K_iast (n := 18) dX12_init_45 (?_ : RK _ _ _ _ 46 _ _ _ _) hc (by omega) (by omega) (by omega))))
  have z6 := step z5 (j2 := 6) (by omega)
  generalize rup g5 a (fup (g5 a) 5 (-1)) = g6 at z6 ⊢
  refine K_dup dX12_init_46 (fun _ => rfl) (K_bipush dX12_init_47 rfl (K_iconst dX12_init_49 (K_iast (n := 18) dX12_init_50 (?_ : RK _ _ _ _ 51 _ _ _ _) hc (by omega) (by omega) (by omega))))
  have z7 := step z6 (j2 := 7) (by omega)
  generalize rup g6 a (fup (g6 a) 6 (-1)) = g7 at z7 ⊢
  refine K_dup dX12_init_51 (fun _ => rfl) (K_bipush dX12_init_52 rfl (K_iconst dX12_init_54 (K_iast (n := 18) dX12_init_55 (?_ : RK _ _ _ _ 56 _ _ _ _) hc (by omega) (by omega) (by omega))))
  have z8 := step z7 (j2 := 8) (by omega)
  generalize rup g7 a (fup (g7 a) 7 (-1)) = g8 at z8 ⊢
  refine K_dup dX12_init_56 (fun _ => rfl) (K_bipush dX12_init_57 rfl (K_iconst dX12_init_59 (K_iast (n := 18) dX12_init_60 (?_ : RK _ _ _ _ 61 _ _ _ _) hc (by omega) (by omega) (by omega))))
  have z9 := step z8 (j2 := 9) (by omega)
  generalize rup g8 a (fup (g8 a) 8 (-1)) = g9 at z9 ⊢
  refine K_dup dX12_init_61 (fun _ => rfl) (K_bipush dX12_init_62 rfl (K_iconst dX12_init_64 (K_iast (n := 18) dX12_init_65 (?_ : RK _ _ _ _ 66 _ _ _ _) hc (by omega) (by omega) (by omega))))
  have z10 := step z9 (j2 := 10) (by omega)
  generalize rup g9 a (fup (g9 a) 9 (-1)) = g10 at z10 ⊢
  refine K_dup dX12_init_66 (fun _ => rfl) (K_bipush dX12_init_67 rfl (K_iconst dX12_init_69 (K_iast (n := 18) dX12_init_70 (?_ : RK _ _ _ _ 71 _ _ _ _) hc (by omega) (by omega) (by omega))))
  have z11 := step z10 (j2 := 11) (by omega)
  generalize rup g10 a (fup (g10 a) 10 (-1)) = g11 at z11 ⊢
  refine K_dup dX12_init_71 (fun _ => rfl) (K_bipush dX12_init_72 rfl (K_iconst dX12_init_74 (K_iast (n := 18) dX12_init_75 (?_ : RK _ _ _ _ 76 _ _ _ _) hc (by omega) (by omega) (by omega))))
  have z12 := step z11 (j2 := 12) (by omega)
  generalize rup g11 a (fup (g11 a) 11 (-1)) = g12 at z12 ⊢
  refine K_dup dX12_init_76 (fun _ => rfl) (K_bipush dX12_init_77 rfl (K_iconst dX12_init_79 (K_iast (n := 18) dX12_init_80 (?_ : RK _ _ _ _ 81 _ _ _ _) hc (by omega) (by omega) (by omega))))
  have z13 := step z12 (j2 := 13) (by omega)
  generalize rup g12 a (fup (g12 a) 12 (-1)) = g13 at z13 ⊢
  refine K_dup dX12_init_81 (fun _ => rfl) (K_bipush dX12_init_82 rfl (K_iconst dX12_init_84 (K_iast (n := 18) dX12_init_85 (?_ : RK _ _ _ _ 86 _ _ _ _) hc (by omega) (by omega) (by omega))))
  have z14 := step z13 (j2 := 14) (by omega)
  generalize rup g13 a (fup (g13 a) 13 (-1)) = g14 at z14 ⊢
  refine K_dup dX12_init_86 (fun _ => rfl) (K_bipush dX12_init_87 rfl (K_iconst dX12_init_89 (K_iast (n := 18) dX12_init_90 (?_ : RK _ _ _ _ 91 _ _ _ _) hc (by omega) (by omega) (by omega))))
  have z15 := step z14 (j2 := 15) (by omega)
  generalize rup g14 a (fup (g14 a) 14 (-1)) = g15 at z15 ⊢
  refine K_dup dX12_init_91 (fun _ => rfl) (K_bipush dX12_init_92 rfl (K_iconst dX12_init_94 (K_iast (n := 18) dX12_init_95 (?_ : RK _ _ _ _ 96 _ _ _ _) hc (by omega) (by omega) (by omega))))
  have z16 := step z15 (j2 := 16) (by omega)
  generalize rup g15 a (fup (g15 a) 15 (-1)) = g16 at z16 ⊢
  refine K_dup dX12_init_96 (fun _ => rfl) (K_bipush dX12_init_97 rfl (K_iconst dX12_init_99 (K_iast (n := 18) dX12_init_100 (?_ : RK _ _ _ _ 101 _ _ _ _) hc (by omega) (by omega) (by omega))))
  have z17 := step z16 (j2 := 17) (by omega)
  generalize rup g16 a (fup (g16 a) 16 (-1)) = g17 at z17 ⊢
  refine K_dup dX12_init_101 (fun _ => rfl) (K_bipush dX12_init_102 rfl (K_iconst dX12_init_104 (K_iast (n := 18) dX12_init_105 (?_ : RK _ _ _ _ 106 _ _ _ _) hc (by omega) (by omega) (by omega))))
  have z18 := step z17 (j2 := 18) (by omega)
  generalize rup g17 a (fup (g17 a) 17 (-1)) = g18 at z18 ⊢
  exact kk g18 z18.1 z18.2
theorem C_X12 {S : List (Nat × Nat)} {F : Nat → Nat → Option Nat} {h : Nat → Int → Int} (h0 : hk 148 S F h) (hc : S[147]? = some (12, 0)) : RK mX12_init 1 30 1624 0 (pm_ent [pR 147] 1) [] (S, F, h) (fun r g' => r = none ∧ ∃ h', g' = (sS_12 S, wf_12 F, h') ∧ hk 178 (sS_12 S) (wf_12 F) h' ∧ pr_12 h h') := by
  show RK mX12_init 1 30 1624 0 [pR 147] [] (S, F, h) _
  refine K_aload_n dX12_init_0 rfl (K_obj dX12_init_1 oi_X12 oi_in oi_co (by decide) (by decide) ?_)
  refine K_al (N := 24) (n := 148) (len := 2) (kc := 29) (ks := 1600) dX12_init_4 (fun kk => K_bipush dX12_init_5 rfl kk) dX12_init_7 dX12_init_9 flX12_9 fpX12_2 nr0 (by decide) (by decide) (by decide) h0 hc (fun k2 c2 => ?_)
  refine K_aload_n dX12_init_12 rfl (K_iconst dX12_init_13 (K_puti (zk := 3) dX12_init_14 flX12_13 cok_12 (by decide) (fun q hq => by cases hq; rfl) rfl ?_ (Or.inl rfl) (by omega) c2))
  have k3 := k2.ru (a := 147) (f := fup (h 147) 3 1) (by decide)
  have kb := k3.app (x := (100, 18)) (by decide)
  have cb := at_app (x := (100, 18)) c2
  have hln := k3.1
  refine K_aload_n dX12_init_17 rfl (K_bipush dX12_init_18 rfl (K_newi (N := 18) (kc := 28) (ks := 1582) rfl (by decide) dX12_init_20 ac_i k3.2 (plr (by rw [hln]; decide) pl0) (plr (by rw [hln]; decide) pl0) ?_))
  rw [hln]
  refine X12_st (at_new hln) (fun h2 y1 y2 => ?_)
  have kd : ∀ b, 149 < b → ∀ i, h2 b i = 0 := fun b hb i => by rw [y2 b (by omega)]; exact kb.2.2.2.2 b (by rw [kb.1]; omega) i
  have kb2 : hk 150 _ _ h2 := ⟨kb.1, kb.2.1, kb.2.2.1, kb.2.2.2.1, fun b hb i => kd b (by rw [kb.1] at hb; omega) i⟩
  have k4 := kb2.fs (a := 147) (k := 7) (b := 149) (by decide) (by decide)
  refine K_putrF dX12_init_106 flX12_17 fpX12_7.1 fpX12_7.2.1 fpX12_7.2.2.1 fpX12_7.2.2.2.1 fpX12_7.2.2.2.2.1 fpX12_7.2.2.2.2.2 ?_ cb
  refine K_ai (N := 18) (n := 150) (len := 2) (kc := 27) (ks := 1564) dX12_init_109 (fun kk => K_bipush dX12_init_110 rfl kk) dX12_init_112 dX12_init_114 flX12_21 fpX12_8 nr0 (by decide) (by decide) (by decide) k4 cb (fun k5 c5 => ?_)
  refine K_ai (N := 81) (n := 151) (len := 2) (kc := 26) (ks := 1483) dX12_init_117 (fun kk => K_bipush dX12_init_118 rfl kk) dX12_init_120 dX12_init_122 flX12_24 fpX12_9 nr0 (by decide) (by decide) (by decide) k5 c5 (fun k6 c6 => ?_)
  refine K_ai (N := 12) (n := 152) (len := 2) (kc := 25) (ks := 1471) dX12_init_125 (fun kk => K_bipush dX12_init_126 rfl kk) dX12_init_128 dX12_init_130 flX12_27 fpX12_10 nr0 (by decide) (by decide) (by decide) k6 c6 (fun k7 c7 => ?_)
  refine K_ai (N := 12) (n := 153) (len := 2) (kc := 24) (ks := 1459) dX12_init_133 (fun kk => K_bipush dX12_init_134 rfl kk) dX12_init_136 dX12_init_138 flX12_30 fpX12_11 nr0 (by decide) (by decide) (by decide) k7 c7 (fun k8 c8 => ?_)
  refine K_ai (N := 26) (n := 154) (len := 2) (kc := 23) (ks := 1433) dX12_init_141 (fun kk => K_bipush dX12_init_142 rfl kk) dX12_init_144 dX12_init_146 flX12_33 fpX12_12 nr0 (by decide) (by decide) (by decide) k8 c8 (fun k9 c9 => ?_)
  refine K_ai (N := 26) (n := 155) (len := 2) (kc := 22) (ks := 1407) dX12_init_149 (fun kk => K_bipush dX12_init_150 rfl kk) dX12_init_152 dX12_init_154 flX12_36 fpX12_13 nr0 (by decide) (by decide) (by decide) k9 c9 (fun k10 c10 => ?_)
  refine K_ai (N := 80) (n := 156) (len := 2) (kc := 21) (ks := 1327) dX12_init_157 (fun kk => K_bipush dX12_init_158 rfl kk) dX12_init_160 dX12_init_162 flX12_39 fpX12_14 nr0 (by decide) (by decide) (by decide) k10 c10 (fun k11 c11 => ?_)
  refine K_ai (N := 36) (n := 157) (len := 2) (kc := 20) (ks := 1291) dX12_init_165 (fun kk => K_bipush dX12_init_166 rfl kk) dX12_init_168 dX12_init_170 flX12_42 fpX12_19 nr0 (by decide) (by decide) (by decide) k11 c11 (fun k12 c12 => ?_)
  refine K_ai (N := 80) (n := 158) (len := 2) (kc := 19) (ks := 1211) dX12_init_173 (fun kk => K_bipush dX12_init_174 rfl kk) dX12_init_176 dX12_init_178 flX12_45 fpX12_21 nr0 (by decide) (by decide) (by decide) k12 c12 (fun k13 c13 => ?_)
  refine K_ai (N := 80) (n := 159) (len := 2) (kc := 18) (ks := 1131) dX12_init_181 (fun kk => K_bipush dX12_init_182 rfl kk) dX12_init_184 dX12_init_186 flX12_48 fpX12_22 nr0 (by decide) (by decide) (by decide) k13 c13 (fun k14 c14 => ?_)
  refine K_ai (N := 80) (n := 160) (len := 2) (kc := 17) (ks := 1051) dX12_init_189 (fun kk => K_bipush dX12_init_190 rfl kk) dX12_init_192 dX12_init_194 flX12_51 fpX12_25 nr0 (by decide) (by decide) (by decide) k14 c14 (fun k15 c15 => ?_)
  refine K_ai (N := 6) (n := 161) (len := 2) (kc := 16) (ks := 1045) dX12_init_197 (fun kk => K_bipush dX12_init_198 rfl kk) dX12_init_200 dX12_init_202 flX12_54 fpX12_26 nr0 (by decide) (by decide) (by decide) k15 c15 (fun k16 c16 => ?_)
  refine K_ai (N := 3) (n := 162) (len := 1) (kc := 15) (ks := 1042) dX12_init_205 (fun kk => K_iconst dX12_init_206 kk) dX12_init_207 dX12_init_209 flX12_57 fpX12_27 nr0 (by decide) (by decide) (by decide) k16 c16 (fun k17 c17 => ?_)
  refine K_ai (N := 416) (n := 163) (len := 3) (kc := 14) (ks := 626) dX12_init_212 (fun kk => K_sipush dX12_init_213 rfl kk) dX12_init_216 dX12_init_218 flX12_60 fpX12_29 nr0 (by decide) (by decide) (by decide) k17 c17 (fun k18 c18 => ?_)
  refine K_ai (N := 60) (n := 164) (len := 2) (kc := 13) (ks := 566) dX12_init_221 (fun kk => K_bipush dX12_init_222 rfl kk) dX12_init_224 dX12_init_226 flX12_63 fpX12_31 nr0 (by decide) (by decide) (by decide) k18 c18 (fun k19 c19 => ?_)
  refine K_ai (N := 60) (n := 165) (len := 2) (kc := 12) (ks := 506) dX12_init_229 (fun kk => K_bipush dX12_init_230 rfl kk) dX12_init_232 dX12_init_234 flX12_66 fpX12_32 nr0 (by decide) (by decide) (by decide) k19 c19 (fun k20 c20 => ?_)
  refine K_ai (N := 60) (n := 166) (len := 2) (kc := 11) (ks := 446) dX12_init_237 (fun kk => K_bipush dX12_init_238 rfl kk) dX12_init_240 dX12_init_242 flX12_69 fpX12_33 nr0 (by decide) (by decide) (by decide) k20 c20 (fun k21 c21 => ?_)
  refine K_ai (N := 6) (n := 167) (len := 2) (kc := 10) (ks := 440) dX12_init_245 (fun kk => K_bipush dX12_init_246 rfl kk) dX12_init_248 dX12_init_250 flX12_72 fpX12_35 nr0 (by decide) (by decide) (by decide) k21 c21 (fun k22 c22 => ?_)
  refine K_ai (N := 6) (n := 168) (len := 2) (kc := 9) (ks := 434) dX12_init_253 (fun kk => K_bipush dX12_init_254 rfl kk) dX12_init_256 dX12_init_258 flX12_75 fpX12_36 nr0 (by decide) (by decide) (by decide) k22 c22 (fun k23 c23 => ?_)
  refine K_ai (N := 80) (n := 169) (len := 2) (kc := 8) (ks := 354) dX12_init_261 (fun kk => K_bipush dX12_init_262 rfl kk) dX12_init_264 dX12_init_266 flX12_78 fpX12_39 nr0 (by decide) (by decide) (by decide) k23 c23 (fun k24 c24 => ?_)
  refine K_ai (N := 12) (n := 170) (len := 2) (kc := 7) (ks := 342) dX12_init_269 (fun kk => K_bipush dX12_init_270 rfl kk) dX12_init_272 dX12_init_274 flX12_81 fpX12_41 nr0 (by decide) (by decide) (by decide) k24 c24 (fun k25 c25 => ?_)
  refine K_ai (N := 12) (n := 171) (len := 2) (kc := 6) (ks := 330) dX12_init_277 (fun kk => K_bipush dX12_init_278 rfl kk) dX12_init_280 dX12_init_282 flX12_84 fpX12_42 nr0 (by decide) (by decide) (by decide) k25 c25 (fun k26 c26 => ?_)
  refine K_ai (N := 12) (n := 172) (len := 2) (kc := 5) (ks := 318) dX12_init_285 (fun kk => K_bipush dX12_init_286 rfl kk) dX12_init_288 dX12_init_290 flX12_87 fpX12_43 nr0 (by decide) (by decide) (by decide) k26 c26 (fun k27 c27 => ?_)
  refine K_ai (N := 117) (n := 173) (len := 2) (kc := 4) (ks := 201) dX12_init_293 (fun kk => K_bipush dX12_init_294 rfl kk) dX12_init_296 dX12_init_298 flX12_90 fpX12_44 nr0 (by decide) (by decide) (by decide) k27 c27 (fun k28 c28 => ?_)
  refine K_az (N := 117) (n := 174) (len := 2) (kc := 3) (ks := 84) dX12_init_301 (fun kk => K_bipush dX12_init_302 rfl kk) dX12_init_304 dX12_init_306 flX12_93 fpX12_45 nr0 (by decide) (by decide) (by decide) k28 c28 (fun k29 c29 => ?_)
  refine K_az (N := 3) (n := 175) (len := 1) (kc := 2) (ks := 81) dX12_init_309 (fun kk => K_iconst dX12_init_310 kk) dX12_init_311 dX12_init_313 flX12_97 fpX12_47 nr0 (by decide) (by decide) (by decide) k29 c29 (fun k30 c30 => ?_)
  refine K_ai (N := 3) (n := 176) (len := 1) (kc := 1) (ks := 78) dX12_init_316 (fun kk => K_iconst dX12_init_317 kk) dX12_init_318 dX12_init_320 flX12_100 fpX12_48 nr0 (by decide) (by decide) (by decide) k30 c30 (fun k31 c31 => ?_)
  refine K_ai (N := 78) (n := 177) (len := 2) (kc := 0) (ks := 0) dX12_init_323 (fun kk => K_bipush dX12_init_324 rfl kk) dX12_init_326 dX12_init_328 flX12_103 fpX12_49 nr0 (by decide) (by decide) (by decide) k31 c31 (fun k32 c32 => ?_)
  refine K_return dX12_init_331 trivial ⟨rfl, h2, rfl, k32, ?_, fun j hj => ?_, y1, fun b b1 b2 => ?_⟩
  · rw [y2 147 (by omega), rup_s, fup_s]
  · rw [y2 147 (by omega), rup_s, fup_n hj]
  · rw [y2 b b2, rup_n b1]
