section RU2
variable {k : Nat} {h h1 h2 h3 h4 : Nat → Int → Int} {N d p b l : Nat} {σ : Int → Int} {v : (Int → Int) → Int} {u : Bool}
def lvO (c : Int) : Int := if c = 60 ∨ c = 61 ∨ c = 62 then 0 else if c = 43 ∨ c = 45 then 1 else if c = 42 ∨ c = 47 then 2 else -1
def tgO (c : Int) : Int := if c = 114 then 0 else if c = 99 then 1 else if c = 107 then 2 else if c = 100 then 3 else if c = 112 then 4 else if c = 110 then 5 else -1
theorem tgO_e {c : Int} : amI 0 c = tgO c := amI_0
theorem lvO_e {c : Int} {r : Nat} (hr : r ≤ 2) : lvO c = r ↔ 0 ≤ amI (r + 1) c := by
  have : r = 0 ∨ r = 1 ∨ r = 2 := by omega
  unfold lvO
  rcases this with rfl | rfl | rfl
  · rw [amI_1]
    repeat' split
    all_goals omega
  · rw [amI_2]
    repeat' split
    all_goals omega
  · rw [amI_3]
    repeat' split
    all_goals omega
theorem T_X4_levelOf {c : Int} (hc : r32 c) : MT mX4_levelOf 0 [pI c] h (some (pI (lvO c))) h := by
  refine MT.of (fun Q hQ => (?_ : RR mX4_levelOf _ _ _ _ [pI c] _ _ _))
  by_cases q : 42 ≤ c ∧ c ≤ 62
  · have q2 : c = 42 ∨ c = 43 ∨ c = 44 ∨ c = 45 ∨ c = 46 ∨ c = 47 ∨ c = 48 ∨ c = 49 ∨ c = 50 ∨ c = 51 ∨ c = 52 ∨ c = 53 ∨ c = 54 ∨ c = 55 ∨ c = 56 ∨ c = 57 ∨ c = 58 ∨ c = 59 ∨ c = 60 ∨ c = 61 ∨ c = 62 := by omega
    rcases q2 with rfl | rfl | rfl | rfl | rfl | rfl | rfl | rfl | rfl | rfl | rfl | rfl | rfl | rfl | rfl | rfl | rfl | rfl | rfl | rfl | rfl
    · refine R_iload_n dX4_levelOf_0 rfl (?_ : RR _ _ _ _ 1 _ _ _ _)
      refine R_tabIn (t := 104) (off := 103) dX4_levelOf_1 (by omega) (by omega) rfl rfl (?_ : RR _ _ _ _ 104 _ _ _ _)
      refine R_iconst dX4_levelOf_104 (?_ : RR _ _ _ _ 105 _ _ _ _)
      exact R_ireturn dX4_levelOf_105 trivial hQ
    · refine R_iload_n dX4_levelOf_0 rfl (?_ : RR _ _ _ _ 1 _ _ _ _)
      refine R_tabIn (t := 102) (off := 101) dX4_levelOf_1 (by omega) (by omega) rfl rfl (?_ : RR _ _ _ _ 102 _ _ _ _)
      refine R_iconst dX4_levelOf_102 (?_ : RR _ _ _ _ 103 _ _ _ _)
      exact R_ireturn dX4_levelOf_103 trivial hQ
    · refine R_iload_n dX4_levelOf_0 rfl (?_ : RR _ _ _ _ 1 _ _ _ _)
      refine R_tabIn (t := 106) (off := 105) dX4_levelOf_1 (by omega) (by omega) rfl rfl (?_ : RR _ _ _ _ 106 _ _ _ _)
      refine R_iconst dX4_levelOf_106 (?_ : RR _ _ _ _ 107 _ _ _ _)
      exact R_ireturn dX4_levelOf_107 trivial hQ
    · refine R_iload_n dX4_levelOf_0 rfl (?_ : RR _ _ _ _ 1 _ _ _ _)
      refine R_tabIn (t := 102) (off := 101) dX4_levelOf_1 (by omega) (by omega) rfl rfl (?_ : RR _ _ _ _ 102 _ _ _ _)
      refine R_iconst dX4_levelOf_102 (?_ : RR _ _ _ _ 103 _ _ _ _)
      exact R_ireturn dX4_levelOf_103 trivial hQ
    · refine R_iload_n dX4_levelOf_0 rfl (?_ : RR _ _ _ _ 1 _ _ _ _)
      refine R_tabIn (t := 106) (off := 105) dX4_levelOf_1 (by omega) (by omega) rfl rfl (?_ : RR _ _ _ _ 106 _ _ _ _)
      refine R_iconst dX4_levelOf_106 (?_ : RR _ _ _ _ 107 _ _ _ _)
      exact R_ireturn dX4_levelOf_107 trivial hQ
    · refine R_iload_n dX4_levelOf_0 rfl (?_ : RR _ _ _ _ 1 _ _ _ _)
      refine R_tabIn (t := 104) (off := 103) dX4_levelOf_1 (by omega) (by omega) rfl rfl (?_ : RR _ _ _ _ 104 _ _ _ _)
      refine R_iconst dX4_levelOf_104 (?_ : RR _ _ _ _ 105 _ _ _ _)
      exact R_ireturn dX4_levelOf_105 trivial hQ
    · refine R_iload_n dX4_levelOf_0 rfl (?_ : RR _ _ _ _ 1 _ _ _ _)
      refine R_tabIn (t := 106) (off := 105) dX4_levelOf_1 (by omega) (by omega) rfl rfl (?_ : RR _ _ _ _ 106 _ _ _ _)
      refine R_iconst dX4_levelOf_106 (?_ : RR _ _ _ _ 107 _ _ _ _)
      exact R_ireturn dX4_levelOf_107 trivial hQ
    · refine R_iload_n dX4_levelOf_0 rfl (?_ : RR _ _ _ _ 1 _ _ _ _)
      refine R_tabIn (t := 106) (off := 105) dX4_levelOf_1 (by omega) (by omega) rfl rfl (?_ : RR _ _ _ _ 106 _ _ _ _)
      refine R_iconst dX4_levelOf_106 (?_ : RR _ _ _ _ 107 _ _ _ _)
      exact R_ireturn dX4_levelOf_107 trivial hQ
    · refine R_iload_n dX4_levelOf_0 rfl (?_ : RR _ _ _ _ 1 _ _ _ _)
      refine R_tabIn (t := 106) (off := 105) dX4_levelOf_1 (by omega) (by omega) rfl rfl (?_ : RR _ _ _ _ 106 _ _ _ _)
      refine R_iconst dX4_levelOf_106 (?_ : RR _ _ _ _ 107 _ _ _ _)
      exact R_ireturn dX4_levelOf_107 trivial hQ
    · refine R_iload_n dX4_levelOf_0 rfl (?_ : RR _ _ _ _ 1 _ _ _ _)
      refine R_tabIn (t := 106) (off := 105) dX4_levelOf_1 (by omega) (by omega) rfl rfl (?_ : RR _ _ _ _ 106 _ _ _ _)
      refine R_iconst dX4_levelOf_106 (?_ : RR _ _ _ _ 107 _ _ _ _)
      exact R_ireturn dX4_levelOf_107 trivial hQ
    · refine R_iload_n dX4_levelOf_0 rfl (?_ : RR _ _ _ _ 1 _ _ _ _)
      refine R_tabIn (t := 106) (off := 105) dX4_levelOf_1 (by omega) (by omega) rfl rfl (?_ : RR _ _ _ _ 106 _ _ _ _)
      refine R_iconst dX4_levelOf_106 (?_ : RR _ _ _ _ 107 _ _ _ _)
      exact R_ireturn dX4_levelOf_107 trivial hQ
    · refine R_iload_n dX4_levelOf_0 rfl (?_ : RR _ _ _ _ 1 _ _ _ _)
      refine R_tabIn (t := 106) (off := 105) dX4_levelOf_1 (by omega) (by omega) rfl rfl (?_ : RR _ _ _ _ 106 _ _ _ _)
      refine R_iconst dX4_levelOf_106 (?_ : RR _ _ _ _ 107 _ _ _ _)
      exact R_ireturn dX4_levelOf_107 trivial hQ
    · refine R_iload_n dX4_levelOf_0 rfl (?_ : RR _ _ _ _ 1 _ _ _ _)
      refine R_tabIn (t := 106) (off := 105) dX4_levelOf_1 (by omega) (by omega) rfl rfl (?_ : RR _ _ _ _ 106 _ _ _ _)
      refine R_iconst dX4_levelOf_106 (?_ : RR _ _ _ _ 107 _ _ _ _)
      exact R_ireturn dX4_levelOf_107 trivial hQ
    · refine R_iload_n dX4_levelOf_0 rfl (?_ : RR _ _ _ _ 1 _ _ _ _)
      refine R_tabIn (t := 106) (off := 105) dX4_levelOf_1 (by omega) (by omega) rfl rfl (?_ : RR _ _ _ _ 106 _ _ _ _)
      refine R_iconst dX4_levelOf_106 (?_ : RR _ _ _ _ 107 _ _ _ _)
      exact R_ireturn dX4_levelOf_107 trivial hQ
    · refine R_iload_n dX4_levelOf_0 rfl (?_ : RR _ _ _ _ 1 _ _ _ _)
      refine R_tabIn (t := 106) (off := 105) dX4_levelOf_1 (by omega) (by omega) rfl rfl (?_ : RR _ _ _ _ 106 _ _ _ _)
      refine R_iconst dX4_levelOf_106 (?_ : RR _ _ _ _ 107 _ _ _ _)
      exact R_ireturn dX4_levelOf_107 trivial hQ
    · refine R_iload_n dX4_levelOf_0 rfl (?_ : RR _ _ _ _ 1 _ _ _ _)
      refine R_tabIn (t := 106) (off := 105) dX4_levelOf_1 (by omega) (by omega) rfl rfl (?_ : RR _ _ _ _ 106 _ _ _ _)
      refine R_iconst dX4_levelOf_106 (?_ : RR _ _ _ _ 107 _ _ _ _)
      exact R_ireturn dX4_levelOf_107 trivial hQ
    · refine R_iload_n dX4_levelOf_0 rfl (?_ : RR _ _ _ _ 1 _ _ _ _)
      refine R_tabIn (t := 106) (off := 105) dX4_levelOf_1 (by omega) (by omega) rfl rfl (?_ : RR _ _ _ _ 106 _ _ _ _)
      refine R_iconst dX4_levelOf_106 (?_ : RR _ _ _ _ 107 _ _ _ _)
      exact R_ireturn dX4_levelOf_107 trivial hQ
    · refine R_iload_n dX4_levelOf_0 rfl (?_ : RR _ _ _ _ 1 _ _ _ _)
      refine R_tabIn (t := 106) (off := 105) dX4_levelOf_1 (by omega) (by omega) rfl rfl (?_ : RR _ _ _ _ 106 _ _ _ _)
      refine R_iconst dX4_levelOf_106 (?_ : RR _ _ _ _ 107 _ _ _ _)
      exact R_ireturn dX4_levelOf_107 trivial hQ
    · refine R_iload_n dX4_levelOf_0 rfl (?_ : RR _ _ _ _ 1 _ _ _ _)
      refine R_tabIn (t := 100) (off := 99) dX4_levelOf_1 (by omega) (by omega) rfl rfl (?_ : RR _ _ _ _ 100 _ _ _ _)
      refine R_iconst dX4_levelOf_100 (?_ : RR _ _ _ _ 101 _ _ _ _)
      exact R_ireturn dX4_levelOf_101 trivial hQ
    · refine R_iload_n dX4_levelOf_0 rfl (?_ : RR _ _ _ _ 1 _ _ _ _)
      refine R_tabIn (t := 100) (off := 99) dX4_levelOf_1 (by omega) (by omega) rfl rfl (?_ : RR _ _ _ _ 100 _ _ _ _)
      refine R_iconst dX4_levelOf_100 (?_ : RR _ _ _ _ 101 _ _ _ _)
      exact R_ireturn dX4_levelOf_101 trivial hQ
    · refine R_iload_n dX4_levelOf_0 rfl (?_ : RR _ _ _ _ 1 _ _ _ _)
      refine R_tabIn (t := 100) (off := 99) dX4_levelOf_1 (by omega) (by omega) rfl rfl (?_ : RR _ _ _ _ 100 _ _ _ _)
      refine R_iconst dX4_levelOf_100 (?_ : RR _ _ _ _ 101 _ _ _ _)
      exact R_ireturn dX4_levelOf_101 trivial hQ
  · have e : lvO c = -1 := by unfold lvO; rw [if_neg (by omega), if_neg (by omega), if_neg (by omega)]
    rw [e] at hQ
    refine R_iload_n dX4_levelOf_0 rfl (?_ : RR _ _ _ _ 1 _ _ _ _)
    refine R_tabOut (t := 106) dX4_levelOf_1 rfl (by omega) (?_ : RR _ _ _ _ 106 _ _ _ _)
    refine R_iconst dX4_levelOf_106 (?_ : RR _ _ _ _ 107 _ _ _ _)
    exact R_ireturn dX4_levelOf_107 trivial hQ
theorem T_X4_thingOf {c : Int} (hc : r32 c) : MT mX4_thingOf 0 [pI c] h (some (pI (tgO c))) h := by
  refine MT.of (fun Q hQ => (?_ : RR mX4_thingOf _ _ _ _ [pI c] _ _ _))
  by_cases q : 99 ≤ c ∧ c ≤ 114
  · have q2 : c = 99 ∨ c = 100 ∨ c = 101 ∨ c = 102 ∨ c = 103 ∨ c = 104 ∨ c = 105 ∨ c = 106 ∨ c = 107 ∨ c = 108 ∨ c = 109 ∨ c = 110 ∨ c = 111 ∨ c = 112 ∨ c = 113 ∨ c = 114 := by omega
    rcases q2 with rfl | rfl | rfl | rfl | rfl | rfl | rfl | rfl | rfl | rfl | rfl | rfl | rfl | rfl | rfl | rfl
    · refine R_iload_n dX4_thingOf_0 rfl (?_ : RR _ _ _ _ 1 _ _ _ _)
      refine R_tabIn (t := 82) (off := 81) dX4_thingOf_1 (by omega) (by omega) rfl rfl (?_ : RR _ _ _ _ 82 _ _ _ _)
      refine R_iconst dX4_thingOf_82 (?_ : RR _ _ _ _ 83 _ _ _ _)
      exact R_ireturn dX4_thingOf_83 trivial hQ
    · refine R_iload_n dX4_thingOf_0 rfl (?_ : RR _ _ _ _ 1 _ _ _ _)
      refine R_tabIn (t := 86) (off := 85) dX4_thingOf_1 (by omega) (by omega) rfl rfl (?_ : RR _ _ _ _ 86 _ _ _ _)
      refine R_iconst dX4_thingOf_86 (?_ : RR _ _ _ _ 87 _ _ _ _)
      exact R_ireturn dX4_thingOf_87 trivial hQ
    · refine R_iload_n dX4_thingOf_0 rfl (?_ : RR _ _ _ _ 1 _ _ _ _)
      refine R_tabIn (t := 92) (off := 91) dX4_thingOf_1 (by omega) (by omega) rfl rfl (?_ : RR _ _ _ _ 92 _ _ _ _)
      refine R_iconst dX4_thingOf_92 (?_ : RR _ _ _ _ 93 _ _ _ _)
      exact R_ireturn dX4_thingOf_93 trivial hQ
    · refine R_iload_n dX4_thingOf_0 rfl (?_ : RR _ _ _ _ 1 _ _ _ _)
      refine R_tabIn (t := 92) (off := 91) dX4_thingOf_1 (by omega) (by omega) rfl rfl (?_ : RR _ _ _ _ 92 _ _ _ _)
      refine R_iconst dX4_thingOf_92 (?_ : RR _ _ _ _ 93 _ _ _ _)
      exact R_ireturn dX4_thingOf_93 trivial hQ
    · refine R_iload_n dX4_thingOf_0 rfl (?_ : RR _ _ _ _ 1 _ _ _ _)
      refine R_tabIn (t := 92) (off := 91) dX4_thingOf_1 (by omega) (by omega) rfl rfl (?_ : RR _ _ _ _ 92 _ _ _ _)
      refine R_iconst dX4_thingOf_92 (?_ : RR _ _ _ _ 93 _ _ _ _)
      exact R_ireturn dX4_thingOf_93 trivial hQ
    · refine R_iload_n dX4_thingOf_0 rfl (?_ : RR _ _ _ _ 1 _ _ _ _)
      refine R_tabIn (t := 92) (off := 91) dX4_thingOf_1 (by omega) (by omega) rfl rfl (?_ : RR _ _ _ _ 92 _ _ _ _)
      refine R_iconst dX4_thingOf_92 (?_ : RR _ _ _ _ 93 _ _ _ _)
      exact R_ireturn dX4_thingOf_93 trivial hQ
    · refine R_iload_n dX4_thingOf_0 rfl (?_ : RR _ _ _ _ 1 _ _ _ _)
      refine R_tabIn (t := 92) (off := 91) dX4_thingOf_1 (by omega) (by omega) rfl rfl (?_ : RR _ _ _ _ 92 _ _ _ _)
      refine R_iconst dX4_thingOf_92 (?_ : RR _ _ _ _ 93 _ _ _ _)
      exact R_ireturn dX4_thingOf_93 trivial hQ
    · refine R_iload_n dX4_thingOf_0 rfl (?_ : RR _ _ _ _ 1 _ _ _ _)
      refine R_tabIn (t := 92) (off := 91) dX4_thingOf_1 (by omega) (by omega) rfl rfl (?_ : RR _ _ _ _ 92 _ _ _ _)
      refine R_iconst dX4_thingOf_92 (?_ : RR _ _ _ _ 93 _ _ _ _)
      exact R_ireturn dX4_thingOf_93 trivial hQ
    · refine R_iload_n dX4_thingOf_0 rfl (?_ : RR _ _ _ _ 1 _ _ _ _)
      refine R_tabIn (t := 84) (off := 83) dX4_thingOf_1 (by omega) (by omega) rfl rfl (?_ : RR _ _ _ _ 84 _ _ _ _)
      refine R_iconst dX4_thingOf_84 (?_ : RR _ _ _ _ 85 _ _ _ _)
      exact R_ireturn dX4_thingOf_85 trivial hQ
    · refine R_iload_n dX4_thingOf_0 rfl (?_ : RR _ _ _ _ 1 _ _ _ _)
      refine R_tabIn (t := 92) (off := 91) dX4_thingOf_1 (by omega) (by omega) rfl rfl (?_ : RR _ _ _ _ 92 _ _ _ _)
      refine R_iconst dX4_thingOf_92 (?_ : RR _ _ _ _ 93 _ _ _ _)
      exact R_ireturn dX4_thingOf_93 trivial hQ
    · refine R_iload_n dX4_thingOf_0 rfl (?_ : RR _ _ _ _ 1 _ _ _ _)
      refine R_tabIn (t := 92) (off := 91) dX4_thingOf_1 (by omega) (by omega) rfl rfl (?_ : RR _ _ _ _ 92 _ _ _ _)
      refine R_iconst dX4_thingOf_92 (?_ : RR _ _ _ _ 93 _ _ _ _)
      exact R_ireturn dX4_thingOf_93 trivial hQ
    · refine R_iload_n dX4_thingOf_0 rfl (?_ : RR _ _ _ _ 1 _ _ _ _)
      refine R_tabIn (t := 90) (off := 89) dX4_thingOf_1 (by omega) (by omega) rfl rfl (?_ : RR _ _ _ _ 90 _ _ _ _)
      refine R_iconst dX4_thingOf_90 (?_ : RR _ _ _ _ 91 _ _ _ _)
      exact R_ireturn dX4_thingOf_91 trivial hQ
    · refine R_iload_n dX4_thingOf_0 rfl (?_ : RR _ _ _ _ 1 _ _ _ _)
      refine R_tabIn (t := 92) (off := 91) dX4_thingOf_1 (by omega) (by omega) rfl rfl (?_ : RR _ _ _ _ 92 _ _ _ _)
      refine R_iconst dX4_thingOf_92 (?_ : RR _ _ _ _ 93 _ _ _ _)
      exact R_ireturn dX4_thingOf_93 trivial hQ
    · refine R_iload_n dX4_thingOf_0 rfl (?_ : RR _ _ _ _ 1 _ _ _ _)
      refine R_tabIn (t := 88) (off := 87) dX4_thingOf_1 (by omega) (by omega) rfl rfl (?_ : RR _ _ _ _ 88 _ _ _ _)
      refine R_iconst dX4_thingOf_88 (?_ : RR _ _ _ _ 89 _ _ _ _)
      exact R_ireturn dX4_thingOf_89 trivial hQ
    · refine R_iload_n dX4_thingOf_0 rfl (?_ : RR _ _ _ _ 1 _ _ _ _)
      refine R_tabIn (t := 92) (off := 91) dX4_thingOf_1 (by omega) (by omega) rfl rfl (?_ : RR _ _ _ _ 92 _ _ _ _)
      refine R_iconst dX4_thingOf_92 (?_ : RR _ _ _ _ 93 _ _ _ _)
      exact R_ireturn dX4_thingOf_93 trivial hQ
    · refine R_iload_n dX4_thingOf_0 rfl (?_ : RR _ _ _ _ 1 _ _ _ _)
      refine R_tabIn (t := 80) (off := 79) dX4_thingOf_1 (by omega) (by omega) rfl rfl (?_ : RR _ _ _ _ 80 _ _ _ _)
      refine R_iconst dX4_thingOf_80 (?_ : RR _ _ _ _ 81 _ _ _ _)
      exact R_ireturn dX4_thingOf_81 trivial hQ
  · have e : tgO c = -1 := by unfold tgO; rw [if_neg (by omega), if_neg (by omega), if_neg (by omega), if_neg (by omega), if_neg (by omega), if_neg (by omega)]
    rw [e] at hQ
    refine R_iload_n dX4_thingOf_0 rfl (?_ : RR _ _ _ _ 1 _ _ _ _)
    refine R_tabOut (t := 92) dX4_thingOf_1 rfl (by omega) (?_ : RR _ _ _ _ 92 _ _ _ _)
    refine R_iconst dX4_thingOf_92 (?_ : RR _ _ _ _ 93 _ _ _ _)
    exact R_ireturn dX4_thingOf_93 trivial hQ
theorem T_add32 {c : Int} (hl : h 32 2 = l) (hl40 : l < 40) (hc : r32 c) : MT mX4_add 0 [pR 32, pI c] h none (rup (rup h 32 (fup (h 32) 2 ((l : Int) + 1))) 33 (fup (h 33) l c)) := by
  refine MT.of (fun Q hQ => (?_ : RR mX4_add _ _ _ _ [pR 32, pI c] _ _ _))
  have r32' := isRule_32
  refine R_aload_n dX4_add_0 rfl (?_ : RR _ _ _ _ 1 _ _ _ _)
  refine R_geti (z := 2) dX4_add_1 flX4_18 cok_4 rfl (by decide) rfl (fun q1 => (?_ : RR _ _ _ _ 4 _ _ _ _))
  try simp (disch := omega) only [rup_rup, rup_sort, rupS_def, rup_s, rup_n, fup_fup, fup_s, fup_n, hl] at q1 ⊢
  refine R_bipush dX4_add_4 rfl (?_ : RR _ _ _ _ 6 _ _ _ _)
  refine R_icmp_ge (t := 29) dX4_add_6 rfl (fun c6 => ?_) (fun c6 => ?_)
  · exfalso; omega
  refine R_aload_n dX4_add_9 rfl (?_ : RR _ _ _ _ 10 _ _ _ _)
  refine R_getr dX4_add_10 flX4_9 cok_4 rfl (by decide) (?_ : RR _ _ _ _ 13 _ _ _ _)
  refine R_aload_n dX4_add_13 rfl (?_ : RR _ _ _ _ 14 _ _ _ _)
  refine R_geti (z := 2) dX4_add_14 flX4_18 cok_4 rfl (by decide) rfl (fun q14 => (?_ : RR _ _ _ _ 17 _ _ _ _))
  try simp (disch := omega) only [rup_rup, rup_sort, rupS_def, rup_s, rup_n, fup_fup, fup_s, fup_n, hl] at q14 ⊢
  refine R_iload_n dX4_add_17 rfl (?_ : RR _ _ _ _ 18 _ _ _ _)
  refine R_iast dX4_add_18 (?_ : RR _ _ _ _ 19 _ _ _ _)
  try simp (disch := omega) only [rup_rup, rup_sort, rupS_def, rup_s, rup_n, fup_fup, fup_s, fup_n, hl]
  refine R_aload_n dX4_add_19 rfl (?_ : RR _ _ _ _ 20 _ _ _ _)
  refine R_dup dX4_add_20 (fun _ => rfl) (?_ : RR _ _ _ _ 21 _ _ _ _)
  refine R_geti (z := 2) dX4_add_21 flX4_18 cok_4 rfl (by decide) rfl (fun q21 => (?_ : RR _ _ _ _ 24 _ _ _ _))
  try simp (disch := omega) only [rup_rup, rup_sort, rupS_def, rup_s, rup_n, fup_fup, fup_s, fup_n, hl] at q21 ⊢
  refine R_iconst dX4_add_24 (?_ : RR _ _ _ _ 25 _ _ _ _)
  refine R_iadd dX4_add_25 (?_ : RR _ _ _ _ 26 _ _ _ _)
  refine R_puti (zk := 2) dX4_add_26 flX4_18 cok_4 (by decide) (fun q hq => by cases hq; rfl) rfl (?_ : RR _ _ _ _ 29 _ _ _ _)
  try simp (disch := omega) only [rup_rup, rup_sort, rupS_def, rup_s, rup_n, fup_fup, fup_s, fup_n, hl]
  exact R_return dX4_add_29 trivial hQ
/-- the frame of the class's reading -/
def crF (h h1 : Nat → Int → Int) (l : Nat) : Prop := (∀ a, a ≠ 32 → a ≠ 33 → h1 a = h a) ∧ ∀ j : Int, j < l → h1 33 j = h 33 j
theorem crF_tr {l2 : Nat} (a : crF h h1 l) (b : crF h1 h2 l2) (hl : l ≤ l2) : crF h h2 l := ⟨fun x x1 x2 => by rw [b.1 x x1 x2]; exact a.1 x x1 x2, fun j hj => by rw [b.2 j (by omega)]; exact a.2 j hj⟩
theorem crF_rf : crF h h l := ⟨fun _ _ _ => rfl, fun _ _ => rfl⟩
/-- the state of reading: place, codes, n -/
def crS (h : Nat → Int → Int) (p l : Nat) (u : Bool) : Prop := h 32 3 = p ∧ h 32 2 = l ∧ h 32 4 = (if u then 1 else 0)
theorem C_readNumber {Q : Option PV → PH → Prop} (hσ : ∀ p : Int, 0 ≤ p → signAt h p = σ p) (hσb : ∀ p : Int, -1 ≤ σ p ∧ σ p ≤ 255) (hp : p ≤ 40) (hs : crS h p l u) (hl : dgt (σ p) → l < 40)
    (hno : ¬ dgt (σ p) → Q (some (pI 0)) (shp0, rf0, h)) (hye : dgt (σ p) → ∀ h2, crF h h2 l → crS h2 (p + nuL σ p) (l + 1) u → h2 33 l = nuV σ p → Q (some (pI 1)) (shp0, rf0, h2)) : RR mX4_readNumber 3 0 0 0 (pm_ent [pR 32, pR 1] 5) [] (shp0, rf0, h) Q := by
  show RR _ _ _ _ _ [pR 32, pR 1, pU, pU, pU] _ _ _
  have rr := isRule_32
  obtain ⟨s1, s2, s3⟩ := hs
  have D : ∀ (g : Nat → Int → Int) (k : Nat), (∀ a, a ≠ 32 → g a = h a) → k ≤ 2 → MT mX7_digitAt 2 [pR 1, pI ((p : Int) + k)] g (some (pI (if dgt (σ ((p : Int) + k)) then σ ((p : Int) + k) - 48 else -1))) g := fun g k hg hk => by
    have e : signAt g ((p : Int) + k) = σ ((p : Int) + k) := by
      rw [← hσ _ (by omega)]
      unfold signAt
      rw [hg 1 (by omega), hg 2 (by omega)]
    have hT := T_X7_digitAt (h := g) (p := (p : Int) + k) (by rw [e]; exact hσb _)
    unfold numAt at hT
    rw [e] at hT
    by_cases q : dgt (σ ((p : Int) + k))
    · rw [if_pos (by unfold dgt at q; omega)] at hT
      rw [if_pos q]; exact hT
    · rw [if_neg (by unfold dgt at q; omega)] at hT
      rw [if_neg q]; exact hT
  /- the end with some digits -/
  have E : ∀ (k : Nat) (z : Int) (g : Nat → Int → Int) (w : PV), l < 40 → 1 ≤ k → k ≤ 3 → 0 ≤ z → z ≤ 999 → g = rup h 32 (fup (h 32) 3 ((p : Int) + k)) → (∀ h2, crF h h2 l → crS h2 (p + k) (l + 1) u → h2 33 l = z → Q (some (pI 1)) (shp0, rf0, h2)) → RR mX4_readNumber 3 0 0 58 [pR 32, pR 1, pI z, pI k, w] [] (shp0, rf0, g) Q := by
    intro k z g w hl k1 k3 z0 z1 hg hq
    have hA := T_add32 (h := g) (l := l) (c := z) (by rw [hg, rup_s, fup_n (by omega)]; exact s2) hl (by omega)
    have hq := hq (rup (rup g 32 (fup (g 32) 2 ((l : Int) + 1))) 33 (fup (g 33) l z)) ⟨fun a a1 a2 => by rw [rup_n a2, rup_n a1, hg, rup_n a1], fun j hj => by rw [rup_s, fup_n (by omega), hg, rup_n (by omega)]⟩ ⟨by rw [rup_n (by omega), rup_s, fup_n (by omega), hg, rup_s, fup_s]; omega, by rw [rup_n (by omega), rup_s, fup_s]; omega, by rw [rup_n (by omega), rup_s, fup_n (by omega), hg, rup_s, fup_n (by omega)]; exact s3⟩ (by rw [rup_s, fup_s])
    generalize rup (rup g 32 (fup (g 32) 2 ((l : Int) + 1))) 33 (fup (g 33) l z) = h9 at *
    clear hye hno D
    refine R_iload_n dX4_readNumber_58 rfl (?_ : RR _ _ _ _ 59 _ _ _ _)
    refine R_if_le (t := 67) dX4_readNumber_59 rfl (fun c59 => ?_) (fun c59 => ?_)
    · exfalso; omega
    refine R_aload_n dX4_readNumber_62 rfl (?_ : RR _ _ _ _ 63 _ _ _ _)
    refine R_iload_n dX4_readNumber_63 rfl (?_ : RR _ _ _ _ 64 _ _ _ _)
    refine R_cVv1 dX4_readNumber_64 mvX4_add mlX4_55 (by decide) (by decide) (Nat.le_of_ble_eq_true rfl) (Nat.le_of_ble_eq_true rfl) (hA) (?_ : RR _ _ _ _ 67 _ _ _ _)
    refine R_iload_n dX4_readNumber_67 rfl (?_ : RR _ _ _ _ 68 _ _ _ _)
    refine R_if_le (t := 75) dX4_readNumber_68 rfl (fun c68 => ?_) (fun c68 => ?_)
    · exfalso; omega
    refine R_iconst dX4_readNumber_71 (?_ : RR _ _ _ _ 72 _ _ _ _)
    refine R_goto (t := 76) dX4_readNumber_72 rfl (?_ : RR _ _ _ _ 76 _ _ _ _)
    exact R_ireturn dX4_readNumber_76 (by first | exact Or.inl rfl | exact Or.inr rfl | exact ok_ite | omega | assumption) hq
  have L : ∀ (k : Nat) (z : Int), k ≤ 2 → 0 ≤ z → z ≤ 99 → (1 ≤ k ∨ dgt (σ p)) → (¬ dgt (σ ((p : Int) + k)) → RR mX4_readNumber 3 0 0 58 [pR 32, pR 1, pI z, pI k, pI k] [] (shp0, rf0, rup h 32 (fup (h 32) 3 ((p : Int) + k))) Q) → (dgt (σ ((p : Int) + k)) → RR mX4_readNumber 3 0 0 7 [pR 32, pR 1, pI (10 * z + (σ ((p : Int) + k) - 48)), pI (k + 1 : Nat), pI (k + 1 : Nat)] [] (shp0, rf0, rup h 32 (fup (h 32) 3 ((p : Int) + (k + 1 : Nat)))) Q) → RR mX4_readNumber 3 0 0 7 [pR 32, pR 1, pI z, pI k, pI k] [] (shp0, rf0, rup h 32 (fup (h 32) 3 ((p : Int) + k))) Q := by
    intro k z hk z0 z1 _ K1 K2
    have hD := D (rup h 32 (fup (h 32) 3 ((p : Int) + k))) k (fun a a1 => by rw [rup_n a1]) hk
    obtain ⟨g, hg⟩ : ∃ g, g = rup h 32 (fup (h 32) 3 ((p : Int) + k)) := ⟨_, rfl⟩
    have ek : rup g 32 (fup (g 32) 3 ((p : Int) + k + 1)) = rup h 32 (fup (h 32) 3 ((p : Int) + (k + 1 : Nat))) := by rw [hg, rup_s, rup_rup, fup_fup, show (p : Int) + k + 1 = (p : Int) + (k + 1 : Nat) by omega]
    have e3 : g 32 3 = (p : Int) + k := by rw [hg, rup_s, fup_s]
    rw [← hg] at hD K1 ⊢
    clear hg
    have hb := hσb ((p : Int) + k)
    clear hye hno D E
    by_cases q : dgt (σ ((p : Int) + k))
    · have K2 := K2 q
      rw [if_pos q] at hD
      rw [← ek, show ((k + 1 : Nat) : Int) = (k : Int) + 1 by omega] at K2
      unfold dgt at q
      clear K1
      generalize σ ((p : Int) + k) = c at *
      refine R_iload dX4_readNumber_7 rfl (?_ : RR _ _ _ _ 9 _ _ _ _)
      refine R_iconst dX4_readNumber_9 (?_ : RR _ _ _ _ 10 _ _ _ _)
      refine R_icmp_ge (t := 58) dX4_readNumber_10 rfl (fun c10 => ?_) (fun c10 => ?_)
      · exfalso; omega
      refine R_aload_n dX4_readNumber_13 rfl (?_ : RR _ _ _ _ 14 _ _ _ _)
      refine R_aload_n dX4_readNumber_14 rfl (?_ : RR _ _ _ _ 15 _ _ _ _)
      refine R_geti (z := 3) dX4_readNumber_15 flX4_51 cok_4 rfl (by decide) rfl (fun q15 => (?_ : RR _ _ _ _ 18 _ _ _ _))
      rw [e3] at q15 ⊢
      refine R_cVi1 dX4_readNumber_18 mvX7_digitAt mlX4_83 (by decide) (by decide) (Nat.le_of_ble_eq_true rfl) (Nat.le_of_ble_eq_true rfl) (hD) (?_ : RR _ _ _ _ 21 _ _ _ _)
      refine R_iconst dX4_readNumber_21 (?_ : RR _ _ _ _ 22 _ _ _ _)
      refine R_icmp_eq (t := 58) dX4_readNumber_22 rfl (fun c22 => ?_) (fun c22 => ?_)
      · exfalso; omega
      refine R_bipush dX4_readNumber_25 rfl (?_ : RR _ _ _ _ 27 _ _ _ _)
      refine R_iload_n dX4_readNumber_27 rfl (?_ : RR _ _ _ _ 28 _ _ _ _)
      refine R_imul dX4_readNumber_28 (?_ : RR _ _ _ _ 29 _ _ _ _)
      refine R_aload_n dX4_readNumber_29 rfl (?_ : RR _ _ _ _ 30 _ _ _ _)
      refine R_aload_n dX4_readNumber_30 rfl (?_ : RR _ _ _ _ 31 _ _ _ _)
      refine R_geti (z := 3) dX4_readNumber_31 flX4_51 cok_4 rfl (by decide) rfl (fun q31 => (?_ : RR _ _ _ _ 34 _ _ _ _))
      rw [e3] at q31 ⊢
      refine R_cVi1 dX4_readNumber_34 mvX7_digitAt mlX4_83 (by decide) (by decide) (Nat.le_of_ble_eq_true rfl) (Nat.le_of_ble_eq_true rfl) (hD) (?_ : RR _ _ _ _ 37 _ _ _ _)
      refine R_iadd dX4_readNumber_37 (?_ : RR _ _ _ _ 38 _ _ _ _)
      refine R_istore_n dX4_readNumber_38 (Nat.le_of_ble_eq_true rfl) (?_ : RR _ _ _ _ 39 [_, _, _, _, _] _ _ _)
      refine R_iinc dX4_readNumber_39 rfl (Nat.le_of_ble_eq_true rfl) (?_ : RR _ _ _ _ 42 [_, _, _, _, _] _ _ _)
      refine R_aload_n dX4_readNumber_42 rfl (?_ : RR _ _ _ _ 43 _ _ _ _)
      refine R_dup dX4_readNumber_43 (fun _ => rfl) (?_ : RR _ _ _ _ 44 _ _ _ _)
      refine R_geti (z := 3) dX4_readNumber_44 flX4_51 cok_4 rfl (by decide) rfl (fun q44 => (?_ : RR _ _ _ _ 47 _ _ _ _))
      rw [e3] at q44 ⊢
      refine R_iconst dX4_readNumber_47 (?_ : RR _ _ _ _ 48 _ _ _ _)
      refine R_iadd dX4_readNumber_48 (?_ : RR _ _ _ _ 49 _ _ _ _)
      refine R_puti (zk := 3) dX4_readNumber_49 flX4_51 cok_4 (by decide) (fun q hq => by cases hq; rfl) rfl (?_ : RR _ _ _ _ 52 _ _ _ _)
      refine R_iinc dX4_readNumber_52 rfl (Nat.le_of_ble_eq_true rfl) (?_ : RR _ _ _ _ 55 [_, _, _, _, _] _ _ _)
      refine R_goto (t := 7) dX4_readNumber_55 rfl (?_ : RR _ _ _ _ 7 _ _ _ _)
      exact K2
    · have K1 := K1 q
      rw [if_neg q] at hD
      clear K2
      refine R_iload dX4_readNumber_7 rfl (?_ : RR _ _ _ _ 9 _ _ _ _)
      refine R_iconst dX4_readNumber_9 (?_ : RR _ _ _ _ 10 _ _ _ _)
      refine R_icmp_ge (t := 58) dX4_readNumber_10 rfl (fun c10 => ?_) (fun c10 => ?_)
      · exfalso; omega
      refine R_aload_n dX4_readNumber_13 rfl (?_ : RR _ _ _ _ 14 _ _ _ _)
      refine R_aload_n dX4_readNumber_14 rfl (?_ : RR _ _ _ _ 15 _ _ _ _)
      refine R_geti (z := 3) dX4_readNumber_15 flX4_51 cok_4 rfl (by decide) rfl (fun q15 => (?_ : RR _ _ _ _ 18 _ _ _ _))
      rw [e3] at q15 ⊢
      refine R_cVi1 dX4_readNumber_18 mvX7_digitAt mlX4_83 (by decide) (by decide) (Nat.le_of_ble_eq_true rfl) (Nat.le_of_ble_eq_true rfl) (hD) (?_ : RR _ _ _ _ 21 _ _ _ _)
      refine R_iconst dX4_readNumber_21 (?_ : RR _ _ _ _ 22 _ _ _ _)
      refine R_icmp_eq (t := 58) dX4_readNumber_22 rfl (fun c22 => ?_) (fun c22 => ?_)
      rotate_left
      · exfalso; omega
      exact K1
  have g0 : rup h 32 (fup (h 32) 3 ((p : Int) + ((0 : Nat) : Int))) = h := by
    rw [show (p : Int) + ((0 : Nat) : Int) = h 32 3 by rw [s1]; omega, fup_self, rup_self]
  have b0 := hσb ((p : Int) + 0)
  have b1 := hσb ((p : Int) + 1)
  have b2 := hσb ((p : Int) + 2)
  by_cases q0 : dgt (σ p)
  · have hye := hye q0
    have q0' : dgt (σ ((p : Int) + ((0 : Nat) : Int))) := by rw [show (p : Int) + ((0 : Nat) : Int) = p by omega]; exact q0
    have K0 := L 0 0 (by omega) (by omega) (by omega) (Or.inr q0) (fun w => absurd q0' w) (fun _ => by
      rw [show (10 : Int) * 0 + (σ ((p : Int) + ((0 : Nat) : Int)) - 48) = σ p - 48 by rw [show (p : Int) + ((0 : Nat) : Int) = p by omega]; omega]
      refine L 1 (σ p - 48) (by omega) (by unfold dgt at q0; omega) (by unfold dgt at q0; omega) (Or.inl (by omega)) (fun w => ?_) (fun w => ?_)
      · have w : ¬ dgt (σ ((p : Int) + 1)) := w
        have e1 : nuL σ p = 1 := by unfold nuL; rw [if_neg w]
        have e2 : nuV σ p = σ p - 48 := by unfold nuV; rw [if_neg w]
        rw [e1, e2] at hye
        exact E 1 (σ p - 48) _ _ (hl q0) (by omega) (by omega) (by unfold dgt at q0; omega) (by unfold dgt at q0; omega) rfl hye
      · have w : dgt (σ ((p : Int) + 1)) := w
        refine L 2 (10 * (σ p - 48) + (σ ((p : Int) + 1) - 48)) (by omega) (by unfold dgt at q0 w; omega) (by unfold dgt at q0 w; omega) (Or.inl (by omega)) (fun w2 => ?_) (fun w2 => ?_)
        · have w2 : ¬ dgt (σ ((p : Int) + 2)) := w2
          have e1 : nuL σ p = 2 := by unfold nuL; rw [if_pos w, if_neg w2]
          have e2 : nuV σ p = 10 * (σ p - 48) + (σ ((p : Int) + 1) - 48) := by unfold nuV; rw [if_pos w, if_neg w2]
          rw [e1, e2] at hye
          exact E 2 (10 * (σ p - 48) + (σ ((p : Int) + 1) - 48)) _ _ (hl q0) (by omega) (by omega) (by unfold dgt at q0 w; omega) (by unfold dgt at q0 w; omega) rfl hye
        · have w2 : dgt (σ ((p : Int) + 2)) := w2
          have e1 : nuL σ p = 3 := by unfold nuL; rw [if_pos w, if_pos w2]
          have e2 : nuV σ p = 10 * (10 * (σ p - 48) + (σ ((p : Int) + 1) - 48)) + (σ ((p : Int) + 2) - 48) := by unfold nuV; rw [if_pos w, if_pos w2]; omega
          rw [e1, e2] at hye
          have K := E 3 (10 * (10 * (σ p - 48) + (σ ((p : Int) + 1) - 48)) + (σ ((p : Int) + 2) - 48)) (rup h 32 (fup (h 32) 3 ((p : Int) + (3 : Nat)))) (pI 3) (hl q0) (by omega) (by omega) (by unfold dgt at q0 w w2; omega) (by unfold dgt at q0 w w2; omega) rfl hye
          clear E L D hye
          have K : RR mX4_readNumber 3 0 0 58 [pR 32, pR 1, pI (10 * (10 * (σ p - 48) + (σ ((p : Int) + 1) - 48)) + (σ ((p : Int) + 2) - 48)), pI 3, pI 3] [] (shp0, rf0, rup h 32 (fup (h 32) 3 ((p : Int) + (3 : Nat)))) Q := K
          show RR mX4_readNumber 3 0 0 7 [pR 32, pR 1, pI (10 * (10 * (σ p - 48) + (σ ((p : Int) + 1) - 48)) + (σ ((p : Int) + 2) - 48)), pI 3, pI 3] [] (shp0, rf0, rup h 32 (fup (h 32) 3 ((p : Int) + (3 : Nat)))) Q
          generalize rup h 32 (fup (h 32) 3 ((p : Int) + (3 : Nat))) = g at *
          generalize 10 * (10 * (σ p - 48) + (σ ((p : Int) + 1) - 48)) + (σ ((p : Int) + 2) - 48) = z at *
          refine R_iload dX4_readNumber_7 rfl (?_ : RR _ _ _ _ 9 _ _ _ _)
          refine R_iconst dX4_readNumber_9 (?_ : RR _ _ _ _ 10 _ _ _ _)
          refine R_icmp_ge (t := 58) dX4_readNumber_10 rfl (fun c10 => ?_) (fun c10 => ?_)
          rotate_left
          · exfalso; omega
          exact K)
    rw [g0] at K0
    have K0 : RR mX4_readNumber 3 0 0 7 [pR 32, pR 1, pI 0, pI 0, pI 0] [] (shp0, rf0, h) Q := K0
    clear L E D hye hno
    refine R_iconst dX4_readNumber_0 (?_ : RR _ _ _ _ 1 _ _ _ _)
    refine R_istore_n dX4_readNumber_1 (Nat.le_of_ble_eq_true rfl) (?_ : RR _ _ _ _ 2 [_, _, _, _, _] _ _ _)
    refine R_iconst dX4_readNumber_2 (?_ : RR _ _ _ _ 3 _ _ _ _)
    refine R_istore_n dX4_readNumber_3 (Nat.le_of_ble_eq_true rfl) (?_ : RR _ _ _ _ 4 [_, _, _, _, _] _ _ _)
    refine R_iconst dX4_readNumber_4 (?_ : RR _ _ _ _ 5 _ _ _ _)
    refine R_istore dX4_readNumber_5 (Nat.le_of_ble_eq_true rfl) (?_ : RR _ _ _ _ 7 [_, _, _, _, _] _ _ _)
    exact K0
  · have hq := hno q0
    have hD := D h 0 (fun _ _ => rfl) (by omega)
    rw [show (p : Int) + ((0 : Nat) : Int) = p by omega, if_neg q0] at hD
    clear L E D hye hno
    refine R_iconst dX4_readNumber_0 (?_ : RR _ _ _ _ 1 _ _ _ _)
    refine R_istore_n dX4_readNumber_1 (Nat.le_of_ble_eq_true rfl) (?_ : RR _ _ _ _ 2 [_, _, _, _, _] _ _ _)
    refine R_iconst dX4_readNumber_2 (?_ : RR _ _ _ _ 3 _ _ _ _)
    refine R_istore_n dX4_readNumber_3 (Nat.le_of_ble_eq_true rfl) (?_ : RR _ _ _ _ 4 [_, _, _, _, _] _ _ _)
    refine R_iconst dX4_readNumber_4 (?_ : RR _ _ _ _ 5 _ _ _ _)
    refine R_istore dX4_readNumber_5 (Nat.le_of_ble_eq_true rfl) (?_ : RR _ _ _ _ 7 [_, _, _, _, _] _ _ _)
    refine R_iload dX4_readNumber_7 rfl (?_ : RR _ _ _ _ 9 _ _ _ _)
    refine R_iconst dX4_readNumber_9 (?_ : RR _ _ _ _ 10 _ _ _ _)
    refine R_icmp_ge (t := 58) dX4_readNumber_10 rfl (fun c10 => ?_) (fun c10 => ?_)
    · exfalso; omega
    refine R_aload_n dX4_readNumber_13 rfl (?_ : RR _ _ _ _ 14 _ _ _ _)
    refine R_aload_n dX4_readNumber_14 rfl (?_ : RR _ _ _ _ 15 _ _ _ _)
    refine R_geti (z := 3) dX4_readNumber_15 flX4_51 cok_4 rfl (by decide) rfl (fun q15 => (?_ : RR _ _ _ _ 18 _ _ _ _))
    rw [s1] at q15 ⊢
    refine R_cVi1 dX4_readNumber_18 mvX7_digitAt mlX4_83 (by decide) (by decide) (Nat.le_of_ble_eq_true rfl) (Nat.le_of_ble_eq_true rfl) (hD) (?_ : RR _ _ _ _ 21 _ _ _ _)
    refine R_iconst dX4_readNumber_21 (?_ : RR _ _ _ _ 22 _ _ _ _)
    refine R_icmp_eq (t := 58) dX4_readNumber_22 rfl (fun c22 => ?_) (fun c22 => ?_)
    rotate_left
    · exfalso; omega
    refine R_iload_n dX4_readNumber_58 rfl (?_ : RR _ _ _ _ 59 _ _ _ _)
    refine R_if_le (t := 67) dX4_readNumber_59 rfl (fun c59 => ?_) (fun c59 => ?_)
    rotate_left
    · exfalso; omega
    refine R_iload_n dX4_readNumber_67 rfl (?_ : RR _ _ _ _ 68 _ _ _ _)
    refine R_if_le (t := 75) dX4_readNumber_68 rfl (fun c68 => ?_) (fun c68 => ?_)
    rotate_left
    · exfalso; omega
    refine R_iconst dX4_readNumber_75 (?_ : RR _ _ _ _ 76 _ _ _ _)
    exact R_ireturn dX4_readNumber_76 (by first | exact Or.inl rfl | exact Or.inr rfl | exact ok_ite | omega | assumption) hq
end RU2
