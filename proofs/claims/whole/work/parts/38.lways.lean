/-! the other's ways -/
def bnM (f : Int → Int) : Prop := ∀ z : Int, 0 ≤ z → z < 81 → 0 ≤ f z ∧ f z ≤ 1000000
theorem bnM_fup {f : Int → Int} {i v : Int} (h : bnM f) (hv : 0 ≤ v ∧ v ≤ 1000000) : bnM (fup f i v) := fun z h1 h2 => by
  unfold fup
  split
  · exact hv
  · exact h z h1 h2
def l1R (a : Int) (b : Nat) (f : Int → Int) : Int → Int := fup f (9 * a + b) (if a = b then 0 else 1000000)
def l1 (H : Nat) (a : Nat) (f : Int → Int) : Int → Int := it (l1R a) f H
def l2B (ex mi : Int → Int) (e : Int) (b : Nat) (f : Int → Int) : Int → Int := fup f (9 * (e / 2) + b) (min (f (9 * (e / 2) + b)) (mi e + f (9 * ex e + b)))
def l2E (ex mi : Int → Int) (H : Nat) (e : Nat) (f : Int → Int) : Int → Int := if ex e < 0 then f else it (l2B ex mi e) f H
def l2 (ex mi : Int → Int) (H : Nat) (_ : Nat) (f : Int → Int) : Int → Int := it (l2E ex mi H) f (2 * H)
def lAll (H : Nat) (ex mi f : Int → Int) : Int → Int := it (l2 ex mi H) (it (l1 H) f H) H
theorem l1_bn {H : Nat} {f : Int → Int} (hB : bnM f) : ∀ a, a ≤ H → bnM (it (l1 H) f a) :=
  it_inv (fun _ => bnM) hB (fun a g ha hg => it_inv (n := H) (fun _ => bnM) hg (fun b g hb hg => bnM_fup hg (by split <;> omega)) H (Nat.le_refl H))
theorem l2B_bn {H : Nat} (hH : H ≤ 9) {ex mi : Int → Int} {e : Int} (he : 0 ≤ e ∧ e < 18) (hE : 0 ≤ ex e ∧ ex e ≤ 8) (hM : 0 ≤ mi e ∧ mi e ≤ 9) {f : Int → Int} (hB : bnM f) : ∀ b, b ≤ H → bnM (it (l2B ex mi e) f b) :=
  it_inv (fun _ => bnM) hB (fun b g hb hg => by
    have h1 := hg (9 * (e / 2) + b) (by omega) (by omega)
    have h2 := hg (9 * ex e + b) (by omega) (by omega)
    exact bnM_fup hg (by omega))
theorem l2E_bn {H : Nat} (hH : H ≤ 9) {ex mi : Int → Int} (hE : exB ex) (hM : miB mi) {f : Int → Int} (hB : bnM f) : ∀ e, e ≤ 2 * H → bnM (it (l2E ex mi H) f e) :=
  it_inv (fun _ => bnM) hB (fun e g he hg => by
    unfold l2E
    have h1 := hE e (by omega) (by omega)
    have h2 := hM e (by omega) (by omega)
    split
    · exact hg
    · exact l2B_bn hH (by omega) (by omega) h2 hg H (by omega))
theorem l2_bn {H : Nat} (hH : H ≤ 9) {ex mi : Int → Int} (hE : exB ex) (hM : miB mi) {f : Int → Int} (hB : bnM f) : ∀ k, k ≤ H → bnM (it (l2 ex mi H) f k) :=
  it_inv (fun _ => bnM) hB (fun k g hk hg => l2E_bn hH hE hM hg (2 * H) (by omega))
theorem T_X12_laysWays {H : Nat} {h : Nat → Int → Int} (hH : h 147 3 = H) (hE : exB (h 149)) (hM : miB (h 150)) (hB : bnM (h 151)) (hH9 : H ≤ 9 := by omega) : MT mX12_laysWays 1 [pR 147] h none (rup h 151 (lAll H (h 149) (h 150) (h 151))) := by
  refine MT.of (fun Q hQ => (?_ : RR mX12_laysWays _ _ _ _ [pR 147, pU, pU, pU, pU] _ _ _))
  unfold lAll at hQ
  generalize hf1 : it (l1 H) (h 151) H = f1 at hQ
  have b1' : bnM f1 := hf1 ▸ l1_bn hB H (by omega)
  have b2 := l2_bn hH9 hE hM b1'
  have L3 : ∀ (m k : Nat) (w2 w3 w4 : PV), k + m = H → RR mX12_laysWays 1 0 0 56 [pR 147, pI k, w2, w3, w4] [] (shp0, rf0, rup h 151 (it (l2 (h 149) (h 150) H) f1 k)) Q := by
    intro m
    induction m with
    | zero =>
      intro k w2 w3 w4 hk
      obtain rfl : k = H := by omega
      refine R_iload_n dX12_laysWays_56 rfl (?_ : RR _ _ _ _ 57 _ _ _ _)
      refine R_aload_n dX12_laysWays_57 rfl (?_ : RR _ _ _ _ 58 _ _ _ _)
      refine R_geti (z := 3) dX12_laysWays_58 flX12_13 cok_12 rfl (by decide) rfl (fun q58 => (?_ : RR _ _ _ _ 61 _ _ _ _))
      try simp (disch := omega) only [rup_rup, rup_sort, rupS_def, rup_s, rup_n, fup_fup, fup_s, fup_n] at q58 ⊢
      rw [hH] at q58 ⊢
      refine R_icmp_ge (t := 169) dX12_laysWays_61 rfl (fun c61 => ?_) (fun c61 => ?_)
      rotate_left
      · exfalso; omega
      exact R_return dX12_laysWays_169 trivial hQ
    | succ m ih =>
      intro k w2 w3 w4 hk
      have bk := l2E_bn (H := H) hH9 hE hM (b2 k (by omega))
      have L4 : ∀ (m2 e : Nat) (w3 w4 : PV), e + m2 = 2 * H → RR mX12_laysWays 1 0 0 66 [pR 147, pI k, pI e, w3, w4] [] (shp0, rf0, rup h 151 (it (l2E (h 149) (h 150) H) (it (l2 (h 149) (h 150) H) f1 k) e)) Q := by
        intro m2
        induction m2 with
        | zero =>
          intro e w3 w4 he
          obtain rfl : e = 2 * H := by omega
          refine R_iload_n dX12_laysWays_66 rfl (?_ : RR _ _ _ _ 67 _ _ _ _)
          refine R_iconst dX12_laysWays_67 (?_ : RR _ _ _ _ 68 _ _ _ _)
          refine R_aload_n dX12_laysWays_68 rfl (?_ : RR _ _ _ _ 69 _ _ _ _)
          refine R_geti (z := 3) dX12_laysWays_69 flX12_13 cok_12 rfl (by decide) rfl (fun q69 => (?_ : RR _ _ _ _ 72 _ _ _ _))
          try simp (disch := omega) only [rup_rup, rup_sort, rupS_def, rup_s, rup_n, fup_fup, fup_s, fup_n] at q69 ⊢
          rw [hH] at q69 ⊢
          refine R_imul dX12_laysWays_72 (?_ : RR _ _ _ _ 73 _ _ _ _)
          refine R_icmp_ge (t := 163) dX12_laysWays_73 rfl (fun c73 => ?_) (fun c73 => ?_)
          rotate_left
          · exfalso; omega
          refine R_iinc dX12_laysWays_163 rfl (Nat.le_of_ble_eq_true rfl) (?_ : RR _ _ _ _ 166 [_, _, _, _, _] _ _ _)
          refine R_goto (t := 56) dX12_laysWays_166 rfl (?_ : RR _ _ _ _ 56 _ _ _ _)
          exact ih (k + 1) _ _ _ (by omega)
        | succ m2 ih2 =>
          intro e w3 w4 he
          have be := bk e (by omega)
          have e9 : it (l2E (h 149) (h 150) H) (it (l2 (h 149) (h 150) H) f1 k) (e + 1) = l2E (h 149) (h 150) H e (it (l2E (h 149) (h 150) H) (it (l2 (h 149) (h 150) H) f1 k) e) := rfl
          have IH := fun w3 w4 => ih2 (e + 1) w3 w4 (by omega)
          rw [e9] at IH
          generalize it (l2E (h 149) (h 150) H) (it (l2 (h 149) (h 150) H) f1 k) e = fe at be IH ⊢
          unfold l2E at IH
          have x1 := hE e (by omega) (by omega)
          have x2 := hM e (by omega) (by omega)
          by_cases hx : h 149 e < 0
          · rw [if_pos hx] at IH
            by_cases hH0 : H = 0
            · exfalso; omega
            refine R_iload_n dX12_laysWays_66 rfl (?_ : RR _ _ _ _ 67 _ _ _ _)
            refine R_iconst dX12_laysWays_67 (?_ : RR _ _ _ _ 68 _ _ _ _)
            refine R_aload_n dX12_laysWays_68 rfl (?_ : RR _ _ _ _ 69 _ _ _ _)
            refine R_geti (z := 3) dX12_laysWays_69 flX12_13 cok_12 rfl (by decide) rfl (fun q69 => (?_ : RR _ _ _ _ 72 _ _ _ _))
            try simp (disch := omega) only [rup_rup, rup_sort, rupS_def, rup_s, rup_n, fup_fup, fup_s, fup_n] at q69 ⊢
            rw [hH] at q69 ⊢
            refine R_imul dX12_laysWays_72 (?_ : RR _ _ _ _ 73 _ _ _ _)
            refine R_icmp_ge (t := 163) dX12_laysWays_73 rfl (fun c73 => ?_) (fun c73 => ?_)
            · exfalso; omega
            refine R_iconst dX12_laysWays_76 (?_ : RR _ _ _ _ 77 _ _ _ _)
            refine R_istore_n dX12_laysWays_77 (Nat.le_of_ble_eq_true rfl) (?_ : RR _ _ _ _ 78 [_, _, _, _, _] _ _ _)
            refine R_iload_n dX12_laysWays_78 rfl (?_ : RR _ _ _ _ 79 _ _ _ _)
            refine R_aload_n dX12_laysWays_79 rfl (?_ : RR _ _ _ _ 80 _ _ _ _)
            refine R_geti (z := 3) dX12_laysWays_80 flX12_13 cok_12 rfl (by decide) rfl (fun q80 => (?_ : RR _ _ _ _ 83 _ _ _ _))
            try simp (disch := omega) only [rup_rup, rup_sort, rupS_def, rup_s, rup_n, fup_fup, fup_s, fup_n] at q80 ⊢
            rw [hH] at q80 ⊢
            refine R_icmp_ge (t := 157) dX12_laysWays_83 rfl (fun c83 => ?_) (fun c83 => ?_)
            · exfalso; omega
            refine R_aload_n dX12_laysWays_86 rfl (?_ : RR _ _ _ _ 87 _ _ _ _)
            refine R_getr dX12_laysWays_87 flX12_17 cok_12 rfl (by decide) (?_ : RR _ _ _ _ 90 _ _ _ _)
            refine R_iload_n dX12_laysWays_90 rfl (?_ : RR _ _ _ _ 91 _ _ _ _)
            refine R_iald dX12_laysWays_91 (fun q91 => (?_ : RR _ _ _ _ 92 _ _ _ _))
            try simp (disch := omega) only [rup_rup, rup_sort, rupS_def, rup_s, rup_n, fup_fup, fup_s, fup_n] at q91 ⊢
            refine R_if_lt (t := 157) dX12_laysWays_92 rfl (fun c92 => ?_) (fun c92 => ?_)
            rotate_left
            · exfalso; omega
            refine R_iinc dX12_laysWays_157 rfl (Nat.le_of_ble_eq_true rfl) (?_ : RR _ _ _ _ 160 [_, _, _, _, _] _ _ _)
            refine R_goto (t := 66) dX12_laysWays_160 rfl (?_ : RR _ _ _ _ 66 _ _ _ _)
            exact IH _ _
          · rw [if_neg hx] at IH
            have bb := l2B_bn (H := H) hH9 (ex := h 149) (mi := h 150) (e := e) (by omega) (by omega) x2 be
            have L5 : ∀ (m3 b : Nat) (w4 : PV), b + m3 = H → RR mX12_laysWays 1 0 0 78 [pR 147, pI k, pI e, pI b, w4] [] (shp0, rf0, rup h 151 (it (l2B (h 149) (h 150) e) fe b)) Q := by
              intro m3
              induction m3 with
              | zero =>
                intro b w4 hb
                obtain rfl : b = H := by omega
                refine R_iload_n dX12_laysWays_78 rfl (?_ : RR _ _ _ _ 79 _ _ _ _)
                refine R_aload_n dX12_laysWays_79 rfl (?_ : RR _ _ _ _ 80 _ _ _ _)
                refine R_geti (z := 3) dX12_laysWays_80 flX12_13 cok_12 rfl (by decide) rfl (fun q80 => (?_ : RR _ _ _ _ 83 _ _ _ _))
                try simp (disch := omega) only [rup_rup, rup_sort, rupS_def, rup_s, rup_n, fup_fup, fup_s, fup_n] at q80 ⊢
                rw [hH] at q80 ⊢
                refine R_icmp_ge (t := 157) dX12_laysWays_83 rfl (fun c83 => ?_) (fun c83 => ?_)
                rotate_left
                · exfalso; omega
                refine R_iinc dX12_laysWays_157 rfl (Nat.le_of_ble_eq_true rfl) (?_ : RR _ _ _ _ 160 [_, _, _, _, _] _ _ _)
                refine R_goto (t := 66) dX12_laysWays_160 rfl (?_ : RR _ _ _ _ 66 _ _ _ _)
                exact IH _ _
              | succ m3 ih3 =>
                intro b w4 hb
                have bbb := bb b (by omega)
                have y1 := bbb (9 * ((e : Int) / 2) + b) (by omega) (by omega)
                have y2 := bbb (9 * h 149 e + b) (by omega) (by omega)
                refine R_iload_n dX12_laysWays_78 rfl (?_ : RR _ _ _ _ 79 _ _ _ _)
                refine R_aload_n dX12_laysWays_79 rfl (?_ : RR _ _ _ _ 80 _ _ _ _)
                refine R_geti (z := 3) dX12_laysWays_80 flX12_13 cok_12 rfl (by decide) rfl (fun q80 => (?_ : RR _ _ _ _ 83 _ _ _ _))
                try simp (disch := omega) only [rup_rup, rup_sort, rupS_def, rup_s, rup_n, fup_fup, fup_s, fup_n] at q80 ⊢
                rw [hH] at q80 ⊢
                refine R_icmp_ge (t := 157) dX12_laysWays_83 rfl (fun c83 => ?_) (fun c83 => ?_)
                · exfalso; omega
                refine R_aload_n dX12_laysWays_86 rfl (?_ : RR _ _ _ _ 87 _ _ _ _)
                refine R_getr dX12_laysWays_87 flX12_17 cok_12 rfl (by decide) (?_ : RR _ _ _ _ 90 _ _ _ _)
                refine R_iload_n dX12_laysWays_90 rfl (?_ : RR _ _ _ _ 91 _ _ _ _)
                refine R_iald dX12_laysWays_91 (fun q91 => (?_ : RR _ _ _ _ 92 _ _ _ _))
                try simp (disch := omega) only [rup_rup, rup_sort, rupS_def, rup_s, rup_n, fup_fup, fup_s, fup_n] at q91 ⊢
                refine R_if_lt (t := 157) dX12_laysWays_92 rfl (fun c92 => ?_) (fun c92 => ?_)
                · exfalso; omega
                refine R_aload_n dX12_laysWays_95 rfl (?_ : RR _ _ _ _ 96 _ _ _ _)
                refine R_getr dX12_laysWays_96 flX12_21 cok_12 rfl (by decide) (?_ : RR _ _ _ _ 99 _ _ _ _)
                refine R_iload_n dX12_laysWays_99 rfl (?_ : RR _ _ _ _ 100 _ _ _ _)
                refine R_iald dX12_laysWays_100 (fun q100 => (?_ : RR _ _ _ _ 101 _ _ _ _))
                try simp (disch := omega) only [rup_rup, rup_sort, rupS_def, rup_s, rup_n, fup_fup, fup_s, fup_n] at q100 ⊢
                refine R_aload_n dX12_laysWays_101 rfl (?_ : RR _ _ _ _ 102 _ _ _ _)
                refine R_getr dX12_laysWays_102 flX12_24 cok_12 rfl (by decide) (?_ : RR _ _ _ _ 105 _ _ _ _)
                refine R_bipush dX12_laysWays_105 rfl (?_ : RR _ _ _ _ 107 _ _ _ _)
                refine R_aload_n dX12_laysWays_107 rfl (?_ : RR _ _ _ _ 108 _ _ _ _)
                refine R_getr dX12_laysWays_108 flX12_17 cok_12 rfl (by decide) (?_ : RR _ _ _ _ 111 _ _ _ _)
                refine R_iload_n dX12_laysWays_111 rfl (?_ : RR _ _ _ _ 112 _ _ _ _)
                refine R_iald dX12_laysWays_112 (fun q112 => (?_ : RR _ _ _ _ 113 _ _ _ _))
                try simp (disch := omega) only [rup_rup, rup_sort, rupS_def, rup_s, rup_n, fup_fup, fup_s, fup_n] at q112 ⊢
                refine R_imul dX12_laysWays_113 (?_ : RR _ _ _ _ 114 _ _ _ _)
                refine R_iload_n dX12_laysWays_114 rfl (?_ : RR _ _ _ _ 115 _ _ _ _)
                refine R_iadd dX12_laysWays_115 (?_ : RR _ _ _ _ 116 _ _ _ _)
                refine R_iald dX12_laysWays_116 (fun q116 => (?_ : RR _ _ _ _ 117 _ _ _ _))
                try simp (disch := omega) only [rup_rup, rup_sort, rupS_def, rup_s, rup_n, fup_fup, fup_s, fup_n] at q116 ⊢
                refine R_iadd dX12_laysWays_117 (?_ : RR _ _ _ _ 118 _ _ _ _)
                refine R_istore dX12_laysWays_118 (Nat.le_of_ble_eq_true rfl) (?_ : RR _ _ _ _ 120 [_, _, _, _, _] _ _ _)
                refine R_aload_n dX12_laysWays_120 rfl (?_ : RR _ _ _ _ 121 _ _ _ _)
                refine R_getr dX12_laysWays_121 flX12_24 cok_12 rfl (by decide) (?_ : RR _ _ _ _ 124 _ _ _ _)
                refine R_bipush dX12_laysWays_124 rfl (?_ : RR _ _ _ _ 126 _ _ _ _)
                refine R_iload_n dX12_laysWays_126 rfl (?_ : RR _ _ _ _ 127 _ _ _ _)
                refine R_iconst dX12_laysWays_127 (?_ : RR _ _ _ _ 128 _ _ _ _)
                refine R_idiv dX12_laysWays_128 (by omega) (by omega) (?_ : RR _ _ _ _ 129 _ _ _ _)
                rw [iDiv_pos (by omega) (by omega) (by omega) (by omega)]
                refine R_imul dX12_laysWays_129 (?_ : RR _ _ _ _ 130 _ _ _ _)
                refine R_iload_n dX12_laysWays_130 rfl (?_ : RR _ _ _ _ 131 _ _ _ _)
                refine R_iadd dX12_laysWays_131 (?_ : RR _ _ _ _ 132 _ _ _ _)
                refine R_aload_n dX12_laysWays_132 rfl (?_ : RR _ _ _ _ 133 _ _ _ _)
                refine R_getr dX12_laysWays_133 flX12_24 cok_12 rfl (by decide) (?_ : RR _ _ _ _ 136 _ _ _ _)
                refine R_bipush dX12_laysWays_136 rfl (?_ : RR _ _ _ _ 138 _ _ _ _)
                refine R_iload_n dX12_laysWays_138 rfl (?_ : RR _ _ _ _ 139 _ _ _ _)
                refine R_iconst dX12_laysWays_139 (?_ : RR _ _ _ _ 140 _ _ _ _)
                refine R_idiv dX12_laysWays_140 (by omega) (by omega) (?_ : RR _ _ _ _ 141 _ _ _ _)
                rw [iDiv_pos (by omega) (by omega) (by omega) (by omega)]
                refine R_imul dX12_laysWays_141 (?_ : RR _ _ _ _ 142 _ _ _ _)
                refine R_iload_n dX12_laysWays_142 rfl (?_ : RR _ _ _ _ 143 _ _ _ _)
                refine R_iadd dX12_laysWays_143 (?_ : RR _ _ _ _ 144 _ _ _ _)
                refine R_iald dX12_laysWays_144 (fun q144 => (?_ : RR _ _ _ _ 145 _ _ _ _))
                try simp (disch := omega) only [rup_rup, rup_sort, rupS_def, rup_s, rup_n, fup_fup, fup_s, fup_n] at q144 ⊢
                refine R_iload dX12_laysWays_145 rfl (?_ : RR _ _ _ _ 147 _ _ _ _)
                refine R_min dX12_laysWays_147 mmX12_139 (by decide) (Nat.le_of_ble_eq_true rfl) (?_ : RR _ _ _ _ 150 _ _ _ _)
                try simp (disch := omega) only [rup_rup, rup_sort, rupS_def, rup_s, rup_n, fup_fup, fup_s, fup_n]
                refine R_iast dX12_laysWays_150 (?_ : RR _ _ _ _ 151 _ _ _ _)
                try simp (disch := omega) only [rup_rup, rup_sort, rupS_def, rup_s, rup_n, fup_fup, fup_s, fup_n]
                refine R_iinc dX12_laysWays_151 rfl (Nat.le_of_ble_eq_true rfl) (?_ : RR _ _ _ _ 154 [_, _, _, _, _] _ _ _)
                refine R_goto (t := 78) dX12_laysWays_154 rfl (?_ : RR _ _ _ _ 78 _ _ _ _)
                exact ih3 (b + 1) _ (by omega)
            refine R_iload_n dX12_laysWays_66 rfl (?_ : RR _ _ _ _ 67 _ _ _ _)
            refine R_iconst dX12_laysWays_67 (?_ : RR _ _ _ _ 68 _ _ _ _)
            refine R_aload_n dX12_laysWays_68 rfl (?_ : RR _ _ _ _ 69 _ _ _ _)
            refine R_geti (z := 3) dX12_laysWays_69 flX12_13 cok_12 rfl (by decide) rfl (fun q69 => (?_ : RR _ _ _ _ 72 _ _ _ _))
            try simp (disch := omega) only [rup_rup, rup_sort, rupS_def, rup_s, rup_n, fup_fup, fup_s, fup_n] at q69 ⊢
            rw [hH] at q69 ⊢
            refine R_imul dX12_laysWays_72 (?_ : RR _ _ _ _ 73 _ _ _ _)
            refine R_icmp_ge (t := 163) dX12_laysWays_73 rfl (fun c73 => ?_) (fun c73 => ?_)
            · exfalso; omega
            refine R_iconst dX12_laysWays_76 (?_ : RR _ _ _ _ 77 _ _ _ _)
            refine R_istore_n dX12_laysWays_77 (Nat.le_of_ble_eq_true rfl) (?_ : RR _ _ _ _ 78 [_, _, _, _, _] _ _ _)
            exact L5 H 0 _ (by omega)
      refine R_iload_n dX12_laysWays_56 rfl (?_ : RR _ _ _ _ 57 _ _ _ _)
      refine R_aload_n dX12_laysWays_57 rfl (?_ : RR _ _ _ _ 58 _ _ _ _)
      refine R_geti (z := 3) dX12_laysWays_58 flX12_13 cok_12 rfl (by decide) rfl (fun q58 => (?_ : RR _ _ _ _ 61 _ _ _ _))
      try simp (disch := omega) only [rup_rup, rup_sort, rupS_def, rup_s, rup_n, fup_fup, fup_s, fup_n] at q58 ⊢
      rw [hH] at q58 ⊢
      refine R_icmp_ge (t := 169) dX12_laysWays_61 rfl (fun c61 => ?_) (fun c61 => ?_)
      · exfalso; omega
      refine R_iconst dX12_laysWays_64 (?_ : RR _ _ _ _ 65 _ _ _ _)
      refine R_istore_n dX12_laysWays_65 (Nat.le_of_ble_eq_true rfl) (?_ : RR _ _ _ _ 66 [_, _, _, _, _] _ _ _)
      exact L4 (2 * H) 0 _ _ (by omega)
  have L1 : ∀ (m a : Nat) (w2 : PV), a + m = H → RR mX12_laysWays 1 0 0 2 [pR 147, pI a, w2, pU, pU] [] (shp0, rf0, rup h 151 (it (l1 H) (h 151) a)) Q := by
    intro m
    induction m with
    | zero =>
      intro a w2 ha
      obtain rfl : a = H := by omega
      rw [hf1]
      refine R_iload_n dX12_laysWays_2 rfl (?_ : RR _ _ _ _ 3 _ _ _ _)
      refine R_aload_n dX12_laysWays_3 rfl (?_ : RR _ _ _ _ 4 _ _ _ _)
      refine R_geti (z := 3) dX12_laysWays_4 flX12_13 cok_12 rfl (by decide) rfl (fun q4 => (?_ : RR _ _ _ _ 7 _ _ _ _))
      try simp (disch := omega) only [rup_rup, rup_sort, rupS_def, rup_s, rup_n, fup_fup, fup_s, fup_n] at q4 ⊢
      rw [hH] at q4 ⊢
      refine R_icmp_ge (t := 54) dX12_laysWays_7 rfl (fun c7 => ?_) (fun c7 => ?_)
      rotate_left
      · exfalso; omega
      refine R_iconst dX12_laysWays_54 (?_ : RR _ _ _ _ 55 _ _ _ _)
      refine R_istore_n dX12_laysWays_55 (Nat.le_of_ble_eq_true rfl) (?_ : RR _ _ _ _ 56 [_, _, _, _, _] _ _ _)
      exact L3 a 0 _ _ _ (by omega)
    | succ m ih =>
      intro a w2 ha
      have L0 : ∀ (m2 b : Nat), b + m2 = H → RR mX12_laysWays 1 0 0 12 [pR 147, pI a, pI b, pU, pU] [] (shp0, rf0, rup h 151 (it (l1R a) (it (l1 H) (h 151) a) b)) Q := by
        intro m2
        induction m2 with
        | zero =>
          intro b hb
          obtain rfl : b = H := by omega
          refine R_iload_n dX12_laysWays_12 rfl (?_ : RR _ _ _ _ 13 _ _ _ _)
          refine R_aload_n dX12_laysWays_13 rfl (?_ : RR _ _ _ _ 14 _ _ _ _)
          refine R_geti (z := 3) dX12_laysWays_14 flX12_13 cok_12 rfl (by decide) rfl (fun q14 => (?_ : RR _ _ _ _ 17 _ _ _ _))
          try simp (disch := omega) only [rup_rup, rup_sort, rupS_def, rup_s, rup_n, fup_fup, fup_s, fup_n] at q14 ⊢
          rw [hH] at q14 ⊢
          refine R_icmp_ge (t := 48) dX12_laysWays_17 rfl (fun c17 => ?_) (fun c17 => ?_)
          rotate_left
          · exfalso; omega
          refine R_iinc dX12_laysWays_48 rfl (Nat.le_of_ble_eq_true rfl) (?_ : RR _ _ _ _ 51 [_, _, _, _, _] _ _ _)
          refine R_goto (t := 2) dX12_laysWays_51 rfl (?_ : RR _ _ _ _ 2 _ _ _ _)
          exact ih (a + 1) _ (by omega)
        | succ m2 ih2 =>
          intro b hb
          have e9 : it (l1R a) (it (l1 H) (h 151) a) (b + 1) = l1R a b (it (l1R a) (it (l1 H) (h 151) a) b) := rfl
          have IH := ih2 (b + 1) (by omega)
          rw [e9] at IH
          unfold l1R at IH
          refine R_iload_n dX12_laysWays_12 rfl (?_ : RR _ _ _ _ 13 _ _ _ _)
          refine R_aload_n dX12_laysWays_13 rfl (?_ : RR _ _ _ _ 14 _ _ _ _)
          refine R_geti (z := 3) dX12_laysWays_14 flX12_13 cok_12 rfl (by decide) rfl (fun q14 => (?_ : RR _ _ _ _ 17 _ _ _ _))
          try simp (disch := omega) only [rup_rup, rup_sort, rupS_def, rup_s, rup_n, fup_fup, fup_s, fup_n] at q14 ⊢
          rw [hH] at q14 ⊢
          refine R_icmp_ge (t := 48) dX12_laysWays_17 rfl (fun c17 => ?_) (fun c17 => ?_)
          · exfalso; omega
          refine R_aload_n dX12_laysWays_20 rfl (?_ : RR _ _ _ _ 21 _ _ _ _)
          refine R_getr dX12_laysWays_21 flX12_24 cok_12 rfl (by decide) (?_ : RR _ _ _ _ 24 _ _ _ _)
          refine R_bipush dX12_laysWays_24 rfl (?_ : RR _ _ _ _ 26 _ _ _ _)
          refine R_iload_n dX12_laysWays_26 rfl (?_ : RR _ _ _ _ 27 _ _ _ _)
          refine R_imul dX12_laysWays_27 (?_ : RR _ _ _ _ 28 _ _ _ _)
          refine R_iload_n dX12_laysWays_28 rfl (?_ : RR _ _ _ _ 29 _ _ _ _)
          refine R_iadd dX12_laysWays_29 (?_ : RR _ _ _ _ 30 _ _ _ _)
          refine R_iload_n dX12_laysWays_30 rfl (?_ : RR _ _ _ _ 31 _ _ _ _)
          refine R_iload_n dX12_laysWays_31 rfl (?_ : RR _ _ _ _ 32 _ _ _ _)
          refine R_icmp_ne (t := 39) dX12_laysWays_32 rfl (fun c32 => ?_) (fun c32 => ?_)
          · rw [if_neg c32] at IH
            refine R_ldc (z := 1000000) dX12_laysWays_39 kwX12_138 (?_ : RR _ _ _ _ 41 _ _ _ _)
            refine R_iast dX12_laysWays_41 (?_ : RR _ _ _ _ 42 _ _ _ _)
            try simp (disch := omega) only [rup_rup, rup_sort, rupS_def, rup_s, rup_n, fup_fup, fup_s, fup_n]
            refine R_iinc dX12_laysWays_42 rfl (Nat.le_of_ble_eq_true rfl) (?_ : RR _ _ _ _ 45 [_, _, _, _, _] _ _ _)
            refine R_goto (t := 12) dX12_laysWays_45 rfl (?_ : RR _ _ _ _ 12 _ _ _ _)
            exact IH
          · rw [if_pos c32] at IH
            refine R_iconst dX12_laysWays_35 (?_ : RR _ _ _ _ 36 _ _ _ _)
            refine R_goto (t := 41) dX12_laysWays_36 rfl (?_ : RR _ _ _ _ 41 _ _ _ _)
            refine R_iast dX12_laysWays_41 (?_ : RR _ _ _ _ 42 _ _ _ _)
            try simp (disch := omega) only [rup_rup, rup_sort, rupS_def, rup_s, rup_n, fup_fup, fup_s, fup_n]
            refine R_iinc dX12_laysWays_42 rfl (Nat.le_of_ble_eq_true rfl) (?_ : RR _ _ _ _ 45 [_, _, _, _, _] _ _ _)
            refine R_goto (t := 12) dX12_laysWays_45 rfl (?_ : RR _ _ _ _ 12 _ _ _ _)
            exact IH
      refine R_iload_n dX12_laysWays_2 rfl (?_ : RR _ _ _ _ 3 _ _ _ _)
      refine R_aload_n dX12_laysWays_3 rfl (?_ : RR _ _ _ _ 4 _ _ _ _)
      refine R_geti (z := 3) dX12_laysWays_4 flX12_13 cok_12 rfl (by decide) rfl (fun q4 => (?_ : RR _ _ _ _ 7 _ _ _ _))
      try simp (disch := omega) only [rup_rup, rup_sort, rupS_def, rup_s, rup_n, fup_fup, fup_s, fup_n] at q4 ⊢
      rw [hH] at q4 ⊢
      refine R_icmp_ge (t := 54) dX12_laysWays_7 rfl (fun c7 => ?_) (fun c7 => ?_)
      · exfalso; omega
      refine R_iconst dX12_laysWays_10 (?_ : RR _ _ _ _ 11 _ _ _ _)
      refine R_istore_n dX12_laysWays_11 (Nat.le_of_ble_eq_true rfl) (?_ : RR _ _ _ _ 12 [_, _, _, _, _] _ _ _)
      exact L0 H 0 (by omega)
  refine R_iconst dX12_laysWays_0 (?_ : RR _ _ _ _ 1 _ _ _ _)
  refine R_istore_n dX12_laysWays_1 (Nat.le_of_ble_eq_true rfl) (?_ : RR _ _ _ _ 2 [_, _, _, _, _] _ _ _)
  have LL := L1 H 0 pU (by omega)
  simp only [it, rup_self] at LL
  exact LL
