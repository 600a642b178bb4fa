/-! the reference's String constants: length, charAt -/
abbrev mJ_length : PMt := (yJ0_length_8abf5, cJ0_length_8abf5, 1, some .int)
abbrev mJ_coder : PMt := (yJ0_coder_7d493, cJ0_coder_7d493, 1, some .byte)
abbrev mJ_isL : PMt := (yJ0_isLatin1_aae02, cJ0_isLatin1_aae02, 1, some .boolean)
abbrev mJ_charAt : PMt := (yJ0_charAt_5068e, cJ0_charAt_5068e, 2, some .char)
abbrev mJ_chL : PMt := (yJ1_charAt_3b067, cJ1_charAt_3b067, 2, some .char)
abbrev mJ_chk : PMt := (yJ0_checkIndex_df160, cJ0_checkIndex_df160, 2, none)
abbrev mJ_pre : PMt := (yJ3_checkIndex_8e157, cJ3_checkIndex_8e157, 3, some .int)
def stN (i : Nat) : Nat := st_len.getD i 0
def stC (i j : Nat) : Int := ((st_byt.getD i []).getD j 0).toInt
theorem stN_e : ∀ i : Nat, i < 6 → (Int32.ofNat (st_len.getD i 0) = Int32.ofInt ((stN i : Nat) : Int) ∧ stN i ≤ 12) := by decide +kernel
theorem stC_e : ∀ i : Nat, i < 6 → ∀ j : Nat, j < stN i → 0 ≤ stC i j ∧ stC i j ≤ 255 := by decide +kernel
def pm_mvS (M : PMt) (n : Nat) : Prop := plainName M.1.cls = true ∧ M.2.2.1 ≤ 45 ∧ (M.1.cls ≠ "java/lang/invoke/MethodHandle" ∧ M.1.cls ≠ "java/lang/invoke/VarHandle" ∧ (parseMethodDescriptor M.1.desc).map (fun d => d.parameters.length) = some n) ∧ Cond.code M.1 M.2.1 M.2.2.1 M.2.2.2 ∈ tblG ∧ Cond.instanceMethod M.1 ∈ tblG ∧ Cond.selects M.1.cls M.1 M.1 ∈ tblG ∧ Cond.initialized M.1.cls ∈ tblG ∧ M.1.cls = "java/lang/String"
theorem va_ldcSW {p : Program} {l : Launch} {e : Env} {R : Room} {s : State} {m : MethodId} {args : Array Value} {below : List Frame} {meth : Method} {c : Code} {H : Heap} {locs : List Loc} {cells slots : Nat} {Q : State → Prop} {cc : ByteArray} {pc : Nat} {ls : Array Slot} {rest : List Value} (hexec : p.tables.exec = Jvm.exec) (hb : c.code = cc) {own tx : String} {index q : Nat} (hown : s.vm.findClass own = some m.cls) (hZ : vk_R own index tx q s) (hdg : decode cc pc = .ok (.ldc_w index, 3))
    (k : W p l e R s m args below meth c H locs cells slots Q (F0 m (pc + 3) ls (.ref q :: rest))) : W p l e R s m args below meth c H locs cells slots Q (F0 m pc ls rest) := by
  intro T hT X
  obtain ⟨t, a1, b1⟩ := k T hT X
  exact ⟨t, X.ldcStringW hexec hown (text := tx) (a := q) hZ.1 hZ.2 (g := F0 m pc ls rest) rfl (by rw [hb]; exact hdg) t a1, b1⟩
section STR
variable {M M2 : PMt} {d d2 kc ks kc2 ks2 pc idx i : Nat} {ls st : List PV} {g : PH} {Q Q2 : Option PV → PH → Prop}
theorem R_ldcS (hi : i < 6) (hM : M.1.cls = "CoachesVoteModel") (hd : decode M.2.1 pc = .ok (.ldc (st_ix i), 2)) (k : RR M d kc ks (pc + 2) ls (pR (1000 + i) :: st) g Q) : RR M d kc ks pc ls st g Q :=
  RR.of (fun hF _ k => va_ldcS hF.1 hF.2.1 (by rw [← hM]; exact hF.2.2.2.2.2.1) (hF.2.2.2.2.2.2.2.2.2.2.1 i hi) hd k) k
theorem R_ldcSW (hi : i < 6) (hM : M.1.cls = "CoachesVoteModel") (hd : decode M.2.1 pc = .ok (.ldc_w (st_ix i), 3)) (k : RR M d kc ks (pc + 3) ls (pR (1000 + i) :: st) g Q) : RR M d kc ks pc ls st g Q :=
  RR.of (fun hF _ k => va_ldcSW hF.1 hF.2.1 (by rw [← hM]; exact hF.2.2.2.2.2.1) (hF.2.2.2.2.2.2.2.2.2.2.1 i hi) hd k) k
theorem R_getSV (hi : i < 6) (hd : decode M.2.1 pc = .ok (.getfield idx, 3)) (hlk : Cond.fieldLink M.1.cls idx "java/lang/String" "value" "[B" ∈ tblG) (kk : RR M d kc ks (pc + 3) ls (pR (1100 + i) :: st) g Q) : RR M d kc ks pc ls (pR (1000 + i) :: st) g Q := by
  intro E p l e R s m args below meth c H locs cells slots Qf L hF h1 h2 h3 h4 hR hS hL hq
  exact vk_getf hF.1 hF.2.1 (hF.2.2.2.2.2.2.2.2.2.1.1 i hi).2.2.1 hS hF.2.2.2.2.2.1 (hF.2.2.2.2.2.2.1 _ hlk) (fun _ x => x) hd (kk E p l e R s m args below meth c H locs cells slots Qf L hF h1 h2 h3 h4 hR hS hL hq)
theorem R_getSC (hi : i < 6) (hd : decode M.2.1 pc = .ok (.getfield idx, 3)) (hlk : Cond.fieldLink M.1.cls idx "java/lang/String" "coder" "B" ∈ tblG) (kk : RR M d kc ks (pc + 3) ls (pI 0 :: st) g Q) : RR M d kc ks pc ls (pR (1000 + i) :: st) g Q := by
  intro E p l e R s m args below meth c H locs cells slots Qf L hF h1 h2 h3 h4 hR hS hL hq
  exact vk_getf hF.1 hF.2.1 (hF.2.2.2.2.2.2.2.2.2.1.1 i hi).2.1 hS hF.2.2.2.2.2.1 (hF.2.2.2.2.2.2.1 _ hlk) (fun _ x => x) hd (kk E p l e R s m args below meth c H locs cells slots Qf L hF h1 h2 h3 h4 hR hS hL hq)
theorem R_alenS (hi : i < 6) (hd : decode M.2.1 pc = .ok (.arraylength, 1)) (kk : RR M d kc ks (pc + 1) ls (pI (stN i) :: st) g Q) : RR M d kc ks pc ls (pR (1100 + i) :: st) g Q := by
  intro E p l e R s m args below meth c H locs cells slots Qf L hF h1 h2 h3 h4 hR hS hL hq
  exact va_tlen hF.1 hF.2.1 (hF.2.2.2.2.2.2.2.2.2.1.1 i hi).2.2.2 hS (stN_e i hi).1 hd (kk E p l e R s m args below meth c H locs cells slots Qf L hF h1 h2 h3 h4 hR hS hL hq)
theorem R_baldS {j : Nat} (hi : i < 6) (hj : j < stN i) (hd : decode M.2.1 pc = .ok (.baload, 1)) (kk : RR M d kc ks (pc + 1) ls (pI (stC i j) :: st) g Q) : RR M d kc ks pc ls (pI j :: pR (1100 + i) :: st) g Q := by
  intro E p l e R s m args below meth c H locs cells slots Qf L hF h1 h2 h3 h4 hR hS hL hq
  have hb := (stN_e i hi).2
  obtain ⟨e1, e2⟩ := pm_inb (i := (j : Int)) (n := stN i) (by omega) (by omega)
  refine va_tb hF.1 hF.2.1 (hF.2.2.2.2.2.2.2.2.2.1.1 i hi).2.2.2 hS e1 (v := tv E (pI (stC i j))) ?_ hd (kk E p l e R s m args below meth c H locs cells slots Qf L hF h1 h2 h3 h4 hR hS hL hq)
  rw [e2]
  show Value.int ((st_byt.getD i []).getD ((j : Int).toNat) 0) = Value.int (Int32.ofInt (stC i j))
  unfold stC
  rw [Int32.ofInt_toInt, show (j : Int).toNat = j by omega]
theorem R_getsCS (hd : decode M.2.1 pc = .ok (.getstatic idx, 3)) (hlk : Cond.fieldLink M.1.cls idx "java/lang/String" "COMPACT_STRINGS" "Z" ∈ tblG) (kk : RR M d kc ks (pc + 3) ls (pI 1 :: st) g Q) : RR M d kc ks pc ls st g Q := by
  intro E p l e R s m args below meth c H locs cells slots Qf L hF h1 h2 h3 h4 hR hS hL hq
  exact va_gets hF.1 hF.2.1 hF.2.2.2.2.2.2.2.2.2.2.2.1 hS hF.2.2.2.2.2.1 (hF.2.2.2.2.2.2.1 _ hlk) (fun _ x => x) hd (kk E p l e R s m args below meth c H locs cells slots Qf L hF h1 h2 h3 h4 hR hS hL hq)
theorem R_getsF (hd : decode M.2.1 pc = .ok (.getstatic idx, 3)) (hlk : Cond.fieldLink M.1.cls idx "jdk/internal/util/Preconditions" "SIOOBE_FORMATTER" "Ljava/util/function/BiFunction;" ∈ tblG) (kk : ∀ v : PV, (v = pU ∨ v = pR 1200) → RR M d kc ks (pc + 3) ls (v :: st) g Q) : RR M d kc ks pc ls st g Q := by
  intro E p l e R s m args below meth c H locs cells slots Qf L hF h1 h2 h3 h4 hR hS hL hq
  rcases hF.2.2.2.2.2.2.2.2.2.2.2.2 with z | z
  · exact va_gets hF.1 hF.2.1 z hS hF.2.2.2.2.2.1 (hF.2.2.2.2.2.2.1 _ hlk) (fun _ x => x) hd (kk pU (Or.inl rfl) E p l e R s m args below meth c H locs cells slots Qf L hF h1 h2 h3 h4 hR hS hL hq)
  · exact va_gets hF.1 hF.2.1 z hS hF.2.2.2.2.2.1 (hF.2.2.2.2.2.2.1 _ hlk) (fun _ x => x) hd (kk (pR 1200) (Or.inr rfl) E p l e R s m args below meth c H locs cells slots Qf L hF h1 h2 h3 h4 hR hS hL hq)
theorem i2c_n : ∀ n : Fin 256, ((Int32.ofInt ((n.val : Nat) : Int)).toUInt32 % 65536).toInt32 = Int32.ofInt ((n.val : Nat) : Int) := by decide +kernel
theorem R_i2c {z : Int} (hz : 0 ≤ z ∧ z ≤ 255) (hd : decode M.2.1 pc = .ok (.i2c, 1)) (k : RR M d kc ks (pc + 1) ls (pI z :: st) g Q) : RR M d kc ks pc ls (pI z :: st) g Q :=
  RR.of (fun hF _ k => lv_i2c hF.1 hF.2.1 hd (v := Int32.ofInt z) (by
    have := i2c_n ⟨z.toNat, by omega⟩
    rw [show ((z.toNat : Nat) : Int) = z by omega] at this
    exact this) k) k
theorem R_callVS {n : Nat} {As st0 : List PV} (hi : i < 6) (hd : decode M.2.1 pc = .ok (.invokevirtual idx, 3)) (hm : pm_mvS M2 n) (hlk : Cond.methodLink M.1.cls idx M2.1 ∈ tblG) (hst : st0 = As.reverse ++ pR (1000 + i) :: st) (hn : As.length = n) (hcat : pm_cat st ≤ 8) (hlen : (pm_sl (pR (1000 + i) :: As)).length ≤ M2.2.2.1) (hdd : d2 + 1 ≤ d)
    (hcall : RR M2 d2 kc2 ks2 0 (pm_ent (pR (1000 + i) :: As) M2.2.2.1) [] g Q2)
    (kk : ∀ r g', Q2 r g' → pm_ok M2.2.2.2 r → RR M d kc ks (pc + 3) ls (r.toList ++ st) g' Q) : RR M d (kc2 + kc) (ks2 + ks) pc ls st0 g Q := by
  intro E p l e R s m args below meth c H locs cells slots Qf L hF h1 h2 h3 h4 hR hS hL hq
  obtain ⟨m1, m2, m3, m4, m5, m6, m7, m9⟩ := hm
  subst hst
  obtain ⟨f1, f2, f3, f4, f5, f6, f7, f8, f9, f10⟩ := id hF
  have hmet := pm_met hcall hlen m1 E l
  have hG : GoodIn tblG (wsV M.1.cls idx M2.1.cls M2.1 (Cond.code M2.1 M2.2.1 M2.2.2.1 M2.2.2.2 :: tblG)) := by
    intro w hw
    have : w ∈ tblG := by
      simp only [wsV, List.cons_append, List.nil_append, List.mem_cons] at hw
      rcases hw with rfl | rfl | rfl | rfl | rfl | hw
      · exact hlk
      · exact m5
      · exact m6
      · exact m7
      · exact m4
      · exact hw
    exact tblG_good w this
  have hrec := vk_recv f10.1 hi hS
  rw [← m9] at hrec
  have cw := cwV (own := M.1.cls) (index := idx) (C := M2.1.cls) (R := R) (rm := pm_rm d2 kc2 ks2) (mc := kc2) (ms := ks2) n f7 hG rfl rfl rfl ⟨rfl, m3⟩ ⟨by show d2 + 1 ≤ R.frames; omega, by show 8 + (M2.2.2.1 + 11) + 64 * d2 ≤ R.locals; omega⟩
  have run := va_runV (p := p) (e := e) (below := below) (meth := meth) (H := H) (locs := locs) (cells := cells) (slots := slots) (g := F0 m pc L ((As.reverse ++ pR (1000 + i) :: st).map (tv E))) (As := As.map (tv E)) (b := E.2.2.1 (1000 + i)) (rest := st.map (tv E)) ⟨f1, f2, f3, f6, f7⟩ hmet cw ⟨pm_blind E g _, hrec, pm_blind2 (As := pR (1000 + i) :: As) f8 hR (Nat.le_trans f9 hS.1) f10 hS.2.1⟩ rfl (by rw [List.length_map]; exact hn) hL.1 (by simp [tv]) (lv_room (by rw [pm_cat_eq]; exact hcat)) hd ⟨by omega, by omega⟩
  refine pm_after (M2 := M2) run hS (fun r g' H' locs' hQ2 hok hRel' hS' => ?_)
  exact kk r g' hQ2 hok E p l e R s m args below meth c H' locs' _ _ Qf L hF h1 h2 (by omega) (by omega) hRel' hS' hL (fun r2 g2 H2 l2 pc2 L2 x1 x2 x3 x4 x5 => by rw [Nat.add_assoc, Nat.add_assoc]; exact hq r2 g2 H2 l2 pc2 L2 x1 x2 x3 x4 x5)
theorem R_cVS0 {v : Int} {h : Nat → Int → Int} (hi : i < 6) (hd : decode M.2.1 pc = .ok (.invokevirtual idx, 3)) (hm : pm_mvS M2 0) (hlk : Cond.methodLink M.1.cls idx M2.1 ∈ tblG) (hcat : pm_cat st ≤ 8) (hlen : (pm_sl [pR (1000 + i)]).length ≤ M2.2.2.1) (hdd : d2 + 1 ≤ d) (hcall : MT M2 d2 [pR (1000 + i)] h (some (pI v)) h) (kk : RR M d 0 0 (pc + 3) ls (pI v :: st) (shp0, rf0, h) Q) : RR M d 0 0 pc ls (pR (1000 + i) :: st) (shp0, rf0, h) Q :=
  R_callVS (kc := 0) (ks := 0) (kc2 := 0) (ks2 := 0) (As := []) hi hd hm hlk rfl rfl hcat hlen hdd hcall (fun r g' q _ => by obtain ⟨rfl, rfl⟩ := q; exact kk)
theorem R_cVS1 {v : Int} {x1 : PV} {h : Nat → Int → Int} (hi : i < 6) (hd : decode M.2.1 pc = .ok (.invokevirtual idx, 3)) (hm : pm_mvS M2 1) (hlk : Cond.methodLink M.1.cls idx M2.1 ∈ tblG) (hcat : pm_cat st ≤ 8) (hlen : (pm_sl [pR (1000 + i), x1]).length ≤ M2.2.2.1) (hdd : d2 + 1 ≤ d) (hcall : MT M2 d2 [pR (1000 + i), x1] h (some (pI v)) h) (kk : RR M d 0 0 (pc + 3) ls (pI v :: st) (shp0, rf0, h) Q) : RR M d 0 0 pc ls (x1 :: pR (1000 + i) :: st) (shp0, rf0, h) Q :=
  R_callVS (kc := 0) (ks := 0) (kc2 := 0) (ks2 := 0) (As := [x1]) hi hd hm hlk rfl rfl hcat hlen hdd hcall (fun r g' q _ => by obtain ⟨rfl, rfl⟩ := q; exact kk)
end STR
section STM
variable {h : Nat → Int → Int} {i j : Nat}
theorem mvJ_coder : pm_mvS mJ_coder 0 := ⟨by decide +kernel, by decide, ⟨by decide +kernel, by decide +kernel, by decide +kernel⟩, gw_t (tb_6 180 rfl) rfl, gw_t (tb_6 178 rfl) rfl, gw_t (tb_6 179 rfl) rfl, gw_t (tb_1 16 rfl) rfl, rfl⟩
theorem mvJ_length : pm_mvS mJ_length 0 := ⟨by decide +kernel, by decide, ⟨by decide +kernel, by decide +kernel, by decide +kernel⟩, gw_t (tb_6 176 rfl) rfl, gw_t (tb_6 174 rfl) rfl, gw_t (tb_6 175 rfl) rfl, gw_t (tb_1 16 rfl) rfl, rfl⟩
theorem mvJ_isL : pm_mvS mJ_isL 0 := ⟨by decide +kernel, by decide, ⟨by decide +kernel, by decide +kernel, by decide +kernel⟩, gw_t (tb_6 190 rfl) rfl, gw_t (tb_6 188 rfl) rfl, gw_t (tb_6 189 rfl) rfl, gw_t (tb_1 16 rfl) rfl, rfl⟩
theorem mvJ_charAt : pm_mvS mJ_charAt 1 := ⟨by decide +kernel, by decide, ⟨by decide +kernel, by decide +kernel, by decide +kernel⟩, gw_t (tb_6 186 rfl) rfl, gw_t (tb_6 184 rfl) rfl, gw_t (tb_6 185 rfl) rfl, gw_t (tb_1 16 rfl) rfl, rfl⟩
theorem msJ_chL : pm_ms mJ_chL 2 := ⟨by decide +kernel, by decide, ⟨by decide +kernel, by decide +kernel, by decide +kernel⟩, gw_t (tb_6 193 rfl) rfl, gw_t (tb_6 192 rfl) rfl, gw_t (tb_1 17 rfl) rfl⟩
theorem msJ_chk : pm_ms mJ_chk 2 := ⟨by decide +kernel, by decide, ⟨by decide +kernel, by decide +kernel, by decide +kernel⟩, gw_t (tb_6 196 rfl) rfl, gw_t (tb_6 195 rfl) rfl, gw_t (tb_1 16 rfl) rfl⟩
theorem msJ_pre : pm_ms mJ_pre 3 := ⟨by decide +kernel, by decide, ⟨by decide +kernel, by decide +kernel, by decide +kernel⟩, gw_t (tb_6 201 rfl) rfl, gw_t (tb_6 200 rfl) rfl, gw_t (tb_1 18 rfl) rfl⟩
theorem T_coder (hi : i < 6) : MT mJ_coder 0 [pR (1000 + i)] h (some (pI 0)) h := by
  refine MT.of (fun Q hQ => (?_ : RR mJ_coder _ _ _ _ [pR (1000 + i)] _ _ _))
  refine R_getsCS (idx := 38) (by decide +kernel) (gw_t (tb_6 181 rfl) rfl) ?_
  refine R_if_eq (off := 10) (t := 13) (by decide +kernel) (by decide) (fun q => absurd q (by decide)) (fun _ => ?_) ⟨by decide, by decide⟩
  refine R_aload_n (n := 0) (by decide +kernel) rfl ?_
  refine R_getSC (idx := 15) hi (by decide +kernel) (gw_t (tb_8 141 rfl) rfl) ?_
  refine R_goto (off := 4) (t := 14) (by decide +kernel) (by decide) ?_
  exact R_ireturn (by decide +kernel) rfl hQ
theorem T_isL (hi : i < 6) : MT mJ_isL 0 [pR (1000 + i)] h (some (pI 1)) h := by
  refine MT.of (fun Q hQ => (?_ : RR mJ_isL _ _ _ _ [pR (1000 + i)] _ _ _))
  refine R_getsCS (idx := 38) (by decide +kernel) (gw_t (tb_6 181 rfl) rfl) ?_
  refine R_if_eq (off := 14) (t := 17) (by decide +kernel) (by decide) (fun q => absurd q (by decide)) (fun _ => ?_) ⟨by decide, by decide⟩
  refine R_aload_n (n := 0) (by decide +kernel) rfl ?_
  refine R_getSC (idx := 15) hi (by decide +kernel) (gw_t (tb_8 141 rfl) rfl) ?_
  refine R_if_ne (off := 7) (t := 17) (by decide +kernel) (by decide) (fun q => absurd rfl q) (fun _ => ?_) ⟨by decide, by decide⟩
  refine R_iconst (z := 1) (by decide +kernel) ?_
  refine R_goto (off := 4) (t := 18) (by decide +kernel) (by decide) ?_
  exact R_ireturn (by decide +kernel) (Or.inr rfl) hQ
theorem iShr_0 : ∀ n : Fin 13, iShr ((n.val : Nat) : Int) 0 = ((n.val : Nat) : Int) := by decide +kernel
theorem T_length (hi : i < 6) : MT mJ_length 1 [pR (1000 + i)] h (some (pI (stN i))) h := by
  refine MT.of (fun Q hQ => (?_ : RR mJ_length _ _ _ _ [pR (1000 + i)] _ _ _))
  refine R_aload_n (n := 0) (by decide +kernel) rfl ?_
  refine R_getSV (idx := 9) hi (by decide +kernel) (gw_t (tb_8 140 rfl) rfl) ?_
  refine R_alenS hi (by decide +kernel) ?_
  refine R_aload_n (n := 0) (by decide +kernel) rfl ?_
  refine R_cVS0 (M2 := mJ_coder) (idx := 335) (d2 := 0) hi (by decide +kernel) mvJ_coder (gw_t (tb_6 177 rfl) rfl) (Nat.le_of_ble_eq_true rfl) (Nat.le_of_ble_eq_true rfl) (Nat.le_of_ble_eq_true rfl) (T_coder hi) ?_
  refine R_ishr (by decide +kernel) ?_
  rw [iShr_0 ⟨stN i, by have := (stN_e i hi).2; omega⟩]
  exact R_ireturn (by decide +kernel) trivial hQ
theorem T_pre {n : Nat} {v : PV} (hv : v = pU ∨ v = pR 1200) (hj : j < n) (hn : n ≤ 12) : MT mJ_pre 0 [pI j, pI n, v] h (some (pI j)) h := by
  refine MT.of (fun Q hQ => (?_ : RR mJ_pre _ _ _ _ _ _ _ _))
  have he : pm_ent [pI (j : Int), pI (n : Int), v] mJ_pre.2.2.1 = [pI j, pI n, v] := by rcases hv with rfl | rfl <;> rfl
  rw [he]
  refine R_iload_n (n := 0) (by decide +kernel) rfl ?_
  refine R_if_lt (off := 8) (t := 9) (by decide +kernel) (by decide) (fun q => by omega) (fun _ => ?_) (by omega)
  refine R_iload_n (n := 0) (by decide +kernel) rfl ?_
  refine R_iload_n (n := 1) (by decide +kernel) rfl ?_
  refine R_icmp_lt (off := 10) (t := 16) (by decide +kernel) (by decide) (fun _ => ?_) (fun q => by omega) (by omega) (by omega)
  refine R_iload_n (n := 0) (by decide +kernel) rfl ?_
  exact R_ireturn (by decide +kernel) trivial hQ
theorem T_chk {n : Nat} (hj : j < n) (hn : n ≤ 12) : MT mJ_chk 1 [pI j, pI n] h none h := by
  refine MT.of (fun Q hQ => (?_ : RR mJ_chk _ _ _ _ [pI j, pI n] _ _ _))
  refine R_iload_n (n := 0) (by decide +kernel) rfl ?_
  refine R_iload_n (n := 1) (by decide +kernel) rfl ?_
  refine R_getsF (idx := 1053) (by decide +kernel) (gw_t (tb_6 197 rfl) rfl) (fun v hv => ?_)
  refine R_cSi3 (M2 := mJ_pre) (idx := 1059) (d2 := 0) (by decide +kernel) msJ_pre (gw_t (tb_6 199 rfl) rfl) (Nat.le_of_ble_eq_true rfl) (Nat.le_of_ble_eq_true rfl) (by rcases hv with rfl | rfl <;> exact Nat.le_of_ble_eq_true rfl) (T_pre hv hj hn) ?_
  refine R_pop (by decide +kernel) (fun _ => rfl) ?_
  exact R_return (by decide +kernel) trivial hQ
theorem iAnd_c : ∀ n : Fin 256, iAnd ((n.val : Nat) : Int) 255 = ((n.val : Nat) : Int) := by decide +kernel
theorem T_chL (hi : i < 6) (hj : j < stN i) : MT mJ_chL 2 [pR (1100 + i), pI j] h (some (pI (stC i j))) h := by
  refine MT.of (fun Q hQ => (?_ : RR mJ_chL _ _ _ _ [pR (1100 + i), pI j] _ _ _))
  have hc := stC_e i hi j hj
  refine R_iload_n (n := 1) (by decide +kernel) rfl ?_
  refine R_aload_n (n := 0) (by decide +kernel) rfl ?_
  refine R_alenS hi (by decide +kernel) ?_
  refine R_cSv2 (M2 := mJ_chk) (idx := 9) (d2 := 1) (by decide +kernel) msJ_chk (gw_t (tb_6 194 rfl) rfl) (Nat.le_of_ble_eq_true rfl) (Nat.le_of_ble_eq_true rfl) (Nat.le_of_ble_eq_true rfl) (T_chk hj (stN_e i hi).2) ?_
  refine R_aload_n (n := 0) (by decide +kernel) rfl ?_
  refine R_iload_n (n := 1) (by decide +kernel) rfl ?_
  refine R_baldS hi hj (by decide +kernel) ?_
  refine R_sipush (z := 255) (by decide +kernel) (by decide +kernel) ?_
  refine R_iand (by decide +kernel) ?_
  have e := iAnd_c ⟨(stC i j).toNat, by omega⟩
  rw [show (((stC i j).toNat : Nat) : Int) = stC i j by omega] at e
  rw [e]
  refine R_i2c hc (by decide +kernel) ?_
  exact R_ireturn (by decide +kernel) hc hQ
theorem T_charAt (hi : i < 6) (hj : j < stN i) : MT mJ_charAt 3 [pR (1000 + i), pI j] h (some (pI (stC i j))) h := by
  refine MT.of (fun Q hQ => (?_ : RR mJ_charAt _ _ _ _ [pR (1000 + i), pI j] _ _ _))
  have hc := stC_e i hi j hj
  refine R_aload_n (n := 0) (by decide +kernel) rfl ?_
  refine R_cVS0 (M2 := mJ_isL) (idx := 492) (d2 := 0) hi (by decide +kernel) mvJ_isL (gw_t (tb_6 187 rfl) rfl) (Nat.le_of_ble_eq_true rfl) (Nat.le_of_ble_eq_true rfl) (Nat.le_of_ble_eq_true rfl) (T_isL hi) ?_
  refine R_if_eq (off := 12) (t := 16) (by decide +kernel) (by decide) (fun q => absurd q (by decide)) (fun _ => ?_) ⟨by decide, by decide⟩
  refine R_aload_n (n := 0) (by decide +kernel) rfl ?_
  refine R_getSV (idx := 9) hi (by decide +kernel) (gw_t (tb_8 140 rfl) rfl) ?_
  refine R_iload_n (n := 1) (by decide +kernel) rfl ?_
  refine R_cSi2 (M2 := mJ_chL) (idx := 495) (d2 := 2) (by decide +kernel) msJ_chL (gw_t (tb_6 191 rfl) rfl) (Nat.le_of_ble_eq_true rfl) (Nat.le_of_ble_eq_true rfl) (Nat.le_of_ble_eq_true rfl) (T_chL hi hj) ?_
  exact R_ireturn (by decide +kernel) hc hQ
end STM
