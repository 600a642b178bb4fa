/-! the told rows, as lists (the last number first) -/
def tlR (h : Nat → Int → Int) : List Int → Nat → Int → Int
  | [] => rup h 145 (fup (h 145) 1 0)
  | x :: L => rup (rup (tlR h L) 145 (fup (tlR h L 145) 1 ((L.length : Int) + 1))) 146 (fup (tlR h L 146) (L.length : Int) x)
def tmR (h : Nat → Int → Int) : List Int → Nat → Int → Int
  | [] => rup h 147 (fup (h 147) 1 0)
  | x :: L => rup (rup (tmR h L) 147 (fup (tmR h L 147) 1 ((L.length : Int) + 1))) 148 (fup (tmR h L 148) (L.length : Int) x)
section TL
variable {h h3 h4 h5 : Nat → Int → Int} {L L' : List Int} {z : Int}
theorem tlR_n {a : Nat} (h1 : a ≠ 145) (h2 : a ≠ 146) : tlR h L a = h a := by
  induction L with
  | nil => exact rup_n h1
  | cons x L ih =>
    show rup (rup (tlR h L) 145 _) 146 _ a = _
    rw [rup_n h2, rup_n h1, ih]
theorem tlR_l : tlR h L 145 1 = (L.length : Int) := by
  cases L with
  | nil =>
    show rup h 145 (fup (h 145) 1 0) 145 1 = _
    rw [rup_s, fup_s]
    rfl
  | cons x L =>
    show rup (rup (tlR h L) 145 _) 146 _ 145 1 = _
    rw [rup_n (by omega), rup_s, fup_s]
    rfl
theorem tmR_n {a : Nat} (h1 : a ≠ 147) (h2 : a ≠ 148) : tmR h L a = h a := by
  induction L with
  | nil => exact rup_n h1
  | cons x L ih =>
    show rup (rup (tmR h L) 147 _) 148 _ a = _
    rw [rup_n h2, rup_n h1, ih]
theorem tmR_j {j : Int} (hj : j ≠ 1) : tmR h L 147 j = h 147 j := by
  induction L with
  | nil =>
    show rup h 147 _ 147 j = _
    rw [rup_s, fup_n hj]
  | cons x L ih =>
    show rup (rup (tmR h L) 147 _) 148 _ 147 j = _
    rw [rup_n (by omega), rup_s, fup_n hj, ih]
theorem tmR_l : tmR h L 147 1 = (L.length : Int) := by
  cases L with
  | nil =>
    show rup h 147 (fup (h 147) 1 0) 147 1 = _
    rw [rup_s, fup_s]
    rfl
  | cons x L =>
    show rup (rup (tmR h L) 147 _) 148 _ 147 1 = _
    rw [rup_n (by omega), rup_s, fup_s]
    rfl
theorem T_tlc : MT mX3_clear 0 [pR 145] h none (tlR h []) := T_X3_clear
theorem T_tla (hL : L.length < 12) (hz : r64 z) : MT mX3_add 0 [pR 145, pL z] (tlR h L) none (tlR h (z :: L)) := T_X3_add tlR_l hL hz
theorem T_tma (hL : L.length < 24) (hz : r64 z) : MT mX12_enters 0 [pR 147, pL z] (tmR h L) none (tmR h (z :: L)) := T_X12_enters tmR_l hL hz
theorem tlR_i : ∀ (L : List Int) (i : Nat), i < L.length → tlR h L 146 i = L.reverse.getD i 0
  | [], i, hi => by simp at hi
  | x :: L, i, hi => by
    show rup (rup (tlR h L) 145 _) 146 (fup (tlR h L 146) (L.length : Int) x) 146 i = _
    rw [rup_s, List.reverse_cons]
    by_cases q : i < L.length
    · rw [fup_n (by omega), tlR_i L i q, List.getD_eq_getElem?_getD, List.getD_eq_getElem?_getD, List.getElem?_append_left (by rw [List.length_reverse]; exact q)]
    · have : i = L.length := by simp at hi; omega
      subst this
      rw [fup_s, List.getD_eq_getElem?_getD, List.getElem?_append_right (by rw [List.length_reverse]; omega), List.length_reverse, Nat.sub_self]
      rfl
theorem tmR_i : ∀ (L : List Int) (i : Nat), i < L.length → tmR h L 148 i = L.reverse.getD i 0
  | [], i, hi => by simp at hi
  | x :: L, i, hi => by
    show rup (rup (tmR h L) 147 _) 148 (fup (tmR h L 148) (L.length : Int) x) 148 i = _
    rw [rup_s, List.reverse_cons]
    by_cases q : i < L.length
    · rw [fup_n (by omega), tmR_i L i q, List.getD_eq_getElem?_getD, List.getD_eq_getElem?_getD, List.getElem?_append_left (by rw [List.length_reverse]; exact q)]
    · have : i = L.length := by simp at hi; omega
      subst this
      rw [fup_s, List.getD_eq_getElem?_getD, List.getElem?_append_right (by rw [List.length_reverse]; omega), List.length_reverse, Nat.sub_self]
      rfl
theorem tlR_C (e : L.reverse = L') : tC L' (tlR h L) := by
  subst e
  exact ⟨by rw [tlR_l, List.length_reverse], fun i hi => tlR_i L i (by rw [List.length_reverse] at hi; exact hi)⟩
theorem tmR_M (e : L.reverse = L') : tM L' (tmR h L) := by
  subst e
  exact ⟨by rw [tmR_l, List.length_reverse], fun i hi => tmR_i L i (by rw [List.length_reverse] at hi; exact hi)⟩
theorem cQ_tl (hf : cqF h h3) (e : L.reverse = L') : cQ h z (some L') (some (pI z)) (shp0, rf0, tlR h3 L) := ⟨_, rfl, rfl, fun a q => (tlR_n (by omega) (by omega)).trans (hf a q), tlR_C e⟩
theorem mQ_tm (hm : mqF h h3) (e : L.reverse = L') : mQ h z (some L') (some (pI z)) (shp0, rf0, tmR h3 L) := ⟨_, rfl, rfl, mq_told hm (fun a a1 a2 => tmR_n a1 a2) (fun j hj => tmR_j hj), tmR_M e⟩
end TL
section CR
variable {k : Nat} {h h3 h4 : Nat → Int → Int} {sem : Sem} {H np nc len : Nat} {v : Int}
/-- the rider's words at the row of now, whatever scratch rows hold -/
theorem mOK_s (hs : SRx k h sem H np nc len) (e : ∀ a, (149 ≤ a ∧ a ≤ 154) → h4 a = h a) : mOK h4 154 np := by
  have eX : cxM sem h4 np nc = cxM sem h np nc := cxM_fr (fun a a1 a2 => e a (by omega))
  exact mOK_of (sem := sem) (np := np) (nc := nc) (H := H) (r := 154) (ord := h (14 + 1)) (len := len) (by rw [eX]; exact hs.1.2.2.2.2.1) (by rw [eX, e 154 (by omega)]; exact hs.2.2.2.1.1.1)
theorem A_course (hs : SRx k h sem H np nc len) (hk : k ≤ 1000) : AG mX11_course mX12_course 5 9 [] k h := by
  have x6 := sR6 hs
  have x12 := sR12 hs
  have hX := hs.1.2.2.2.2.1
  have hn := hs.2.2.2.1.2.1
  have hc := hs.2.2.2.1.1
  obtain ⟨X, hXe⟩ : ∃ X, X = cxM sem h np nc := ⟨_, rfl⟩
  obtain ⟨lf, hlf⟩ : ∃ lf : Int, lf = (if xCrs X (h 154) 0 ≠ 2 ∧ 0 ≤ xE X (2 * h 154 0 + xCrs X (h 154) 0) then (bset (lefP (h 154) (xAl X (h 154) (xLn X (h 154)) (xCrs X (h 154) 0))) (xC X) : Int) else 0) := ⟨_, rfl⟩
  obtain ⟨po, hpo⟩ : ∃ po : Int → Int, po = poS (ridP (h 154)) (xV X (h 154)) (xWi X (h 154)) (xP X) := ⟨_, rfl⟩
  obtain ⟨z, hz⟩ : ∃ z, z = (aRu X (h 154)).1 := ⟨_, rfl⟩
  refine A_q hs (z := z) (o := some [lf, po 0, po 1, po 2]) ?_ (fun h3 e => ?_) (fun L e => by injection e with e; subst e; exact (by omega : 4 ≤ 12))
  · show RR _ _ _ _ _ [pR 0, pU, pU] _ _ _
    have t14 := isTr_14
    have t24 := isTr_24
    obtain ⟨k1, k2, k3, k4⟩ := tri hs
    have hT := C_once (bh := 0) hX k3 k1 (by omega) (Or.inl rfl)
    rw [← hXe] at hT
    have K : ∀ h2 : Nat → Int → Int, onF 24 29 (trC h 24 14) h2 → h2 35 1 = lf → (∀ j, 0 ≤ j ∧ j < 3 → h2 40 j = po j) → RR mX11_course 5 0 0 35 [pR 0, pU, pU] [pI z] (shp0, rf0, h2) (cQ h z (some [lf, po 0, po 1, po 2])) := by
      intro h2 hf2 e35 e40
      refine R_istore_n dX11_course_35 (Nat.le_of_ble_eq_true rfl) (?_ : RR _ _ _ _ 36 [_, _, _] _ _ _)
      refine R_aload_n dX11_course_36 rfl (?_ : RR _ _ _ _ 37 _ _ _ _)
      refine R_getr dX11_course_37 flX11_87 cok_11 rfl (by decide) (?_ : RR _ _ _ _ 40 _ _ _ _)
      refine R_cVv0 dX11_course_40 mvX3_clear mlX11_239 (by decide) (by decide) (Nat.le_of_ble_eq_true rfl) (Nat.le_of_ble_eq_true rfl) (T_tlc) (?_ : RR _ _ _ _ 43 _ _ _ _)
      refine R_aload_n dX11_course_43 rfl (?_ : RR _ _ _ _ 44 _ _ _ _)
      refine R_getr dX11_course_44 flX11_87 cok_11 rfl (by decide) (?_ : RR _ _ _ _ 47 _ _ _ _)
      refine R_aload_n dX11_course_47 rfl (?_ : RR _ _ _ _ 48 _ _ _ _)
      refine R_getr dX11_course_48 flX11_59 cok_11 rfl (by decide) (?_ : RR _ _ _ _ 51 _ _ _ _)
      refine R_geti (z := 1) dX11_course_51 flX11_240 cok_5 rfl (by decide) rfl (fun q51 => (?_ : RR _ _ _ _ 54 _ _ _ _))
      rw [tlR_n (by omega) (by omega), e35] at q51 ⊢
      refine R_i2l dX11_course_54 (by first | assumption | omega) (?_ : RR _ _ _ _ 55 _ _ _ _)
      refine R_cVv1 dX11_course_55 mvX3_add mlX11_243 (by decide) (by decide) (Nat.le_of_ble_eq_true rfl) (Nat.le_of_ble_eq_true rfl) (T_tla (by decide) (by omega)) (?_ : RR _ _ _ _ 58 _ _ _ _)
      refine R_iconst dX11_course_58 (?_ : RR _ _ _ _ 59 _ _ _ _)
      refine R_istore_n dX11_course_59 (Nat.le_of_ble_eq_true rfl) (?_ : RR _ _ _ _ 60 [_, _, _] _ _ _)
      refine R_iload_n dX11_course_60 rfl (?_ : RR _ _ _ _ 61 _ _ _ _)
      refine R_iconst dX11_course_61 (?_ : RR _ _ _ _ 62 _ _ _ _)
      refine R_icmp_gt (t := 91) dX11_course_62 rfl (fun c62 => ?_) (fun c62 => ?_)
      · exfalso; omega
      refine R_aload_n dX11_course_65 rfl (?_ : RR _ _ _ _ 66 _ _ _ _)
      refine R_getr dX11_course_66 flX11_87 cok_11 rfl (by decide) (?_ : RR _ _ _ _ 69 _ _ _ _)
      refine R_aload_n dX11_course_69 rfl (?_ : RR _ _ _ _ 70 _ _ _ _)
      refine R_getr dX11_course_70 flX11_59 cok_11 rfl (by decide) (?_ : RR _ _ _ _ 73 _ _ _ _)
      refine R_getr dX11_course_73 flX11_301 cok_5 rfl (by decide) (?_ : RR _ _ _ _ 76 _ _ _ _)
      refine R_getr dX11_course_76 flX11_305 cok_10 rfl (by decide) (?_ : RR _ _ _ _ 79 _ _ _ _)
      refine R_iload_n dX11_course_79 rfl (?_ : RR _ _ _ _ 80 _ _ _ _)
      refine R_iald dX11_course_80 (fun q80 => (?_ : RR _ _ _ _ 81 _ _ _ _))
      rw [tlR_n (by omega) (by omega), e40 _ (by omega)] at q80 ⊢
      refine R_i2l dX11_course_81 (by first | assumption | omega) (?_ : RR _ _ _ _ 82 _ _ _ _)
      refine R_cVv1 dX11_course_82 mvX3_add mlX11_243 (by decide) (by decide) (Nat.le_of_ble_eq_true rfl) (Nat.le_of_ble_eq_true rfl) (T_tla (by simp) (by omega)) (?_ : RR _ _ _ _ 85 _ _ _ _)
      refine R_iinc dX11_course_85 rfl (Nat.le_of_ble_eq_true rfl) (?_ : RR _ _ _ _ 88 [_, _, _] _ _ _)
      refine R_goto (t := 60) dX11_course_88 rfl (?_ : RR _ _ _ _ 60 _ _ _ _)
      refine R_iload_n dX11_course_60 rfl (?_ : RR _ _ _ _ 61 _ _ _ _)
      refine R_iconst dX11_course_61 (?_ : RR _ _ _ _ 62 _ _ _ _)
      refine R_icmp_gt (t := 91) dX11_course_62 rfl (fun c62 => ?_) (fun c62 => ?_)
      · exfalso; omega
      refine R_aload_n dX11_course_65 rfl (?_ : RR _ _ _ _ 66 _ _ _ _)
      refine R_getr dX11_course_66 flX11_87 cok_11 rfl (by decide) (?_ : RR _ _ _ _ 69 _ _ _ _)
      refine R_aload_n dX11_course_69 rfl (?_ : RR _ _ _ _ 70 _ _ _ _)
      refine R_getr dX11_course_70 flX11_59 cok_11 rfl (by decide) (?_ : RR _ _ _ _ 73 _ _ _ _)
      refine R_getr dX11_course_73 flX11_301 cok_5 rfl (by decide) (?_ : RR _ _ _ _ 76 _ _ _ _)
      refine R_getr dX11_course_76 flX11_305 cok_10 rfl (by decide) (?_ : RR _ _ _ _ 79 _ _ _ _)
      refine R_iload_n dX11_course_79 rfl (?_ : RR _ _ _ _ 80 _ _ _ _)
      refine R_iald dX11_course_80 (fun q80 => (?_ : RR _ _ _ _ 81 _ _ _ _))
      rw [tlR_n (by omega) (by omega), e40 _ (by omega)] at q80 ⊢
      refine R_i2l dX11_course_81 (by first | assumption | omega) (?_ : RR _ _ _ _ 82 _ _ _ _)
      refine R_cVv1 dX11_course_82 mvX3_add mlX11_243 (by decide) (by decide) (Nat.le_of_ble_eq_true rfl) (Nat.le_of_ble_eq_true rfl) (T_tla (by simp) (by omega)) (?_ : RR _ _ _ _ 85 _ _ _ _)
      refine R_iinc dX11_course_85 rfl (Nat.le_of_ble_eq_true rfl) (?_ : RR _ _ _ _ 88 [_, _, _] _ _ _)
      refine R_goto (t := 60) dX11_course_88 rfl (?_ : RR _ _ _ _ 60 _ _ _ _)
      refine R_iload_n dX11_course_60 rfl (?_ : RR _ _ _ _ 61 _ _ _ _)
      refine R_iconst dX11_course_61 (?_ : RR _ _ _ _ 62 _ _ _ _)
      refine R_icmp_gt (t := 91) dX11_course_62 rfl (fun c62 => ?_) (fun c62 => ?_)
      · exfalso; omega
      refine R_aload_n dX11_course_65 rfl (?_ : RR _ _ _ _ 66 _ _ _ _)
      refine R_getr dX11_course_66 flX11_87 cok_11 rfl (by decide) (?_ : RR _ _ _ _ 69 _ _ _ _)
      refine R_aload_n dX11_course_69 rfl (?_ : RR _ _ _ _ 70 _ _ _ _)
      refine R_getr dX11_course_70 flX11_59 cok_11 rfl (by decide) (?_ : RR _ _ _ _ 73 _ _ _ _)
      refine R_getr dX11_course_73 flX11_301 cok_5 rfl (by decide) (?_ : RR _ _ _ _ 76 _ _ _ _)
      refine R_getr dX11_course_76 flX11_305 cok_10 rfl (by decide) (?_ : RR _ _ _ _ 79 _ _ _ _)
      refine R_iload_n dX11_course_79 rfl (?_ : RR _ _ _ _ 80 _ _ _ _)
      refine R_iald dX11_course_80 (fun q80 => (?_ : RR _ _ _ _ 81 _ _ _ _))
      rw [tlR_n (by omega) (by omega), e40 _ (by omega)] at q80 ⊢
      refine R_i2l dX11_course_81 (by first | assumption | omega) (?_ : RR _ _ _ _ 82 _ _ _ _)
      refine R_cVv1 dX11_course_82 mvX3_add mlX11_243 (by decide) (by decide) (Nat.le_of_ble_eq_true rfl) (Nat.le_of_ble_eq_true rfl) (T_tla (by simp) (by omega)) (?_ : RR _ _ _ _ 85 _ _ _ _)
      refine R_iinc dX11_course_85 rfl (Nat.le_of_ble_eq_true rfl) (?_ : RR _ _ _ _ 88 [_, _, _] _ _ _)
      refine R_goto (t := 60) dX11_course_88 rfl (?_ : RR _ _ _ _ 60 _ _ _ _)
      refine R_iload_n dX11_course_60 rfl (?_ : RR _ _ _ _ 61 _ _ _ _)
      refine R_iconst dX11_course_61 (?_ : RR _ _ _ _ 62 _ _ _ _)
      refine R_icmp_gt (t := 91) dX11_course_62 rfl (fun c62 => ?_) (fun c62 => ?_)
      rotate_left
      · exfalso; omega
      refine R_iload_n dX11_course_91 rfl (?_ : RR _ _ _ _ 92 _ _ _ _)
      exact R_ireturn dX11_course_92 trivial (cQ_tl (cq_on hf2 (fun _ _ _ => rfl)) rfl)
    refine R_aload_n dX11_course_0 rfl (?_ : RR _ _ _ _ 1 _ _ _ _)
    refine R_getr dX11_course_1 flX11_43 cok_11 rfl (by decide) (?_ : RR _ _ _ _ 4 _ _ _ _)
    refine R_aload_n dX11_course_4 rfl (?_ : RR _ _ _ _ 5 _ _ _ _)
    refine R_getr dX11_course_5 flX11_36 cok_11 rfl (by decide) (?_ : RR _ _ _ _ 8 _ _ _ _)
    refine R_cVv1 dX11_course_8 mvX9_copyFrom mlX11_231 (by decide) (by decide) (Nat.le_of_ble_eq_true rfl) (Nat.le_of_ble_eq_true rfl) (T_X9_copyFrom) (?_ : RR _ _ _ _ 11 _ _ _ _)
    refine R_aload_n dX11_course_11 rfl (?_ : RR _ _ _ _ 12 _ _ _ _)
    refine R_getr dX11_course_12 flX11_59 cok_11 rfl (by decide) (?_ : RR _ _ _ _ 15 _ _ _ _)
    refine R_aload_n dX11_course_15 rfl (?_ : RR _ _ _ _ 16 _ _ _ _)
    refine R_getr dX11_course_16 flX11_19 cok_11 rfl (by decide) (?_ : RR _ _ _ _ 19 _ _ _ _)
    refine R_aload_n dX11_course_19 rfl (?_ : RR _ _ _ _ 20 _ _ _ _)
    refine R_getr dX11_course_20 flX11_43 cok_11 rfl (by decide) (?_ : RR _ _ _ _ 23 _ _ _ _)
    refine R_aload_n dX11_course_23 rfl (?_ : RR _ _ _ _ 24 _ _ _ _)
    refine R_getr dX11_course_24 flX11_29 cok_11 rfl (by decide) (?_ : RR _ _ _ _ 27 _ _ _ _)
    refine R_aload_n dX11_course_27 rfl (?_ : RR _ _ _ _ 28 _ _ _ _)
    refine R_getr dX11_course_28 flX11_49 cok_11 rfl (by decide) (?_ : RR _ _ _ _ 31 _ _ _ _)
    refine R_iconst dX11_course_31 (?_ : RR _ _ _ _ 32 _ _ _ _)
    refine R_qV5 dX11_course_32 mvX5_once mlX11_297 (by decide) (by decide) (Nat.le_of_ble_eq_true rfl) (Nat.le_of_ble_eq_true rfl) (hT) (fun r9 g9 hq9 => (?_ : RR _ _ _ _ 35 _ _ _ _))
    obtain ⟨h2, len2, rfl, hf2, hc2, o1, rfl, o3, o4, o5⟩ := hq9
    show RR _ _ _ _ _ _ [pI (aRu X (h 154)).1] _ _
    rw [← hz]
    exact K h2 hf2 (by rw [o5, hlf]) (fun j hj => by rw [o1 j hj, hpo])
  · show RR _ _ _ _ _ [pR 147, pU] _ _ _
    obtain ⟨h4, h4e⟩ : ∃ h4, h4 = rup (rup h3 147 (fup (h3 147) 0 0)) 155 (h3 154) := ⟨_, rfl⟩
    obtain ⟨hB, eX, e155, e154⟩ := mtri hs hk e h4e
    have hT := M_runs hB
    rw [eX, e155, ← hXe] at hT
    have hso : oor (xStep X 0 (h 154)) (h 154) := xStep_oor (by rw [hXe]; exact x6) (by rw [hXe]; exact x12)
    have r154 := isRw_154
    have K2 : ∀ h6 : Nat → Int → Int, mqF h3 h6 → h6 147 30 = lf → (∀ j, 0 ≤ j ∧ j < 3 → h6 162 j = po j) → RR mX12_course 9 0 0 34 [pR 147, pI z] [] (shp0, rf0, h6) (mQ h3 z (some [lf, po 0, po 1, po 2])) := by
      intro h6 hm6 e30 e162
      refine R_aload_n dX12_course_34 rfl (?_ : RR _ _ _ _ 35 _ _ _ _)
      refine R_iconst dX12_course_35 (?_ : RR _ _ _ _ 36 _ _ _ _)
      refine R_puti (zk := 1) dX12_course_36 flX12_113 cok_12 (by decide) (fun q hq => by cases hq; rfl) rfl (?_ : RR _ _ _ _ 39 _ _ _ _)
      show RR _ _ _ _ _ _ _ (shp0, rf0, tmR h6 []) _
      refine R_aload_n dX12_course_39 rfl (?_ : RR _ _ _ _ 40 _ _ _ _)
      refine R_aload_n dX12_course_40 rfl (?_ : RR _ _ _ _ 41 _ _ _ _)
      refine R_geti (z := 30) dX12_course_41 flX12_335 cok_12 rfl (by decide) rfl (fun q41 => (?_ : RR _ _ _ _ 44 _ _ _ _))
      rw [tmR_j (by omega), e30] at q41 ⊢
      refine R_i2l dX12_course_44 (by first | assumption | omega) (?_ : RR _ _ _ _ 45 _ _ _ _)
      refine R_cVv1 dX12_course_45 mvX12_enters mlX12_116 (by decide) (by decide) (Nat.le_of_ble_eq_true rfl) (Nat.le_of_ble_eq_true rfl) (T_tma (by simp) (by omega)) (?_ : RR _ _ _ _ 48 _ _ _ _)
      refine R_aload_n dX12_course_48 rfl (?_ : RR _ _ _ _ 49 _ _ _ _)
      refine R_aload_n dX12_course_49 rfl (?_ : RR _ _ _ _ 50 _ _ _ _)
      refine R_getr dX12_course_50 flX12_57 cok_12 rfl (by decide) (?_ : RR _ _ _ _ 53 _ _ _ _)
      refine R_iconst dX12_course_53 (?_ : RR _ _ _ _ 54 _ _ _ _)
      refine R_iald dX12_course_54 (fun q54 => (?_ : RR _ _ _ _ 55 _ _ _ _))
      rw [tmR_n (by omega) (by omega), e162 0 (by omega)] at q54 ⊢
      refine R_i2l dX12_course_55 (by first | assumption | omega) (?_ : RR _ _ _ _ 56 _ _ _ _)
      refine R_cVv1 dX12_course_56 mvX12_enters mlX12_116 (by decide) (by decide) (Nat.le_of_ble_eq_true rfl) (Nat.le_of_ble_eq_true rfl) (T_tma (by simp) (by omega)) (?_ : RR _ _ _ _ 59 _ _ _ _)
      refine R_aload_n dX12_course_59 rfl (?_ : RR _ _ _ _ 60 _ _ _ _)
      refine R_aload_n dX12_course_60 rfl (?_ : RR _ _ _ _ 61 _ _ _ _)
      refine R_getr dX12_course_61 flX12_57 cok_12 rfl (by decide) (?_ : RR _ _ _ _ 64 _ _ _ _)
      refine R_iconst dX12_course_64 (?_ : RR _ _ _ _ 65 _ _ _ _)
      refine R_iald dX12_course_65 (fun q65 => (?_ : RR _ _ _ _ 66 _ _ _ _))
      rw [tmR_n (by omega) (by omega), e162 1 (by omega)] at q65 ⊢
      refine R_i2l dX12_course_66 (by first | assumption | omega) (?_ : RR _ _ _ _ 67 _ _ _ _)
      refine R_cVv1 dX12_course_67 mvX12_enters mlX12_116 (by decide) (by decide) (Nat.le_of_ble_eq_true rfl) (Nat.le_of_ble_eq_true rfl) (T_tma (by simp) (by omega)) (?_ : RR _ _ _ _ 70 _ _ _ _)
      refine R_aload_n dX12_course_70 rfl (?_ : RR _ _ _ _ 71 _ _ _ _)
      refine R_aload_n dX12_course_71 rfl (?_ : RR _ _ _ _ 72 _ _ _ _)
      refine R_getr dX12_course_72 flX12_57 cok_12 rfl (by decide) (?_ : RR _ _ _ _ 75 _ _ _ _)
      refine R_iconst dX12_course_75 (?_ : RR _ _ _ _ 76 _ _ _ _)
      refine R_iald dX12_course_76 (fun q76 => (?_ : RR _ _ _ _ 77 _ _ _ _))
      rw [tmR_n (by omega) (by omega), e162 2 (by omega)] at q76 ⊢
      refine R_i2l dX12_course_77 (by first | assumption | omega) (?_ : RR _ _ _ _ 78 _ _ _ _)
      refine R_cVv1 dX12_course_78 mvX12_enters mlX12_116 (by decide) (by decide) (Nat.le_of_ble_eq_true rfl) (Nat.le_of_ble_eq_true rfl) (T_tma (by simp) (by omega)) (?_ : RR _ _ _ _ 81 _ _ _ _)
      refine R_iload_n dX12_course_81 rfl (?_ : RR _ _ _ _ 82 _ _ _ _)
      exact R_ireturn dX12_course_82 trivial (mQ_tm hm6 rfl)
    have K1 : ∀ h5 : Nat → Int → Int, tnF h4 h5 → h5 155 = xStep X 0 (h 154) → h5 147 30 = lf → RR mX12_course 9 0 0 17 [pR 147, pU] [pI z] (shp0, rf0, h5) (mQ h3 z (some [lf, po 0, po 1, po 2])) := by
      intro h5 hf5 e5 e30
      have f5 : ∀ a, a ≠ 147 → a ≠ 155 → a ≠ 160 → a ≠ 161 → a ≠ 162 → 147 ≤ a → h5 a = h a := fun a a1 a2 a3 a4 a5 a6 => by rw [hf5.1 a a1 a2 a3 a4 a5, h4e, rup_n a2, rup_n a1]; exact e a a6
      have j5 : ∀ j : Int, j ≠ 30 → j ≠ 0 → h5 147 j = h 147 j := fun j j1 j2 => by rw [hf5.2.1 j j1, h4e, rup_n (by omega), rup_s, fup_n j2, e 147 (by omega)]
      have g5 : h5 147 5 = np := by rw [j5 5 (by omega) (by omega)]; exact hs.1.2.2.1
      have hk5 : mOK h5 154 np := mOK_s hs (fun a q => f5 a (by omega) (by omega) (by omega) (by omega) (by omega) (by omega))
      have hm5 : mrOK h5 sem := mrOK_fr hs.1.2.2.2.2.2.2.2.1 (j5 23 (by omega) (by omega)) (f5 158 (by omega) (by omega) (by omega) (by omega) (by omega) (by omega))
      have eX5 : cxM sem h5 np nc = X := by rw [hXe]; exact cxM_fr (fun a a1 a2 => f5 a (by omega) (by omega) (by omega) (by omega) (by omega) (by omega))
      have h154 : h5 154 = h 154 := f5 154 (by omega) (by omega) (by omega) (by omega) (by omega) (by omega)
      have hmq := mq_tn hs e h4e hf5 (by rw [e5]; exact hso)
      refine R_istore_n dX12_course_17 (Nat.le_of_ble_eq_true rfl) (?_ : RR _ _ _ _ 18 [_, _] _ _ _)
      refine R_aload_n dX12_course_18 rfl (?_ : RR _ _ _ _ 19 _ _ _ _)
      refine R_aload_n dX12_course_19 rfl (?_ : RR _ _ _ _ 20 _ _ _ _)
      refine R_getr dX12_course_20 flX12_33 cok_12 rfl (by decide) (?_ : RR _ _ _ _ 23 _ _ _ _)
      refine R_aload_n dX12_course_23 rfl (?_ : RR _ _ _ _ 24 _ _ _ _)
      refine R_aload_n dX12_course_24 rfl (?_ : RR _ _ _ _ 25 _ _ _ _)
      refine R_getr dX12_course_25 flX12_33 cok_12 rfl (by decide) (?_ : RR _ _ _ _ 28 _ _ _ _)
      refine R_cVi1 dX12_course_28 mvX12_riding mlX12_303 (by decide) (by decide) (Nat.le_of_ble_eq_true rfl) (Nat.le_of_ble_eq_true rfl) (T_X12_riding (np := np) hk5.2.2.2.1 g5) (?_ : RR _ _ _ _ 31 _ _ _ _)
      refine R_qV2 dX12_course_31 mvX12_polls mlX12_297 (by decide) (by decide) (Nat.le_of_ble_eq_true rfl) (Nat.le_of_ble_eq_true rfl) (T_X12_polls (sem := sem) (np := np) hk5 hm5 g5 (fun p hp hb => by rw [bset_bit] at hb; unfold ridP at hb; simp at hb; omega) (hSb := bset_4096 x12)) (fun r9 g9 hq9 => (?_ : RR _ _ _ _ 34 _ _ _ _))
      obtain ⟨rfl, sk, th, rfl⟩ := hq9
      show RR _ _ _ _ _ _ [] _ _
      refine K2 _ ⟨fun a q => ?_, fun j q => ?_, fun q => ?_, fun j q => ?_⟩ ?_ (fun j hj => ?_)
      · rw [rup_n (by omega), rup_n (by omega), rup_n (by omega)]; exact hmq.1 a q
      · rw [rup_n (by omega), rup_n (by omega), rup_n (by omega)]; exact hmq.2.1 j q
      · rw [rup_n (by omega), rup_n (by omega), rup_n (by omega)]; exact hmq.2.2.1 q
      · rw [rup_n (by omega), rup_n (by omega), rup_n (by omega)]; exact hmq.2.2.2 j q
      · rw [rup_n (by omega), rup_n (by omega), rup_n (by omega)]; exact e30
      · rw [rup_s]
        unfold plF
        rw [if_pos hj, poS_bset, hpo, ← eX5, ← h154]
        rfl
    refine R_aload_n dX12_course_0 rfl (?_ : RR _ _ _ _ 1 _ _ _ _)
    refine R_iconst dX12_course_1 (?_ : RR _ _ _ _ 2 _ _ _ _)
    refine R_puti (zk := 0) dX12_course_2 flX12_106 cok_12 (by decide) (fun q hq => by cases hq; rfl) rfl (?_ : RR _ _ _ _ 5 _ _ _ _)
    refine R_aload_n dX12_course_5 rfl (?_ : RR _ _ _ _ 6 _ _ _ _)
    refine R_cVv0 dX12_course_6 mvX12_puts mlX12_407 (by decide) (by decide) (Nat.le_of_ble_eq_true rfl) (Nat.le_of_ble_eq_true rfl) (T_X12_puts (puts_oor hs e)) (?_ : RR _ _ _ _ 9 _ _ _ _)
    simp (disch := omega) only [rup_n]
    rw [← h4e]
    refine R_aload_n dX12_course_9 rfl (?_ : RR _ _ _ _ 10 _ _ _ _)
    refine R_aload_n dX12_course_10 rfl (?_ : RR _ _ _ _ 11 _ _ _ _)
    refine R_getr dX12_course_11 flX12_36 cok_12 rfl (by decide) (?_ : RR _ _ _ _ 14 _ _ _ _)
    refine R_qV1 dX12_course_14 mvX12_runs mlX12_373 (by decide) (by decide) (Nat.le_of_ble_eq_true rfl) (Nat.le_of_ble_eq_true rfl) (hT) (fun r9 g9 hq9 => (?_ : RR _ _ _ _ 17 _ _ _ _))
    obtain ⟨⟨h5, rfl, m1, m2, rfl, m3, m4⟩, h5b, hg, m5⟩ := hq9
    obtain rfl : h5 = h5b := by injection hg with _ hg; injection hg
    show RR _ _ _ _ _ _ [pI (aRu X (h 154)).1] _ _
    rw [← hz]
    exact K1 h5 ⟨m1, m3, m4⟩ m2 (by rw [m5, hlf, hXe]; first | rfl | (rw [h4e]; simp (disch := omega) only [rup_n, e]; rfl))
end CR
