/-! the constructors: words of the tables -/
def okty (ty : FieldType) : Bool := match ty with
  | .int => true
  | .boolean => true
  | .object _ => true
  | .array _ => true
  | _ => false
theorem pdef {k j : Nat} (h : okty (pm_ty k j) = true) : defaultValue (pm_ty k j) = if pm_nu k j then .int 0 else .null := by
  unfold pm_nu
  generalize pm_ty k j = ty at h
  cases ty <;> first | rfl | cases h
/-- what making an object needs -/
def pm_nw (M : PMt) (idn ci : Nat) (C : String) (T : u_T) (N : Nat) : Prop := pm_cl[ci]? = some (C, T, N) ∧ pm_cok ci ∧ ci < 50 ∧ Cond.classLink M.1.cls idn C ∈ tblG ∧ Cond.instantiable C N ∈ tblG ∧ Cond.initialized C ∈ tblG ∧ ∀ j, j < N → okty (pm_ty ci j) = true
/-- what a final field's reference needs -/
def pm_fp (M : PMt) (ci k : Nat) : Prop := pm_cok ci ∧ ci < 50 ∧ pm_nu ci k = false ∧ (∀ v : Nat, narrow (pm_ty ci k) (.ref v) = .ref v ∧ fits (pm_ty ci k) (.ref v) = true) ∧ (∀ q : vw_C, pm_cl[ci]? = some q → (q.2.1 k).2.2.2 = true ∧ (q.2.1 k).1 = M.1.cls) ∧ M.1.name = "<init>"
set_option maxRecDepth 100000 in
theorem ac_i : Cond.arrayClass .int ∈ tblG := (gw_t (tb_1 53 rfl) rfl)
set_option maxRecDepth 100000 in
theorem ac_z : Cond.arrayClass .boolean ∈ tblG := (gw_t (tb_2 17 rfl) rfl)
set_option maxRecDepth 100000 in
theorem ac_l : Cond.arrayClass .long ∈ tblG := (gw_t (tb_2 73 rfl) rfl)
set_option maxRecDepth 100000 in
theorem oi_in : Cond.instanceMethod Lib.objectInit ∈ tblG := (gw_t (tb_1 31 rfl) rfl)
set_option maxRecDepth 100000 in
theorem oi_co : Cond.code Lib.objectInit ⟨#[0xb1]⟩ 1 none ∈ tblG := (gw_t (tb_1 32 rfl) rfl)
set_option maxRecDepth 100000 in
theorem oi_X0 : Cond.methodLink RX0 3 Lib.objectInit ∈ tblG := (gw_t (tb_1 59 rfl) rfl)
set_option maxRecDepth 100000 in
theorem miX0 : pm_mi mX0_init := ⟨by decide +kernel, by decide, ⟨by decide +kernel, by decide +kernel, by decide +kernel⟩, (gw_t (tb_1 58 rfl) rfl), (gw_t (tb_1 57 rfl) rfl), (gw_t (tb_1 3 rfl) rfl), rfl, rfl, by decide⟩
set_option maxRecDepth 100000 in
theorem oi_X1 : Cond.methodLink RX1 3 Lib.objectInit ∈ tblG := (gw_t (tb_1 234 rfl) rfl)
set_option maxRecDepth 100000 in
theorem miX1 : pm_mi mX1_init := ⟨by decide +kernel, by decide, ⟨by decide +kernel, by decide +kernel, by decide +kernel⟩, (gw_t (tb_1 233 rfl) rfl), (gw_t (tb_1 232 rfl) rfl), (gw_t (tb_1 9 rfl) rfl), rfl, rfl, by decide⟩
set_option maxRecDepth 100000 in
theorem oi_X2 : Cond.methodLink RX2 3 Lib.objectInit ∈ tblG := (gw_t (tb_1 86 rfl) rfl)
set_option maxRecDepth 100000 in
theorem miX2 : pm_mi mX2_init := ⟨by decide +kernel, by decide, ⟨by decide +kernel, by decide +kernel, by decide +kernel⟩, (gw_t (tb_1 85 rfl) rfl), (gw_t (tb_1 84 rfl) rfl), (gw_t (tb_1 4 rfl) rfl), rfl, rfl, by decide⟩
set_option maxRecDepth 100000 in
theorem oi_X3 : Cond.methodLink RX3 3 Lib.objectInit ∈ tblG := (gw_t (tb_2 63 rfl) rfl)
set_option maxRecDepth 100000 in
theorem miX3 : pm_mi mX3_init := ⟨by decide +kernel, by decide, ⟨by decide +kernel, by decide +kernel, by decide +kernel⟩, (gw_t (tb_2 62 rfl) rfl), (gw_t (tb_2 61 rfl) rfl), (gw_t (tb_1 12 rfl) rfl), rfl, rfl, by decide⟩
set_option maxRecDepth 100000 in
theorem oi_X4 : Cond.methodLink RX4 3 Lib.objectInit ∈ tblG := (gw_t (tb_1 155 rfl) rfl)
set_option maxRecDepth 100000 in
theorem miX4 : pm_mi mX4_init := ⟨by decide +kernel, by decide, ⟨by decide +kernel, by decide +kernel, by decide +kernel⟩, (gw_t (tb_1 154 rfl) rfl), (gw_t (tb_1 153 rfl) rfl), (gw_t (tb_1 6 rfl) rfl), rfl, rfl, by decide⟩
set_option maxRecDepth 100000 in
theorem oi_X5 : Cond.methodLink RX5 3 Lib.objectInit ∈ tblG := (gw_t (tb_1 179 rfl) rfl)
set_option maxRecDepth 100000 in
theorem miX5 : pm_mi mX5_init := ⟨by decide +kernel, by decide, ⟨by decide +kernel, by decide +kernel, by decide +kernel⟩, (gw_t (tb_1 178 rfl) rfl), (gw_t (tb_1 177 rfl) rfl), (gw_t (tb_1 7 rfl) rfl), rfl, rfl, by decide⟩
set_option maxRecDepth 100000 in
theorem oi_X6 : Cond.methodLink RX6 3 Lib.objectInit ∈ tblG := (gw_t (tb_2 23 rfl) rfl)
set_option maxRecDepth 100000 in
theorem miX6 : pm_mi mX6_init := ⟨by decide +kernel, by decide, ⟨by decide +kernel, by decide +kernel, by decide +kernel⟩, (gw_t (tb_2 22 rfl) rfl), (gw_t (tb_2 21 rfl) rfl), (gw_t (tb_1 10 rfl) rfl), rfl, rfl, by decide⟩
set_option maxRecDepth 100000 in
theorem oi_X7 : Cond.methodLink RX7 3 Lib.objectInit ∈ tblG := (gw_t (tb_1 38 rfl) rfl)
set_option maxRecDepth 100000 in
theorem miX7 : pm_mi mX7_init := ⟨by decide +kernel, by decide, ⟨by decide +kernel, by decide +kernel, by decide +kernel⟩, (gw_t (tb_1 37 rfl) rfl), (gw_t (tb_1 36 rfl) rfl), (gw_t (tb_1 2 rfl) rfl), rfl, rfl, by decide⟩
set_option maxRecDepth 100000 in
theorem oi_X8 : Cond.methodLink RX8 3 Lib.objectInit ∈ tblG := (gw_t (tb_2 47 rfl) rfl)
set_option maxRecDepth 100000 in
theorem miX8 : pm_mi mX8_init := ⟨by decide +kernel, by decide, ⟨by decide +kernel, by decide +kernel, by decide +kernel⟩, (gw_t (tb_2 46 rfl) rfl), (gw_t (tb_2 45 rfl) rfl), (gw_t (tb_1 11 rfl) rfl), rfl, rfl, by decide⟩
set_option maxRecDepth 100000 in
theorem oi_X9 : Cond.methodLink RX9 3 Lib.objectInit ∈ tblG := (gw_t (tb_1 110 rfl) rfl)
set_option maxRecDepth 100000 in
theorem miX9 : pm_mi mX9_init := ⟨by decide +kernel, by decide, ⟨by decide +kernel, by decide +kernel, by decide +kernel⟩, (gw_t (tb_1 109 rfl) rfl), (gw_t (tb_1 108 rfl) rfl), (gw_t (tb_1 5 rfl) rfl), rfl, rfl, by decide⟩
set_option maxRecDepth 100000 in
theorem oi_X10 : Cond.methodLink RX10 3 Lib.objectInit ∈ tblG := (gw_t (tb_1 185 rfl) rfl)
set_option maxRecDepth 100000 in
theorem miX10 : pm_mi mX10_init := ⟨by decide +kernel, by decide, ⟨by decide +kernel, by decide +kernel, by decide +kernel⟩, (gw_t (tb_1 184 rfl) rfl), (gw_t (tb_1 183 rfl) rfl), (gw_t (tb_1 8 rfl) rfl), rfl, rfl, by decide⟩
set_option maxRecDepth 100000 in
theorem oi_X11 : Cond.methodLink RX11 1 Lib.objectInit ∈ tblG := (gw_t (tb_1 30 rfl) rfl)
set_option maxRecDepth 100000 in
theorem miX11 : pm_mi mX11_init := ⟨by decide +kernel, by decide, ⟨by decide +kernel, by decide +kernel, by decide +kernel⟩, (gw_t (tb_1 29 rfl) rfl), (gw_t (tb_1 28 rfl) rfl), (gw_t (tb_1 1 rfl) rfl), rfl, rfl, by decide⟩
set_option maxRecDepth 100000 in
theorem oi_X12 : Cond.methodLink RX12 3 Lib.objectInit ∈ tblG := (gw_t (tb_5 148 rfl) rfl)
set_option maxRecDepth 100000 in
theorem miX12 : pm_mi mX12_init := ⟨by decide +kernel, by decide, ⟨by decide +kernel, by decide +kernel, by decide +kernel⟩, (gw_t (tb_5 147 rfl) rfl), (gw_t (tb_5 146 rfl) rfl), (gw_t (tb_1 13 rfl) rfl), rfl, rfl, by decide⟩
set_option maxRecDepth 100000 in
theorem nwX1_9 : pm_nw mX1_init 9 9 RX9 TX9 8 := ⟨rfl, cok_9, by decide, (gw_t (tb_1 235 rfl) rfl), (gw_t (tb_1 106 rfl) rfl), (gw_t (tb_1 5 rfl) rfl), by decide +kernel⟩
set_option maxRecDepth 100000 in
theorem nwX5_9 : pm_nw mX5_init 9 10 RX10 TX10 7 := ⟨rfl, cok_10, by decide, (gw_t (tb_1 180 rfl) rfl), (gw_t (tb_1 181 rfl) rfl), (gw_t (tb_1 8 rfl) rfl), by decide +kernel⟩
set_option maxRecDepth 100000 in
theorem nwX11_7 : pm_nw mX11_init 7 7 RX7 TX7 3 := ⟨rfl, cok_7, by decide, (gw_t (tb_1 33 rfl) rfl), (gw_t (tb_1 34 rfl) rfl), (gw_t (tb_1 2 rfl) rfl), by decide +kernel⟩
set_option maxRecDepth 100000 in
theorem nwX11_16 : pm_nw mX11_init 16 0 RX0 TX0 4 := ⟨rfl, cok_0, by decide, (gw_t (tb_1 54 rfl) rfl), (gw_t (tb_1 55 rfl) rfl), (gw_t (tb_1 3 rfl) rfl), by decide +kernel⟩
set_option maxRecDepth 100000 in
theorem nwX11_26 : pm_nw mX11_init 26 2 RX2 TX2 3 := ⟨rfl, cok_2, by decide, (gw_t (tb_1 81 rfl) rfl), (gw_t (tb_1 82 rfl) rfl), (gw_t (tb_1 4 rfl) rfl), by decide +kernel⟩
set_option maxRecDepth 100000 in
theorem nwX11_33 : pm_nw mX11_init 33 9 RX9 TX9 8 := ⟨rfl, cok_9, by decide, (gw_t (tb_1 105 rfl) rfl), (gw_t (tb_1 106 rfl) rfl), (gw_t (tb_1 5 rfl) rfl), by decide +kernel⟩
set_option maxRecDepth 100000 in
theorem nwX11_46 : pm_nw mX11_init 46 4 RX4 TX4 5 := ⟨rfl, cok_4, by decide, (gw_t (tb_1 150 rfl) rfl), (gw_t (tb_1 151 rfl) rfl), (gw_t (tb_1 6 rfl) rfl), by decide +kernel⟩
set_option maxRecDepth 100000 in
theorem nwX11_56 : pm_nw mX11_init 56 5 RX5 TX5 4 := ⟨rfl, cok_5, by decide, (gw_t (tb_1 174 rfl) rfl), (gw_t (tb_1 175 rfl) rfl), (gw_t (tb_1 7 rfl) rfl), by decide +kernel⟩
set_option maxRecDepth 100000 in
theorem nwX11_63 : pm_nw mX11_init 63 1 RX1 TX1 5 := ⟨rfl, cok_1, by decide, (gw_t (tb_1 229 rfl) rfl), (gw_t (tb_1 230 rfl) rfl), (gw_t (tb_1 9 rfl) rfl), by decide +kernel⟩
set_option maxRecDepth 100000 in
theorem nwX11_70 : pm_nw mX11_init 70 6 RX6 TX6 5 := ⟨rfl, cok_6, by decide, (gw_t (tb_2 18 rfl) rfl), (gw_t (tb_2 19 rfl) rfl), (gw_t (tb_1 10 rfl) rfl), by decide +kernel⟩
set_option maxRecDepth 100000 in
theorem nwX11_77 : pm_nw mX11_init 77 8 RX8 TX8 3 := ⟨rfl, cok_8, by decide, (gw_t (tb_2 42 rfl) rfl), (gw_t (tb_2 43 rfl) rfl), (gw_t (tb_1 11 rfl) rfl), by decide +kernel⟩
set_option maxRecDepth 100000 in
theorem nwX11_84 : pm_nw mX11_init 84 3 RX3 TX3 2 := ⟨rfl, cok_3, by decide, (gw_t (tb_2 58 rfl) rfl), (gw_t (tb_2 59 rfl) rfl), (gw_t (tb_1 12 rfl) rfl), by decide +kernel⟩
set_option maxRecDepth 100000 in
theorem nwL_8 : pm_nw mL_law 8 11 RX11 TX11 15 := ⟨rfl, cok_11, by decide, (gw_t (tb_1 25 rfl) rfl), (gw_t (tb_1 26 rfl) rfl), (gw_t (tb_1 1 rfl) rfl), by decide +kernel⟩
set_option maxRecDepth 100000 in
theorem nwL_26 : pm_nw mL_law 26 12 RX12 TX12 50 := ⟨rfl, cok_12, by decide, (gw_t (tb_5 143 rfl) rfl), (gw_t (tb_5 144 rfl) rfl), (gw_t (tb_1 13 rfl) rfl), by decide +kernel⟩
set_option maxRecDepth 100000 in
theorem cl_t : Cond.classLink RX1 9 "CoachesVote$Train" ∈ tblG := (gw_t (tb_1 235 rfl) rfl)
theorem fpX0_1 : pm_fp mX0_init 0 1 := ⟨cok_0, by decide, rfl, fun _ => ⟨rfl, rfl⟩, fun q hq => by cases hq; exact ⟨rfl, rfl⟩, rfl⟩
theorem fpX0_2 : pm_fp mX0_init 0 2 := ⟨cok_0, by decide, rfl, fun _ => ⟨rfl, rfl⟩, fun q hq => by cases hq; exact ⟨rfl, rfl⟩, rfl⟩
theorem fpX0_3 : pm_fp mX0_init 0 3 := ⟨cok_0, by decide, rfl, fun _ => ⟨rfl, rfl⟩, fun q hq => by cases hq; exact ⟨rfl, rfl⟩, rfl⟩
theorem fpX1_0 : pm_fp mX1_init 1 0 := ⟨cok_1, by decide, rfl, fun _ => ⟨rfl, rfl⟩, fun q hq => by cases hq; exact ⟨rfl, rfl⟩, rfl⟩
theorem fpX1_1 : pm_fp mX1_init 1 1 := ⟨cok_1, by decide, rfl, fun _ => ⟨rfl, rfl⟩, fun q hq => by cases hq; exact ⟨rfl, rfl⟩, rfl⟩
theorem fpX1_2 : pm_fp mX1_init 1 2 := ⟨cok_1, by decide, rfl, fun _ => ⟨rfl, rfl⟩, fun q hq => by cases hq; exact ⟨rfl, rfl⟩, rfl⟩
theorem fpX2_1 : pm_fp mX2_init 2 1 := ⟨cok_2, by decide, rfl, fun _ => ⟨rfl, rfl⟩, fun q hq => by cases hq; exact ⟨rfl, rfl⟩, rfl⟩
theorem fpX2_2 : pm_fp mX2_init 2 2 := ⟨cok_2, by decide, rfl, fun _ => ⟨rfl, rfl⟩, fun q hq => by cases hq; exact ⟨rfl, rfl⟩, rfl⟩
theorem fpX3_0 : pm_fp mX3_init 3 0 := ⟨cok_3, by decide, rfl, fun _ => ⟨rfl, rfl⟩, fun q hq => by cases hq; exact ⟨rfl, rfl⟩, rfl⟩
theorem fpX4_0 : pm_fp mX4_init 4 0 := ⟨cok_4, by decide, rfl, fun _ => ⟨rfl, rfl⟩, fun q hq => by cases hq; exact ⟨rfl, rfl⟩, rfl⟩
theorem fpX4_1 : pm_fp mX4_init 4 1 := ⟨cok_4, by decide, rfl, fun _ => ⟨rfl, rfl⟩, fun q hq => by cases hq; exact ⟨rfl, rfl⟩, rfl⟩
theorem fpX5_0 : pm_fp mX5_init 5 0 := ⟨cok_5, by decide, rfl, fun _ => ⟨rfl, rfl⟩, fun q hq => by cases hq; exact ⟨rfl, rfl⟩, rfl⟩
theorem fpX6_2 : pm_fp mX6_init 6 2 := ⟨cok_6, by decide, rfl, fun _ => ⟨rfl, rfl⟩, fun q hq => by cases hq; exact ⟨rfl, rfl⟩, rfl⟩
theorem fpX6_3 : pm_fp mX6_init 6 3 := ⟨cok_6, by decide, rfl, fun _ => ⟨rfl, rfl⟩, fun q hq => by cases hq; exact ⟨rfl, rfl⟩, rfl⟩
theorem fpX6_4 : pm_fp mX6_init 6 4 := ⟨cok_6, by decide, rfl, fun _ => ⟨rfl, rfl⟩, fun q hq => by cases hq; exact ⟨rfl, rfl⟩, rfl⟩
theorem fpX7_0 : pm_fp mX7_init 7 0 := ⟨cok_7, by decide, rfl, fun _ => ⟨rfl, rfl⟩, fun q hq => by cases hq; exact ⟨rfl, rfl⟩, rfl⟩
theorem fpX8_0 : pm_fp mX8_init 8 0 := ⟨cok_8, by decide, rfl, fun _ => ⟨rfl, rfl⟩, fun q hq => by cases hq; exact ⟨rfl, rfl⟩, rfl⟩
theorem fpX8_2 : pm_fp mX8_init 8 2 := ⟨cok_8, by decide, rfl, fun _ => ⟨rfl, rfl⟩, fun q hq => by cases hq; exact ⟨rfl, rfl⟩, rfl⟩
theorem fpX9_4 : pm_fp mX9_init 9 4 := ⟨cok_9, by decide, rfl, fun _ => ⟨rfl, rfl⟩, fun q hq => by cases hq; exact ⟨rfl, rfl⟩, rfl⟩
theorem fpX9_5 : pm_fp mX9_init 9 5 := ⟨cok_9, by decide, rfl, fun _ => ⟨rfl, rfl⟩, fun q hq => by cases hq; exact ⟨rfl, rfl⟩, rfl⟩
theorem fpX9_6 : pm_fp mX9_init 9 6 := ⟨cok_9, by decide, rfl, fun _ => ⟨rfl, rfl⟩, fun q hq => by cases hq; exact ⟨rfl, rfl⟩, rfl⟩
theorem fpX9_7 : pm_fp mX9_init 9 7 := ⟨cok_9, by decide, rfl, fun _ => ⟨rfl, rfl⟩, fun q hq => by cases hq; exact ⟨rfl, rfl⟩, rfl⟩
theorem fpX10_0 : pm_fp mX10_init 10 0 := ⟨cok_10, by decide, rfl, fun _ => ⟨rfl, rfl⟩, fun q hq => by cases hq; exact ⟨rfl, rfl⟩, rfl⟩
theorem fpX10_1 : pm_fp mX10_init 10 1 := ⟨cok_10, by decide, rfl, fun _ => ⟨rfl, rfl⟩, fun q hq => by cases hq; exact ⟨rfl, rfl⟩, rfl⟩
theorem fpX10_2 : pm_fp mX10_init 10 2 := ⟨cok_10, by decide, rfl, fun _ => ⟨rfl, rfl⟩, fun q hq => by cases hq; exact ⟨rfl, rfl⟩, rfl⟩
theorem fpX10_3 : pm_fp mX10_init 10 3 := ⟨cok_10, by decide, rfl, fun _ => ⟨rfl, rfl⟩, fun q hq => by cases hq; exact ⟨rfl, rfl⟩, rfl⟩
theorem fpX10_4 : pm_fp mX10_init 10 4 := ⟨cok_10, by decide, rfl, fun _ => ⟨rfl, rfl⟩, fun q hq => by cases hq; exact ⟨rfl, rfl⟩, rfl⟩
theorem fpX10_5 : pm_fp mX10_init 10 5 := ⟨cok_10, by decide, rfl, fun _ => ⟨rfl, rfl⟩, fun q hq => by cases hq; exact ⟨rfl, rfl⟩, rfl⟩
theorem fpX10_6 : pm_fp mX10_init 10 6 := ⟨cok_10, by decide, rfl, fun _ => ⟨rfl, rfl⟩, fun q hq => by cases hq; exact ⟨rfl, rfl⟩, rfl⟩
theorem fpX11_0 : pm_fp mX11_init 11 0 := ⟨cok_11, by decide, rfl, fun _ => ⟨rfl, rfl⟩, fun q hq => by cases hq; exact ⟨rfl, rfl⟩, rfl⟩
theorem fpX11_1 : pm_fp mX11_init 11 1 := ⟨cok_11, by decide, rfl, fun _ => ⟨rfl, rfl⟩, fun q hq => by cases hq; exact ⟨rfl, rfl⟩, rfl⟩
theorem fpX11_2 : pm_fp mX11_init 11 2 := ⟨cok_11, by decide, rfl, fun _ => ⟨rfl, rfl⟩, fun q hq => by cases hq; exact ⟨rfl, rfl⟩, rfl⟩
theorem fpX11_3 : pm_fp mX11_init 11 3 := ⟨cok_11, by decide, rfl, fun _ => ⟨rfl, rfl⟩, fun q hq => by cases hq; exact ⟨rfl, rfl⟩, rfl⟩
theorem fpX11_4 : pm_fp mX11_init 11 4 := ⟨cok_11, by decide, rfl, fun _ => ⟨rfl, rfl⟩, fun q hq => by cases hq; exact ⟨rfl, rfl⟩, rfl⟩
theorem fpX11_5 : pm_fp mX11_init 11 5 := ⟨cok_11, by decide, rfl, fun _ => ⟨rfl, rfl⟩, fun q hq => by cases hq; exact ⟨rfl, rfl⟩, rfl⟩
theorem fpX11_6 : pm_fp mX11_init 11 6 := ⟨cok_11, by decide, rfl, fun _ => ⟨rfl, rfl⟩, fun q hq => by cases hq; exact ⟨rfl, rfl⟩, rfl⟩
theorem fpX11_7 : pm_fp mX11_init 11 7 := ⟨cok_11, by decide, rfl, fun _ => ⟨rfl, rfl⟩, fun q hq => by cases hq; exact ⟨rfl, rfl⟩, rfl⟩
theorem fpX11_8 : pm_fp mX11_init 11 8 := ⟨cok_11, by decide, rfl, fun _ => ⟨rfl, rfl⟩, fun q hq => by cases hq; exact ⟨rfl, rfl⟩, rfl⟩
theorem fpX11_9 : pm_fp mX11_init 11 9 := ⟨cok_11, by decide, rfl, fun _ => ⟨rfl, rfl⟩, fun q hq => by cases hq; exact ⟨rfl, rfl⟩, rfl⟩
theorem fpX11_10 : pm_fp mX11_init 11 10 := ⟨cok_11, by decide, rfl, fun _ => ⟨rfl, rfl⟩, fun q hq => by cases hq; exact ⟨rfl, rfl⟩, rfl⟩
theorem fpX11_11 : pm_fp mX11_init 11 11 := ⟨cok_11, by decide, rfl, fun _ => ⟨rfl, rfl⟩, fun q hq => by cases hq; exact ⟨rfl, rfl⟩, rfl⟩
theorem fpX11_12 : pm_fp mX11_init 11 12 := ⟨cok_11, by decide, rfl, fun _ => ⟨rfl, rfl⟩, fun q hq => by cases hq; exact ⟨rfl, rfl⟩, rfl⟩
theorem fpX11_13 : pm_fp mX11_init 11 13 := ⟨cok_11, by decide, rfl, fun _ => ⟨rfl, rfl⟩, fun q hq => by cases hq; exact ⟨rfl, rfl⟩, rfl⟩
theorem fpX12_2 : pm_fp mX12_init 12 2 := ⟨cok_12, by decide, rfl, fun _ => ⟨rfl, rfl⟩, fun q hq => by cases hq; exact ⟨rfl, rfl⟩, rfl⟩
theorem fpX12_7 : pm_fp mX12_init 12 7 := ⟨cok_12, by decide, rfl, fun _ => ⟨rfl, rfl⟩, fun q hq => by cases hq; exact ⟨rfl, rfl⟩, rfl⟩
theorem fpX12_8 : pm_fp mX12_init 12 8 := ⟨cok_12, by decide, rfl, fun _ => ⟨rfl, rfl⟩, fun q hq => by cases hq; exact ⟨rfl, rfl⟩, rfl⟩
theorem fpX12_9 : pm_fp mX12_init 12 9 := ⟨cok_12, by decide, rfl, fun _ => ⟨rfl, rfl⟩, fun q hq => by cases hq; exact ⟨rfl, rfl⟩, rfl⟩
theorem fpX12_10 : pm_fp mX12_init 12 10 := ⟨cok_12, by decide, rfl, fun _ => ⟨rfl, rfl⟩, fun q hq => by cases hq; exact ⟨rfl, rfl⟩, rfl⟩
theorem fpX12_11 : pm_fp mX12_init 12 11 := ⟨cok_12, by decide, rfl, fun _ => ⟨rfl, rfl⟩, fun q hq => by cases hq; exact ⟨rfl, rfl⟩, rfl⟩
theorem fpX12_12 : pm_fp mX12_init 12 12 := ⟨cok_12, by decide, rfl, fun _ => ⟨rfl, rfl⟩, fun q hq => by cases hq; exact ⟨rfl, rfl⟩, rfl⟩
theorem fpX12_13 : pm_fp mX12_init 12 13 := ⟨cok_12, by decide, rfl, fun _ => ⟨rfl, rfl⟩, fun q hq => by cases hq; exact ⟨rfl, rfl⟩, rfl⟩
theorem fpX12_14 : pm_fp mX12_init 12 14 := ⟨cok_12, by decide, rfl, fun _ => ⟨rfl, rfl⟩, fun q hq => by cases hq; exact ⟨rfl, rfl⟩, rfl⟩
theorem fpX12_19 : pm_fp mX12_init 12 19 := ⟨cok_12, by decide, rfl, fun _ => ⟨rfl, rfl⟩, fun q hq => by cases hq; exact ⟨rfl, rfl⟩, rfl⟩
theorem fpX12_21 : pm_fp mX12_init 12 21 := ⟨cok_12, by decide, rfl, fun _ => ⟨rfl, rfl⟩, fun q hq => by cases hq; exact ⟨rfl, rfl⟩, rfl⟩
theorem fpX12_22 : pm_fp mX12_init 12 22 := ⟨cok_12, by decide, rfl, fun _ => ⟨rfl, rfl⟩, fun q hq => by cases hq; exact ⟨rfl, rfl⟩, rfl⟩
theorem fpX12_25 : pm_fp mX12_init 12 25 := ⟨cok_12, by decide, rfl, fun _ => ⟨rfl, rfl⟩, fun q hq => by cases hq; exact ⟨rfl, rfl⟩, rfl⟩
theorem fpX12_26 : pm_fp mX12_init 12 26 := ⟨cok_12, by decide, rfl, fun _ => ⟨rfl, rfl⟩, fun q hq => by cases hq; exact ⟨rfl, rfl⟩, rfl⟩
theorem fpX12_27 : pm_fp mX12_init 12 27 := ⟨cok_12, by decide, rfl, fun _ => ⟨rfl, rfl⟩, fun q hq => by cases hq; exact ⟨rfl, rfl⟩, rfl⟩
theorem fpX12_29 : pm_fp mX12_init 12 29 := ⟨cok_12, by decide, rfl, fun _ => ⟨rfl, rfl⟩, fun q hq => by cases hq; exact ⟨rfl, rfl⟩, rfl⟩
theorem fpX12_31 : pm_fp mX12_init 12 31 := ⟨cok_12, by decide, rfl, fun _ => ⟨rfl, rfl⟩, fun q hq => by cases hq; exact ⟨rfl, rfl⟩, rfl⟩
theorem fpX12_32 : pm_fp mX12_init 12 32 := ⟨cok_12, by decide, rfl, fun _ => ⟨rfl, rfl⟩, fun q hq => by cases hq; exact ⟨rfl, rfl⟩, rfl⟩
theorem fpX12_33 : pm_fp mX12_init 12 33 := ⟨cok_12, by decide, rfl, fun _ => ⟨rfl, rfl⟩, fun q hq => by cases hq; exact ⟨rfl, rfl⟩, rfl⟩
theorem fpX12_35 : pm_fp mX12_init 12 35 := ⟨cok_12, by decide, rfl, fun _ => ⟨rfl, rfl⟩, fun q hq => by cases hq; exact ⟨rfl, rfl⟩, rfl⟩
theorem fpX12_36 : pm_fp mX12_init 12 36 := ⟨cok_12, by decide, rfl, fun _ => ⟨rfl, rfl⟩, fun q hq => by cases hq; exact ⟨rfl, rfl⟩, rfl⟩
theorem fpX12_39 : pm_fp mX12_init 12 39 := ⟨cok_12, by decide, rfl, fun _ => ⟨rfl, rfl⟩, fun q hq => by cases hq; exact ⟨rfl, rfl⟩, rfl⟩
theorem fpX12_41 : pm_fp mX12_init 12 41 := ⟨cok_12, by decide, rfl, fun _ => ⟨rfl, rfl⟩, fun q hq => by cases hq; exact ⟨rfl, rfl⟩, rfl⟩
theorem fpX12_42 : pm_fp mX12_init 12 42 := ⟨cok_12, by decide, rfl, fun _ => ⟨rfl, rfl⟩, fun q hq => by cases hq; exact ⟨rfl, rfl⟩, rfl⟩
theorem fpX12_43 : pm_fp mX12_init 12 43 := ⟨cok_12, by decide, rfl, fun _ => ⟨rfl, rfl⟩, fun q hq => by cases hq; exact ⟨rfl, rfl⟩, rfl⟩
theorem fpX12_44 : pm_fp mX12_init 12 44 := ⟨cok_12, by decide, rfl, fun _ => ⟨rfl, rfl⟩, fun q hq => by cases hq; exact ⟨rfl, rfl⟩, rfl⟩
theorem fpX12_45 : pm_fp mX12_init 12 45 := ⟨cok_12, by decide, rfl, fun _ => ⟨rfl, rfl⟩, fun q hq => by cases hq; exact ⟨rfl, rfl⟩, rfl⟩
theorem fpX12_47 : pm_fp mX12_init 12 47 := ⟨cok_12, by decide, rfl, fun _ => ⟨rfl, rfl⟩, fun q hq => by cases hq; exact ⟨rfl, rfl⟩, rfl⟩
theorem fpX12_48 : pm_fp mX12_init 12 48 := ⟨cok_12, by decide, rfl, fun _ => ⟨rfl, rfl⟩, fun q hq => by cases hq; exact ⟨rfl, rfl⟩, rfl⟩
theorem fpX12_49 : pm_fp mX12_init 12 49 := ⟨cok_12, by decide, rfl, fun _ => ⟨rfl, rfl⟩, fun q hq => by cases hq; exact ⟨rfl, rfl⟩, rfl⟩
