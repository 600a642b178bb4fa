set_option maxRecDepth 100000 in
theorem lay_0_0 : u_lay RX0 TX0 0 ∈ tblG := (gw_t (tb_1 72 rfl) rfl)
set_option maxRecDepth 100000 in
theorem lay_0_1 : u_lay RX0 TX0 1 ∈ tblG := (gw_t (tb_1 74 rfl) rfl)
set_option maxRecDepth 100000 in
theorem lay_0_2 : u_lay RX0 TX0 2 ∈ tblG := (gw_t (tb_1 76 rfl) rfl)
set_option maxRecDepth 100000 in
theorem lay_0_3 : u_lay RX0 TX0 3 ∈ tblG := (gw_t (tb_1 78 rfl) rfl)
set_option maxRecDepth 100000 in
theorem lays_0 : ∀ w ∈ u_ws RX0 TX0 4, w ∈ tblG := List.forall_mem_cons.mpr ⟨lay_0_0, List.forall_mem_cons.mpr ⟨lay_0_1, List.forall_mem_cons.mpr ⟨lay_0_2, List.forall_mem_cons.mpr ⟨lay_0_3, fun _ h => absurd h List.not_mem_nil⟩⟩⟩⟩
set_option maxRecDepth 100000 in
theorem cok_0 : pm_cok 0 := fun q hq => by
  obtain rfl : (RX0, TX0, 4) = q := Option.some.inj hq
  exact ⟨lays_0, tyX0_ok, nmX0, rfl⟩
set_option maxRecDepth 100000 in
theorem lay_1_0 : u_lay RX1 TX1 0 ∈ tblG := (gw_t (tb_2 6 rfl) rfl)
set_option maxRecDepth 100000 in
theorem lay_1_1 : u_lay RX1 TX1 1 ∈ tblG := (gw_t (tb_2 8 rfl) rfl)
set_option maxRecDepth 100000 in
theorem lay_1_2 : u_lay RX1 TX1 2 ∈ tblG := (gw_t (tb_2 10 rfl) rfl)
set_option maxRecDepth 100000 in
theorem lay_1_3 : u_lay RX1 TX1 3 ∈ tblG := (gw_t (tb_2 12 rfl) rfl)
set_option maxRecDepth 100000 in
theorem lay_1_4 : u_lay RX1 TX1 4 ∈ tblG := (gw_t (tb_2 14 rfl) rfl)
set_option maxRecDepth 100000 in
theorem lays_1 : ∀ w ∈ u_ws RX1 TX1 5, w ∈ tblG := List.forall_mem_cons.mpr ⟨lay_1_0, List.forall_mem_cons.mpr ⟨lay_1_1, List.forall_mem_cons.mpr ⟨lay_1_2, List.forall_mem_cons.mpr ⟨lay_1_3, List.forall_mem_cons.mpr ⟨lay_1_4, fun _ h => absurd h List.not_mem_nil⟩⟩⟩⟩⟩
set_option maxRecDepth 100000 in
theorem cok_1 : pm_cok 1 := fun q hq => by
  obtain rfl : (RX1, TX1, 5) = q := Option.some.inj hq
  exact ⟨lays_1, tyX1_ok, nmX1, rfl⟩
set_option maxRecDepth 100000 in
theorem lay_2_0 : u_lay RX2 TX2 0 ∈ tblG := (gw_t (tb_1 98 rfl) rfl)
set_option maxRecDepth 100000 in
theorem lay_2_1 : u_lay RX2 TX2 1 ∈ tblG := (gw_t (tb_1 100 rfl) rfl)
set_option maxRecDepth 100000 in
theorem lay_2_2 : u_lay RX2 TX2 2 ∈ tblG := (gw_t (tb_1 102 rfl) rfl)
set_option maxRecDepth 100000 in
theorem lays_2 : ∀ w ∈ u_ws RX2 TX2 3, w ∈ tblG := List.forall_mem_cons.mpr ⟨lay_2_0, List.forall_mem_cons.mpr ⟨lay_2_1, List.forall_mem_cons.mpr ⟨lay_2_2, fun _ h => absurd h List.not_mem_nil⟩⟩⟩
set_option maxRecDepth 100000 in
theorem cok_2 : pm_cok 2 := fun q hq => by
  obtain rfl : (RX2, TX2, 3) = q := Option.some.inj hq
  exact ⟨lays_2, tyX2_ok, nmX2, rfl⟩
set_option maxRecDepth 100000 in
theorem lay_3_0 : u_lay RX3 TX3 0 ∈ tblG := (gw_t (tb_2 68 rfl) rfl)
set_option maxRecDepth 100000 in
theorem lay_3_1 : u_lay RX3 TX3 1 ∈ tblG := (gw_t (tb_2 70 rfl) rfl)
set_option maxRecDepth 100000 in
theorem lays_3 : ∀ w ∈ u_ws RX3 TX3 2, w ∈ tblG := List.forall_mem_cons.mpr ⟨lay_3_0, List.forall_mem_cons.mpr ⟨lay_3_1, fun _ h => absurd h List.not_mem_nil⟩⟩
set_option maxRecDepth 100000 in
theorem cok_3 : pm_cok 3 := fun q hq => by
  obtain rfl : (RX3, TX3, 2) = q := Option.some.inj hq
  exact ⟨lays_3, tyX3_ok, nmX3, rfl⟩
set_option maxRecDepth 100000 in
theorem lay_4_0 : u_lay RX4 TX4 0 ∈ tblG := (gw_t (tb_1 163 rfl) rfl)
set_option maxRecDepth 100000 in
theorem lay_4_1 : u_lay RX4 TX4 1 ∈ tblG := (gw_t (tb_1 165 rfl) rfl)
set_option maxRecDepth 100000 in
theorem lay_4_2 : u_lay RX4 TX4 2 ∈ tblG := (gw_t (tb_1 167 rfl) rfl)
set_option maxRecDepth 100000 in
theorem lay_4_3 : u_lay RX4 TX4 3 ∈ tblG := (gw_t (tb_1 169 rfl) rfl)
set_option maxRecDepth 100000 in
theorem lay_4_4 : u_lay RX4 TX4 4 ∈ tblG := (gw_t (tb_1 171 rfl) rfl)
set_option maxRecDepth 100000 in
theorem lays_4 : ∀ w ∈ u_ws RX4 TX4 5, w ∈ tblG := List.forall_mem_cons.mpr ⟨lay_4_0, List.forall_mem_cons.mpr ⟨lay_4_1, List.forall_mem_cons.mpr ⟨lay_4_2, List.forall_mem_cons.mpr ⟨lay_4_3, List.forall_mem_cons.mpr ⟨lay_4_4, fun _ h => absurd h List.not_mem_nil⟩⟩⟩⟩⟩
set_option maxRecDepth 100000 in
theorem cok_4 : pm_cok 4 := fun q hq => by
  obtain rfl : (RX4, TX4, 5) = q := Option.some.inj hq
  exact ⟨lays_4, tyX4_ok, nmX4, rfl⟩
set_option maxRecDepth 100000 in
theorem lay_5_0 : u_lay RX5 TX5 0 ∈ tblG := (gw_t (tb_1 220 rfl) rfl)
set_option maxRecDepth 100000 in
theorem lay_5_1 : u_lay RX5 TX5 1 ∈ tblG := (gw_t (tb_1 222 rfl) rfl)
set_option maxRecDepth 100000 in
theorem lay_5_2 : u_lay RX5 TX5 2 ∈ tblG := (gw_t (tb_1 224 rfl) rfl)
set_option maxRecDepth 100000 in
theorem lay_5_3 : u_lay RX5 TX5 3 ∈ tblG := (gw_t (tb_1 226 rfl) rfl)
set_option maxRecDepth 100000 in
theorem lays_5 : ∀ w ∈ u_ws RX5 TX5 4, w ∈ tblG := List.forall_mem_cons.mpr ⟨lay_5_0, List.forall_mem_cons.mpr ⟨lay_5_1, List.forall_mem_cons.mpr ⟨lay_5_2, List.forall_mem_cons.mpr ⟨lay_5_3, fun _ h => absurd h List.not_mem_nil⟩⟩⟩⟩
set_option maxRecDepth 100000 in
theorem cok_5 : pm_cok 5 := fun q hq => by
  obtain rfl : (RX5, TX5, 4) = q := Option.some.inj hq
  exact ⟨lays_5, tyX5_ok, nmX5, rfl⟩
set_option maxRecDepth 100000 in
theorem lay_6_0 : u_lay RX6 TX6 0 ∈ tblG := (gw_t (tb_2 31 rfl) rfl)
set_option maxRecDepth 100000 in
theorem lay_6_1 : u_lay RX6 TX6 1 ∈ tblG := (gw_t (tb_2 33 rfl) rfl)
set_option maxRecDepth 100000 in
theorem lay_6_2 : u_lay RX6 TX6 2 ∈ tblG := (gw_t (tb_2 35 rfl) rfl)
set_option maxRecDepth 100000 in
theorem lay_6_3 : u_lay RX6 TX6 3 ∈ tblG := (gw_t (tb_2 37 rfl) rfl)
set_option maxRecDepth 100000 in
theorem lay_6_4 : u_lay RX6 TX6 4 ∈ tblG := (gw_t (tb_2 39 rfl) rfl)
set_option maxRecDepth 100000 in
theorem lays_6 : ∀ w ∈ u_ws RX6 TX6 5, w ∈ tblG := List.forall_mem_cons.mpr ⟨lay_6_0, List.forall_mem_cons.mpr ⟨lay_6_1, List.forall_mem_cons.mpr ⟨lay_6_2, List.forall_mem_cons.mpr ⟨lay_6_3, List.forall_mem_cons.mpr ⟨lay_6_4, fun _ h => absurd h List.not_mem_nil⟩⟩⟩⟩⟩
set_option maxRecDepth 100000 in
theorem cok_6 : pm_cok 6 := fun q hq => by
  obtain rfl : (RX6, TX6, 5) = q := Option.some.inj hq
  exact ⟨lays_6, tyX6_ok, nmX6, rfl⟩
set_option maxRecDepth 100000 in
theorem lay_7_0 : u_lay RX7 TX7 0 ∈ tblG := (gw_t (tb_1 46 rfl) rfl)
set_option maxRecDepth 100000 in
theorem lay_7_1 : u_lay RX7 TX7 1 ∈ tblG := (gw_t (tb_1 48 rfl) rfl)
set_option maxRecDepth 100000 in
theorem lay_7_2 : u_lay RX7 TX7 2 ∈ tblG := (gw_t (tb_1 50 rfl) rfl)
set_option maxRecDepth 100000 in
theorem lays_7 : ∀ w ∈ u_ws RX7 TX7 3, w ∈ tblG := List.forall_mem_cons.mpr ⟨lay_7_0, List.forall_mem_cons.mpr ⟨lay_7_1, List.forall_mem_cons.mpr ⟨lay_7_2, fun _ h => absurd h List.not_mem_nil⟩⟩⟩
set_option maxRecDepth 100000 in
theorem cok_7 : pm_cok 7 := fun q hq => by
  obtain rfl : (RX7, TX7, 3) = q := Option.some.inj hq
  exact ⟨lays_7, tyX7_ok, nmX7, rfl⟩
set_option maxRecDepth 100000 in
theorem lay_8_0 : u_lay RX8 TX8 0 ∈ tblG := (gw_t (tb_2 51 rfl) rfl)
set_option maxRecDepth 100000 in
theorem lay_8_1 : u_lay RX8 TX8 1 ∈ tblG := (gw_t (tb_2 53 rfl) rfl)
set_option maxRecDepth 100000 in
theorem lay_8_2 : u_lay RX8 TX8 2 ∈ tblG := (gw_t (tb_2 55 rfl) rfl)
set_option maxRecDepth 100000 in
theorem lays_8 : ∀ w ∈ u_ws RX8 TX8 3, w ∈ tblG := List.forall_mem_cons.mpr ⟨lay_8_0, List.forall_mem_cons.mpr ⟨lay_8_1, List.forall_mem_cons.mpr ⟨lay_8_2, fun _ h => absurd h List.not_mem_nil⟩⟩⟩
set_option maxRecDepth 100000 in
theorem cok_8 : pm_cok 8 := fun q hq => by
  obtain rfl : (RX8, TX8, 3) = q := Option.some.inj hq
  exact ⟨lays_8, tyX8_ok, nmX8, rfl⟩
set_option maxRecDepth 100000 in
theorem lay_9_0 : u_lay RX9 TX9 0 ∈ tblG := (gw_t (tb_1 133 rfl) rfl)
set_option maxRecDepth 100000 in
theorem lay_9_1 : u_lay RX9 TX9 1 ∈ tblG := (gw_t (tb_1 135 rfl) rfl)
set_option maxRecDepth 100000 in
theorem lay_9_2 : u_lay RX9 TX9 2 ∈ tblG := (gw_t (tb_1 137 rfl) rfl)
set_option maxRecDepth 100000 in
theorem lay_9_3 : u_lay RX9 TX9 3 ∈ tblG := (gw_t (tb_1 139 rfl) rfl)
set_option maxRecDepth 100000 in
theorem lay_9_4 : u_lay RX9 TX9 4 ∈ tblG := (gw_t (tb_1 141 rfl) rfl)
set_option maxRecDepth 100000 in
theorem lay_9_5 : u_lay RX9 TX9 5 ∈ tblG := (gw_t (tb_1 143 rfl) rfl)
set_option maxRecDepth 100000 in
theorem lay_9_6 : u_lay RX9 TX9 6 ∈ tblG := (gw_t (tb_1 145 rfl) rfl)
set_option maxRecDepth 100000 in
theorem lay_9_7 : u_lay RX9 TX9 7 ∈ tblG := (gw_t (tb_1 147 rfl) rfl)
set_option maxRecDepth 100000 in
theorem lays_9 : ∀ w ∈ u_ws RX9 TX9 8, w ∈ tblG := List.forall_mem_cons.mpr ⟨lay_9_0, List.forall_mem_cons.mpr ⟨lay_9_1, List.forall_mem_cons.mpr ⟨lay_9_2, List.forall_mem_cons.mpr ⟨lay_9_3, List.forall_mem_cons.mpr ⟨lay_9_4, List.forall_mem_cons.mpr ⟨lay_9_5, List.forall_mem_cons.mpr ⟨lay_9_6, List.forall_mem_cons.mpr ⟨lay_9_7, fun _ h => absurd h List.not_mem_nil⟩⟩⟩⟩⟩⟩⟩⟩
set_option maxRecDepth 100000 in
theorem cok_9 : pm_cok 9 := fun q hq => by
  obtain rfl : (RX9, TX9, 8) = q := Option.some.inj hq
  exact ⟨lays_9, tyX9_ok, nmX9, rfl⟩
set_option maxRecDepth 100000 in
theorem lay_10_0 : u_lay RX10 TX10 0 ∈ tblG := (gw_t (tb_1 197 rfl) rfl)
set_option maxRecDepth 100000 in
theorem lay_10_1 : u_lay RX10 TX10 1 ∈ tblG := (gw_t (tb_1 199 rfl) rfl)
set_option maxRecDepth 100000 in
theorem lay_10_2 : u_lay RX10 TX10 2 ∈ tblG := (gw_t (tb_1 201 rfl) rfl)
set_option maxRecDepth 100000 in
theorem lay_10_3 : u_lay RX10 TX10 3 ∈ tblG := (gw_t (tb_1 203 rfl) rfl)
set_option maxRecDepth 100000 in
theorem lay_10_4 : u_lay RX10 TX10 4 ∈ tblG := (gw_t (tb_1 205 rfl) rfl)
set_option maxRecDepth 100000 in
theorem lay_10_5 : u_lay RX10 TX10 5 ∈ tblG := (gw_t (tb_1 207 rfl) rfl)
set_option maxRecDepth 100000 in
theorem lay_10_6 : u_lay RX10 TX10 6 ∈ tblG := (gw_t (tb_1 209 rfl) rfl)
set_option maxRecDepth 100000 in
theorem lays_10 : ∀ w ∈ u_ws RX10 TX10 7, w ∈ tblG := List.forall_mem_cons.mpr ⟨lay_10_0, List.forall_mem_cons.mpr ⟨lay_10_1, List.forall_mem_cons.mpr ⟨lay_10_2, List.forall_mem_cons.mpr ⟨lay_10_3, List.forall_mem_cons.mpr ⟨lay_10_4, List.forall_mem_cons.mpr ⟨lay_10_5, List.forall_mem_cons.mpr ⟨lay_10_6, fun _ h => absurd h List.not_mem_nil⟩⟩⟩⟩⟩⟩⟩
set_option maxRecDepth 100000 in
theorem cok_10 : pm_cok 10 := fun q hq => by
  obtain rfl : (RX10, TX10, 7) = q := Option.some.inj hq
  exact ⟨lays_10, tyX10_ok, nmX10, rfl⟩
set_option maxRecDepth 100000 in
theorem lay_11_0 : u_lay RX11 TX11 0 ∈ tblG := (gw_t (tb_2 89 rfl) rfl)
set_option maxRecDepth 100000 in
theorem lay_11_1 : u_lay RX11 TX11 1 ∈ tblG := (gw_t (tb_2 91 rfl) rfl)
set_option maxRecDepth 100000 in
theorem lay_11_2 : u_lay RX11 TX11 2 ∈ tblG := (gw_t (tb_2 93 rfl) rfl)
set_option maxRecDepth 100000 in
theorem lay_11_3 : u_lay RX11 TX11 3 ∈ tblG := (gw_t (tb_2 95 rfl) rfl)
set_option maxRecDepth 100000 in
theorem lay_11_4 : u_lay RX11 TX11 4 ∈ tblG := (gw_t (tb_2 97 rfl) rfl)
set_option maxRecDepth 100000 in
theorem lay_11_5 : u_lay RX11 TX11 5 ∈ tblG := (gw_t (tb_2 99 rfl) rfl)
set_option maxRecDepth 100000 in
theorem lay_11_6 : u_lay RX11 TX11 6 ∈ tblG := (gw_t (tb_2 101 rfl) rfl)
set_option maxRecDepth 100000 in
theorem lay_11_7 : u_lay RX11 TX11 7 ∈ tblG := (gw_t (tb_2 103 rfl) rfl)
set_option maxRecDepth 100000 in
theorem lay_11_8 : u_lay RX11 TX11 8 ∈ tblG := (gw_t (tb_2 105 rfl) rfl)
set_option maxRecDepth 100000 in
theorem lay_11_9 : u_lay RX11 TX11 9 ∈ tblG := (gw_t (tb_2 107 rfl) rfl)
set_option maxRecDepth 100000 in
theorem lay_11_10 : u_lay RX11 TX11 10 ∈ tblG := (gw_t (tb_2 109 rfl) rfl)
set_option maxRecDepth 100000 in
theorem lay_11_11 : u_lay RX11 TX11 11 ∈ tblG := (gw_t (tb_2 111 rfl) rfl)
set_option maxRecDepth 100000 in
theorem lay_11_12 : u_lay RX11 TX11 12 ∈ tblG := (gw_t (tb_2 113 rfl) rfl)
set_option maxRecDepth 100000 in
theorem lay_11_13 : u_lay RX11 TX11 13 ∈ tblG := (gw_t (tb_2 115 rfl) rfl)
set_option maxRecDepth 100000 in
theorem lay_11_14 : u_lay RX11 TX11 14 ∈ tblG := (gw_t (tb_2 117 rfl) rfl)
set_option maxRecDepth 100000 in
theorem lays_11 : ∀ w ∈ u_ws RX11 TX11 15, w ∈ tblG := List.forall_mem_cons.mpr ⟨lay_11_0, List.forall_mem_cons.mpr ⟨lay_11_1, List.forall_mem_cons.mpr ⟨lay_11_2, List.forall_mem_cons.mpr ⟨lay_11_3, List.forall_mem_cons.mpr ⟨lay_11_4, List.forall_mem_cons.mpr ⟨lay_11_5, List.forall_mem_cons.mpr ⟨lay_11_6, List.forall_mem_cons.mpr ⟨lay_11_7, List.forall_mem_cons.mpr ⟨lay_11_8, List.forall_mem_cons.mpr ⟨lay_11_9, List.forall_mem_cons.mpr ⟨lay_11_10, List.forall_mem_cons.mpr ⟨lay_11_11, List.forall_mem_cons.mpr ⟨lay_11_12, List.forall_mem_cons.mpr ⟨lay_11_13, List.forall_mem_cons.mpr ⟨lay_11_14, fun _ h => absurd h List.not_mem_nil⟩⟩⟩⟩⟩⟩⟩⟩⟩⟩⟩⟩⟩⟩⟩
set_option maxRecDepth 100000 in
theorem cok_11 : pm_cok 11 := fun q hq => by
  obtain rfl : (RX11, TX11, 15) = q := Option.some.inj hq
  exact ⟨lays_11, tyX11_ok, nmX11, rfl⟩
set_option maxRecDepth 100000 in
theorem lay_12_0 : u_lay RX12 TX12 0 ∈ tblG := (gw_t (tb_5 199 rfl) rfl)
set_option maxRecDepth 100000 in
theorem lay_12_1 : u_lay RX12 TX12 1 ∈ tblG := (gw_t (tb_5 201 rfl) rfl)
set_option maxRecDepth 100000 in
theorem lay_12_2 : u_lay RX12 TX12 2 ∈ tblG := (gw_t (tb_5 203 rfl) rfl)
set_option maxRecDepth 100000 in
theorem lay_12_3 : u_lay RX12 TX12 3 ∈ tblG := (gw_t (tb_5 205 rfl) rfl)
set_option maxRecDepth 100000 in
theorem lay_12_4 : u_lay RX12 TX12 4 ∈ tblG := (gw_t (tb_5 207 rfl) rfl)
set_option maxRecDepth 100000 in
theorem lay_12_5 : u_lay RX12 TX12 5 ∈ tblG := (gw_t (tb_5 209 rfl) rfl)
set_option maxRecDepth 100000 in
theorem lay_12_6 : u_lay RX12 TX12 6 ∈ tblG := (gw_t (tb_5 211 rfl) rfl)
set_option maxRecDepth 100000 in
theorem lay_12_7 : u_lay RX12 TX12 7 ∈ tblG := (gw_t (tb_5 213 rfl) rfl)
set_option maxRecDepth 100000 in
theorem lay_12_8 : u_lay RX12 TX12 8 ∈ tblG := (gw_t (tb_5 215 rfl) rfl)
set_option maxRecDepth 100000 in
theorem lay_12_9 : u_lay RX12 TX12 9 ∈ tblG := (gw_t (tb_5 217 rfl) rfl)
set_option maxRecDepth 100000 in
theorem lay_12_10 : u_lay RX12 TX12 10 ∈ tblG := (gw_t (tb_5 219 rfl) rfl)
set_option maxRecDepth 100000 in
theorem lay_12_11 : u_lay RX12 TX12 11 ∈ tblG := (gw_t (tb_5 221 rfl) rfl)
set_option maxRecDepth 100000 in
theorem lay_12_12 : u_lay RX12 TX12 12 ∈ tblG := (gw_t (tb_5 223 rfl) rfl)
set_option maxRecDepth 100000 in
theorem lay_12_13 : u_lay RX12 TX12 13 ∈ tblG := (gw_t (tb_5 225 rfl) rfl)
set_option maxRecDepth 100000 in
theorem lay_12_14 : u_lay RX12 TX12 14 ∈ tblG := (gw_t (tb_5 227 rfl) rfl)
set_option maxRecDepth 100000 in
theorem lay_12_15 : u_lay RX12 TX12 15 ∈ tblG := (gw_t (tb_5 229 rfl) rfl)
set_option maxRecDepth 100000 in
theorem lay_12_16 : u_lay RX12 TX12 16 ∈ tblG := (gw_t (tb_5 231 rfl) rfl)
set_option maxRecDepth 100000 in
theorem lay_12_17 : u_lay RX12 TX12 17 ∈ tblG := (gw_t (tb_5 233 rfl) rfl)
set_option maxRecDepth 100000 in
theorem lay_12_18 : u_lay RX12 TX12 18 ∈ tblG := (gw_t (tb_5 235 rfl) rfl)
set_option maxRecDepth 100000 in
theorem lay_12_19 : u_lay RX12 TX12 19 ∈ tblG := (gw_t (tb_5 237 rfl) rfl)
set_option maxRecDepth 100000 in
theorem lay_12_20 : u_lay RX12 TX12 20 ∈ tblG := (gw_t (tb_5 239 rfl) rfl)
set_option maxRecDepth 100000 in
theorem lay_12_21 : u_lay RX12 TX12 21 ∈ tblG := (gw_t (tb_6 1 rfl) rfl)
set_option maxRecDepth 100000 in
theorem lay_12_22 : u_lay RX12 TX12 22 ∈ tblG := (gw_t (tb_6 3 rfl) rfl)
set_option maxRecDepth 100000 in
theorem lay_12_23 : u_lay RX12 TX12 23 ∈ tblG := (gw_t (tb_6 5 rfl) rfl)
set_option maxRecDepth 100000 in
theorem lay_12_24 : u_lay RX12 TX12 24 ∈ tblG := (gw_t (tb_6 7 rfl) rfl)
set_option maxRecDepth 100000 in
theorem lay_12_25 : u_lay RX12 TX12 25 ∈ tblG := (gw_t (tb_6 9 rfl) rfl)
set_option maxRecDepth 100000 in
theorem lay_12_26 : u_lay RX12 TX12 26 ∈ tblG := (gw_t (tb_6 11 rfl) rfl)
set_option maxRecDepth 100000 in
theorem lay_12_27 : u_lay RX12 TX12 27 ∈ tblG := (gw_t (tb_6 13 rfl) rfl)
set_option maxRecDepth 100000 in
theorem lay_12_28 : u_lay RX12 TX12 28 ∈ tblG := (gw_t (tb_6 15 rfl) rfl)
set_option maxRecDepth 100000 in
theorem lay_12_29 : u_lay RX12 TX12 29 ∈ tblG := (gw_t (tb_6 17 rfl) rfl)
set_option maxRecDepth 100000 in
theorem lay_12_30 : u_lay RX12 TX12 30 ∈ tblG := (gw_t (tb_6 19 rfl) rfl)
set_option maxRecDepth 100000 in
theorem lay_12_31 : u_lay RX12 TX12 31 ∈ tblG := (gw_t (tb_6 21 rfl) rfl)
set_option maxRecDepth 100000 in
theorem lay_12_32 : u_lay RX12 TX12 32 ∈ tblG := (gw_t (tb_6 23 rfl) rfl)
set_option maxRecDepth 100000 in
theorem lay_12_33 : u_lay RX12 TX12 33 ∈ tblG := (gw_t (tb_6 25 rfl) rfl)
set_option maxRecDepth 100000 in
theorem lay_12_34 : u_lay RX12 TX12 34 ∈ tblG := (gw_t (tb_6 27 rfl) rfl)
set_option maxRecDepth 100000 in
theorem lay_12_35 : u_lay RX12 TX12 35 ∈ tblG := (gw_t (tb_6 29 rfl) rfl)
set_option maxRecDepth 100000 in
theorem lay_12_36 : u_lay RX12 TX12 36 ∈ tblG := (gw_t (tb_6 31 rfl) rfl)
set_option maxRecDepth 100000 in
theorem lay_12_37 : u_lay RX12 TX12 37 ∈ tblG := (gw_t (tb_6 33 rfl) rfl)
set_option maxRecDepth 100000 in
theorem lay_12_38 : u_lay RX12 TX12 38 ∈ tblG := (gw_t (tb_6 35 rfl) rfl)
set_option maxRecDepth 100000 in
theorem lay_12_39 : u_lay RX12 TX12 39 ∈ tblG := (gw_t (tb_6 37 rfl) rfl)
set_option maxRecDepth 100000 in
theorem lay_12_40 : u_lay RX12 TX12 40 ∈ tblG := (gw_t (tb_6 39 rfl) rfl)
set_option maxRecDepth 100000 in
theorem lay_12_41 : u_lay RX12 TX12 41 ∈ tblG := (gw_t (tb_6 41 rfl) rfl)
set_option maxRecDepth 100000 in
theorem lay_12_42 : u_lay RX12 TX12 42 ∈ tblG := (gw_t (tb_6 43 rfl) rfl)
set_option maxRecDepth 100000 in
theorem lay_12_43 : u_lay RX12 TX12 43 ∈ tblG := (gw_t (tb_6 45 rfl) rfl)
set_option maxRecDepth 100000 in
theorem lay_12_44 : u_lay RX12 TX12 44 ∈ tblG := (gw_t (tb_6 47 rfl) rfl)
set_option maxRecDepth 100000 in
theorem lay_12_45 : u_lay RX12 TX12 45 ∈ tblG := (gw_t (tb_6 49 rfl) rfl)
set_option maxRecDepth 100000 in
theorem lay_12_46 : u_lay RX12 TX12 46 ∈ tblG := (gw_t (tb_6 51 rfl) rfl)
set_option maxRecDepth 100000 in
theorem lay_12_47 : u_lay RX12 TX12 47 ∈ tblG := (gw_t (tb_6 53 rfl) rfl)
set_option maxRecDepth 100000 in
theorem lay_12_48 : u_lay RX12 TX12 48 ∈ tblG := (gw_t (tb_6 55 rfl) rfl)
set_option maxRecDepth 100000 in
theorem lay_12_49 : u_lay RX12 TX12 49 ∈ tblG := (gw_t (tb_6 57 rfl) rfl)
set_option maxRecDepth 100000 in
theorem lays_12 : ∀ w ∈ u_ws RX12 TX12 50, w ∈ tblG := List.forall_mem_cons.mpr ⟨lay_12_0, List.forall_mem_cons.mpr ⟨lay_12_1, List.forall_mem_cons.mpr ⟨lay_12_2, List.forall_mem_cons.mpr ⟨lay_12_3, List.forall_mem_cons.mpr ⟨lay_12_4, List.forall_mem_cons.mpr ⟨lay_12_5, List.forall_mem_cons.mpr ⟨lay_12_6, List.forall_mem_cons.mpr ⟨lay_12_7, List.forall_mem_cons.mpr ⟨lay_12_8, List.forall_mem_cons.mpr ⟨lay_12_9, List.forall_mem_cons.mpr ⟨lay_12_10, List.forall_mem_cons.mpr ⟨lay_12_11, List.forall_mem_cons.mpr ⟨lay_12_12, List.forall_mem_cons.mpr ⟨lay_12_13, List.forall_mem_cons.mpr ⟨lay_12_14, List.forall_mem_cons.mpr ⟨lay_12_15, List.forall_mem_cons.mpr ⟨lay_12_16, List.forall_mem_cons.mpr ⟨lay_12_17, List.forall_mem_cons.mpr ⟨lay_12_18, List.forall_mem_cons.mpr ⟨lay_12_19, List.forall_mem_cons.mpr ⟨lay_12_20, List.forall_mem_cons.mpr ⟨lay_12_21, List.forall_mem_cons.mpr ⟨lay_12_22, List.forall_mem_cons.mpr ⟨lay_12_23, List.forall_mem_cons.mpr ⟨lay_12_24, List.forall_mem_cons.mpr ⟨lay_12_25, List.forall_mem_cons.mpr ⟨lay_12_26, List.forall_mem_cons.mpr ⟨lay_12_27, List.forall_mem_cons.mpr ⟨lay_12_28, List.forall_mem_cons.mpr ⟨lay_12_29, List.forall_mem_cons.mpr ⟨lay_12_30, List.forall_mem_cons.mpr ⟨lay_12_31, List.forall_mem_cons.mpr ⟨lay_12_32, List.forall_mem_cons.mpr ⟨lay_12_33, List.forall_mem_cons.mpr ⟨lay_12_34, List.forall_mem_cons.mpr ⟨lay_12_35, List.forall_mem_cons.mpr ⟨lay_12_36, List.forall_mem_cons.mpr ⟨lay_12_37, List.forall_mem_cons.mpr ⟨lay_12_38, List.forall_mem_cons.mpr ⟨lay_12_39, List.forall_mem_cons.mpr ⟨lay_12_40, List.forall_mem_cons.mpr ⟨lay_12_41, List.forall_mem_cons.mpr ⟨lay_12_42, List.forall_mem_cons.mpr ⟨lay_12_43, List.forall_mem_cons.mpr ⟨lay_12_44, List.forall_mem_cons.mpr ⟨lay_12_45, List.forall_mem_cons.mpr ⟨lay_12_46, List.forall_mem_cons.mpr ⟨lay_12_47, List.forall_mem_cons.mpr ⟨lay_12_48, List.forall_mem_cons.mpr ⟨lay_12_49, fun _ h => absurd h List.not_mem_nil⟩⟩⟩⟩⟩⟩⟩⟩⟩⟩⟩⟩⟩⟩⟩⟩⟩⟩⟩⟩⟩⟩⟩⟩⟩⟩⟩⟩⟩⟩⟩⟩⟩⟩⟩⟩⟩⟩⟩⟩⟩⟩⟩⟩⟩⟩⟩⟩⟩⟩
set_option maxRecDepth 100000 in
theorem cok_12 : pm_cok 12 := fun q hq => by
  obtain rfl : (RX12, TX12, 50) = q := Option.some.inj hq
  exact ⟨lays_12, tyX12_ok, nmX12, rfl⟩
abbrev mX0_init : PMt := (yX0_init, cX0_init, 2, none)
abbrev mX0_copyFrom : PMt := (yX0_copyFrom, cX0_copyFrom, 2, none)
set_option maxRecDepth 100000 in
theorem mvX0_copyFrom : pm_mv mX0_copyFrom 0 1 := ⟨by decide +kernel, by decide, ⟨by decide +kernel, by decide +kernel, by decide +kernel⟩, (gw_t (tb_2 163 rfl) rfl), (gw_t (tb_2 161 rfl) rfl), (gw_t (tb_2 162 rfl) rfl), (gw_t (tb_1 3 rfl) rfl), _, rfl, rfl⟩
abbrev mX0_has : PMt := (yX0_has, cX0_has, 2, (some .boolean))
set_option maxRecDepth 100000 in
theorem mvX0_has : pm_mv mX0_has 0 1 := ⟨by decide +kernel, by decide, ⟨by decide +kernel, by decide +kernel, by decide +kernel⟩, (gw_t (tb_4 32 rfl) rfl), (gw_t (tb_4 30 rfl) rfl), (gw_t (tb_4 31 rfl) rfl), (gw_t (tb_1 3 rfl) rfl), _, rfl, rfl⟩
abbrev mX0_read : PMt := (yX0_read, cX0_read, 5, (some .int))
set_option maxRecDepth 100000 in
theorem mvX0_read : pm_mv mX0_read 0 1 := ⟨by decide +kernel, by decide, ⟨by decide +kernel, by decide +kernel, by decide +kernel⟩, (gw_t (tb_2 146 rfl) rfl), (gw_t (tb_2 144 rfl) rfl), (gw_t (tb_2 145 rfl) rfl), (gw_t (tb_1 3 rfl) rfl), _, rfl, rfl⟩
abbrev mX0_readExit : PMt := (yX0_readExit, cX0_readExit, 6, (some .int))
set_option maxRecDepth 100000 in
theorem mvX0_readExit : pm_mv mX0_readExit 0 3 := ⟨by decide +kernel, by decide, ⟨by decide +kernel, by decide +kernel, by decide +kernel⟩, (gw_t (tb_2 159 rfl) rfl), (gw_t (tb_2 157 rfl) rfl), (gw_t (tb_2 158 rfl) rfl), (gw_t (tb_1 3 rfl) rfl), _, rfl, rfl⟩
abbrev mX0_shut : PMt := (yX0_shut, cX0_shut, 2, none)
set_option maxRecDepth 100000 in
theorem mvX0_shut : pm_mv mX0_shut 0 1 := ⟨by decide +kernel, by decide, ⟨by decide +kernel, by decide +kernel, by decide +kernel⟩, (gw_t (tb_4 135 rfl) rfl), (gw_t (tb_4 133 rfl) rfl), (gw_t (tb_4 134 rfl) rfl), (gw_t (tb_1 3 rfl) rfl), _, rfl, rfl⟩
abbrev mX0_measure : PMt := (yX0_measure, cX0_measure, 3, none)
set_option maxRecDepth 100000 in
theorem mvX0_measure : pm_mv mX0_measure 0 0 := ⟨by decide +kernel, by decide, ⟨by decide +kernel, by decide +kernel, by decide +kernel⟩, (gw_t (tb_2 170 rfl) rfl), (gw_t (tb_2 168 rfl) rfl), (gw_t (tb_2 169 rfl) rfl), (gw_t (tb_1 3 rfl) rfl), _, rfl, rfl⟩
abbrev mX0_shortenBy : PMt := (yX0_shortenBy, cX0_shortenBy, 6, none)
set_option maxRecDepth 100000 in
theorem mvX0_shortenBy : pm_mv mX0_shortenBy 0 2 := ⟨by decide +kernel, by decide, ⟨by decide +kernel, by decide +kernel, by decide +kernel⟩, (gw_t (tb_2 176 rfl) rfl), (gw_t (tb_2 174 rfl) rfl), (gw_t (tb_2 175 rfl) rfl), (gw_t (tb_1 3 rfl) rfl), _, rfl, rfl⟩
abbrev mX0_between : PMt := (yX0_between, cX0_between, 3, (some .int))
set_option maxRecDepth 100000 in
theorem mvX0_between : pm_mv mX0_between 0 2 := ⟨by decide +kernel, by decide, ⟨by decide +kernel, by decide +kernel, by decide +kernel⟩, (gw_t (tb_3 80 rfl) rfl), (gw_t (tb_3 78 rfl) rfl), (gw_t (tb_3 79 rfl) rfl), (gw_t (tb_1 3 rfl) rfl), _, rfl, rfl⟩
abbrev mX0_beginsWay : PMt := (yX0_beginsWay, cX0_beginsWay, 3, (some .boolean))
set_option maxRecDepth 100000 in
theorem mvX0_beginsWay : pm_mv mX0_beginsWay 0 2 := ⟨by decide +kernel, by decide, ⟨by decide +kernel, by decide +kernel, by decide +kernel⟩, (gw_t (tb_3 99 rfl) rfl), (gw_t (tb_3 97 rfl) rfl), (gw_t (tb_3 98 rfl) rfl), (gw_t (tb_1 3 rfl) rfl), _, rfl, rfl⟩
abbrev mX0_wishAt : PMt := (yX0_wishAt, cX0_wishAt, 3, (some .int))
set_option maxRecDepth 100000 in
theorem mvX0_wishAt : pm_mv mX0_wishAt 0 2 := ⟨by decide +kernel, by decide, ⟨by decide +kernel, by decide +kernel, by decide +kernel⟩, (gw_t (tb_3 94 rfl) rfl), (gw_t (tb_3 92 rfl) rfl), (gw_t (tb_3 93 rfl) rfl), (gw_t (tb_1 3 rfl) rfl), _, rfl, rfl⟩
abbrev mX0_nextOnWay : PMt := (yX0_nextOnWay, cX0_nextOnWay, 6, (some .int))
set_option maxRecDepth 100000 in
theorem mvX0_nextOnWay : pm_mv mX0_nextOnWay 0 2 := ⟨by decide +kernel, by decide, ⟨by decide +kernel, by decide +kernel, by decide +kernel⟩, (gw_t (tb_4 38 rfl) rfl), (gw_t (tb_4 36 rfl) rfl), (gw_t (tb_4 37 rfl) rfl), (gw_t (tb_1 3 rfl) rfl), _, rfl, rfl⟩
abbrev mX1_init : PMt := (yX1_init, cX1_init, 2, none)
abbrev mX1_forgetActs : PMt := (yX1_forgetActs, cX1_forgetActs, 1, none)
set_option maxRecDepth 100000 in
theorem mvX1_forgetActs : pm_mv mX1_forgetActs 1 0 := ⟨by decide +kernel, by decide, ⟨by decide +kernel, by decide +kernel, by decide +kernel⟩, (gw_t (tb_2 192 rfl) rfl), (gw_t (tb_2 190 rfl) rfl), (gw_t (tb_2 191 rfl) rfl), (gw_t (tb_1 9 rfl) rfl), _, rfl, rfl⟩
abbrev mX1_forgetAll : PMt := (yX1_forgetAll, cX1_forgetAll, 2, none)
set_option maxRecDepth 100000 in
theorem mvX1_forgetAll : pm_mv mX1_forgetAll 1 0 := ⟨by decide +kernel, by decide, ⟨by decide +kernel, by decide +kernel, by decide +kernel⟩, (gw_t (tb_2 188 rfl) rfl), (gw_t (tb_2 186 rfl) rfl), (gw_t (tb_2 187 rfl) rfl), (gw_t (tb_1 9 rfl) rfl), _, rfl, rfl⟩
abbrev mX1_add : PMt := (yX1_add, cX1_add, 2, none)
set_option maxRecDepth 100000 in
theorem mvX1_add : pm_mv mX1_add 1 1 := ⟨by decide +kernel, by decide, ⟨by decide +kernel, by decide +kernel, by decide +kernel⟩, (gw_t (tb_3 136 rfl) rfl), (gw_t (tb_3 134 rfl) rfl), (gw_t (tb_3 135 rfl) rfl), (gw_t (tb_1 9 rfl) rfl), _, rfl, rfl⟩
abbrev mX1_back : PMt := (yX1_back, cX1_back, 2, none)
set_option maxRecDepth 100000 in
theorem mvX1_back : pm_mv mX1_back 1 1 := ⟨by decide +kernel, by decide, ⟨by decide +kernel, by decide +kernel, by decide +kernel⟩, (gw_t (tb_4 23 rfl) rfl), (gw_t (tb_4 21 rfl) rfl), (gw_t (tb_4 22 rfl) rfl), (gw_t (tb_1 9 rfl) rfl), _, rfl, rfl⟩
abbrev mX1_keepUnder : PMt := (yX1_keepUnder, cX1_keepUnder, 3, none)
set_option maxRecDepth 100000 in
theorem mvX1_keepUnder : pm_mv mX1_keepUnder 1 2 := ⟨by decide +kernel, by decide, ⟨by decide +kernel, by decide +kernel, by decide +kernel⟩, (gw_t (tb_5 27 rfl) rfl), (gw_t (tb_5 25 rfl) rfl), (gw_t (tb_5 26 rfl) rfl), (gw_t (tb_1 9 rfl) rfl), _, rfl, rfl⟩
abbrev mX2_init : PMt := (yX2_init, cX2_init, 1, none)
abbrev mX2_has : PMt := (yX2_has, cX2_has, 2, (some .boolean))
set_option maxRecDepth 100000 in
theorem mvX2_has : pm_mv mX2_has 2 1 := ⟨by decide +kernel, by decide, ⟨by decide +kernel, by decide +kernel, by decide +kernel⟩, (gw_t (tb_3 210 rfl) rfl), (gw_t (tb_3 208 rfl) rfl), (gw_t (tb_3 209 rfl) rfl), (gw_t (tb_1 4 rfl) rfl), _, rfl, rfl⟩
abbrev mX2_add : PMt := (yX2_add, cX2_add, 3, none)
set_option maxRecDepth 100000 in
theorem mvX2_add : pm_mv mX2_add 2 2 := ⟨by decide +kernel, by decide, ⟨by decide +kernel, by decide +kernel, by decide +kernel⟩, (gw_t (tb_2 226 rfl) rfl), (gw_t (tb_2 224 rfl) rfl), (gw_t (tb_2 225 rfl) rfl), (gw_t (tb_1 4 rfl) rfl), _, rfl, rfl⟩
abbrev mX3_init : PMt := (yX3_init, cX3_init, 1, none)
abbrev mX3_clear : PMt := (yX3_clear, cX3_clear, 1, none)
set_option maxRecDepth 100000 in
theorem mvX3_clear : pm_mv mX3_clear 3 0 := ⟨by decide +kernel, by decide, ⟨by decide +kernel, by decide +kernel, by decide +kernel⟩, (gw_t (tb_3 142 rfl) rfl), (gw_t (tb_3 140 rfl) rfl), (gw_t (tb_3 141 rfl) rfl), (gw_t (tb_1 12 rfl) rfl), _, rfl, rfl⟩
abbrev mX3_add : PMt := (yX3_add, cX3_add, 3, none)
set_option maxRecDepth 100000 in
theorem mvX3_add : pm_mv mX3_add 3 1 := ⟨by decide +kernel, by decide, ⟨by decide +kernel, by decide +kernel, by decide +kernel⟩, (gw_t (tb_3 146 rfl) rfl), (gw_t (tb_3 144 rfl) rfl), (gw_t (tb_3 145 rfl) rfl), (gw_t (tb_1 12 rfl) rfl), _, rfl, rfl⟩
abbrev mX4_init : PMt := (yX4_init, cX4_init, 1, none)
abbrev mX4_copyFrom : PMt := (yX4_copyFrom, cX4_copyFrom, 2, none)
set_option maxRecDepth 100000 in
theorem mvX4_copyFrom : pm_mv mX4_copyFrom 4 1 := ⟨by decide +kernel, by decide, ⟨by decide +kernel, by decide +kernel, by decide +kernel⟩, (gw_t (tb_3 38 rfl) rfl), (gw_t (tb_3 36 rfl) rfl), (gw_t (tb_3 37 rfl) rfl), (gw_t (tb_1 6 rfl) rfl), _, rfl, rfl⟩
abbrev mX4_votesBy : PMt := (yX4_votesBy, cX4_votesBy, 5, (some .int))
set_option maxRecDepth 100000 in
theorem mvX4_votesBy : pm_mv mX4_votesBy 4 1 := ⟨by decide +kernel, by decide, ⟨by decide +kernel, by decide +kernel, by decide +kernel⟩, (gw_t (tb_3 85 rfl) rfl), (gw_t (tb_3 83 rfl) rfl), (gw_t (tb_3 84 rfl) rfl), (gw_t (tb_1 6 rfl) rfl), _, rfl, rfl⟩
abbrev mX4_reckon : PMt := (yX4_reckon, cX4_reckon, 3, (some .int))
set_option maxRecDepth 100000 in
theorem msX4_reckon : pm_ms mX4_reckon 3 := ⟨by decide +kernel, by decide, ⟨by decide +kernel, by decide +kernel, by decide +kernel⟩, (gw_t (tb_3 88 rfl) rfl), (gw_t (tb_3 87 rfl) rfl), (gw_t (tb_1 6 rfl) rfl)⟩
abbrev mX4_read : PMt := (yX4_read, cX4_read, 3, (some .int))
set_option maxRecDepth 100000 in
theorem mvX4_read : pm_mv mX4_read 4 1 := ⟨by decide +kernel, by decide, ⟨by decide +kernel, by decide +kernel, by decide +kernel⟩, (gw_t (tb_3 2 rfl) rfl), (gw_t (tb_3 0 rfl) rfl), (gw_t (tb_3 1 rfl) rfl), (gw_t (tb_1 6 rfl) rfl), _, rfl, rfl⟩
abbrev mX4_add : PMt := (yX4_add, cX4_add, 2, none)
set_option maxRecDepth 100000 in
theorem mvX4_add : pm_mv mX4_add 4 1 := ⟨by decide +kernel, by decide, ⟨by decide +kernel, by decide +kernel, by decide +kernel⟩, (gw_t (tb_3 7 rfl) rfl), (gw_t (tb_3 5 rfl) rfl), (gw_t (tb_3 6 rfl) rfl), (gw_t (tb_1 6 rfl) rfl), _, rfl, rfl⟩
abbrev mX4_readLevel : PMt := (yX4_readLevel, cX4_readLevel, 7, (some .boolean))
set_option maxRecDepth 100000 in
theorem mvX4_readLevel : pm_mv mX4_readLevel 4 3 := ⟨by decide +kernel, by decide, ⟨by decide +kernel, by decide +kernel, by decide +kernel⟩, (gw_t (tb_3 11 rfl) rfl), (gw_t (tb_3 10 rfl) rfl), (gw_s (q := (yX4_readLevel, 5)) 3 rfl rfl), (gw_t (tb_1 6 rfl) rfl), _, rfl, rfl⟩
abbrev mX4_levelOf : PMt := (yX4_levelOf, cX4_levelOf, 1, (some .int))
set_option maxRecDepth 100000 in
theorem msX4_levelOf : pm_ms mX4_levelOf 1 := ⟨by decide +kernel, by decide, ⟨by decide +kernel, by decide +kernel, by decide +kernel⟩, (gw_t (tb_3 34 rfl) rfl), (gw_t (tb_3 33 rfl) rfl), (gw_t (tb_1 6 rfl) rfl)⟩
abbrev mX4_readSigned : PMt := (yX4_readSigned, cX4_readSigned, 5, (some .boolean))
set_option maxRecDepth 100000 in
theorem mvX4_readSigned : pm_mv mX4_readSigned 4 2 := ⟨by decide +kernel, by decide, ⟨by decide +kernel, by decide +kernel, by decide +kernel⟩, (gw_t (tb_3 15 rfl) rfl), (gw_t (tb_3 14 rfl) rfl), (gw_s (q := (yX4_readSigned, 5)) 4 rfl rfl), (gw_t (tb_1 6 rfl) rfl), _, rfl, rfl⟩
abbrev mX4_readThing : PMt := (yX4_readThing, cX4_readThing, 5, (some .boolean))
set_option maxRecDepth 100000 in
theorem mvX4_readThing : pm_mv mX4_readThing 4 2 := ⟨by decide +kernel, by decide, ⟨by decide +kernel, by decide +kernel, by decide +kernel⟩, (gw_t (tb_3 20 rfl) rfl), (gw_t (tb_3 19 rfl) rfl), (gw_s (q := (yX4_readThing, 5)) 5 rfl rfl), (gw_t (tb_1 6 rfl) rfl), _, rfl, rfl⟩
abbrev mX4_thingOf : PMt := (yX4_thingOf, cX4_thingOf, 1, (some .int))
set_option maxRecDepth 100000 in
theorem msX4_thingOf : pm_ms mX4_thingOf 1 := ⟨by decide +kernel, by decide, ⟨by decide +kernel, by decide +kernel, by decide +kernel⟩, (gw_t (tb_3 23 rfl) rfl), (gw_t (tb_3 22 rfl) rfl), (gw_t (tb_1 6 rfl) rfl)⟩
abbrev mX4_readNumber : PMt := (yX4_readNumber, cX4_readNumber, 5, (some .boolean))
set_option maxRecDepth 100000 in
theorem mvX4_readNumber : pm_mv mX4_readNumber 4 1 := ⟨by decide +kernel, by decide, ⟨by decide +kernel, by decide +kernel, by decide +kernel⟩, (gw_t (tb_3 27 rfl) rfl), (gw_t (tb_3 26 rfl) rfl), (gw_s (q := (yX4_readNumber, 5)) 6 rfl rfl), (gw_t (tb_1 6 rfl) rfl), _, rfl, rfl⟩
abbrev mX5_init : PMt := (yX5_init, cX5_init, 1, none)
abbrev mX5_once : PMt := (yX5_once, cX5_once, 8, (some .int))
set_option maxRecDepth 100000 in
theorem mvX5_once : pm_mv mX5_once 5 5 := ⟨by decide +kernel, by decide, ⟨by decide +kernel, by decide +kernel, by decide +kernel⟩, (gw_t (tb_3 67 rfl) rfl), (gw_t (tb_3 65 rfl) rfl), (gw_t (tb_3 66 rfl) rfl), (gw_t (tb_1 7 rfl) rfl), _, rfl, rfl⟩
abbrev mX5_often : PMt := (yX5_often, cX5_often, 9, none)
set_option maxRecDepth 100000 in
theorem mvX5_often : pm_mv mX5_often 5 6 := ⟨by decide +kernel, by decide, ⟨by decide +kernel, by decide +kernel, by decide +kernel⟩, (gw_t (tb_4 54 rfl) rfl), (gw_t (tb_4 52 rfl) rfl), (gw_t (tb_4 53 rfl) rfl), (gw_t (tb_1 7 rfl) rfl), _, rfl, rfl⟩
abbrev mX6_init : PMt := (yX6_init, cX6_init, 2, none)
abbrev mX6_clear : PMt := (yX6_clear, cX6_clear, 2, none)
set_option maxRecDepth 100000 in
theorem mvX6_clear : pm_mv mX6_clear 6 0 := ⟨by decide +kernel, by decide, ⟨by decide +kernel, by decide +kernel, by decide +kernel⟩, (gw_t (tb_2 184 rfl) rfl), (gw_t (tb_2 182 rfl) rfl), (gw_t (tb_2 183 rfl) rfl), (gw_t (tb_1 10 rfl) rfl), _, rfl, rfl⟩
abbrev mX6_add : PMt := (yX6_add, cX6_add, 4, none)
set_option maxRecDepth 100000 in
theorem mvX6_add : pm_mv mX6_add 6 3 := ⟨by decide +kernel, by decide, ⟨by decide +kernel, by decide +kernel, by decide +kernel⟩, (gw_t (tb_4 185 rfl) rfl), (gw_t (tb_4 183 rfl) rfl), (gw_t (tb_4 184 rfl) rfl), (gw_t (tb_1 10 rfl) rfl), _, rfl, rfl⟩
abbrev mX6_waysFrom : PMt := (yX6_waysFrom, cX6_waysFrom, 3, (some .int))
set_option maxRecDepth 100000 in
theorem mvX6_waysFrom : pm_mv mX6_waysFrom 6 2 := ⟨by decide +kernel, by decide, ⟨by decide +kernel, by decide +kernel, by decide +kernel⟩, (gw_t (tb_4 206 rfl) rfl), (gw_t (tb_4 204 rfl) rfl), (gw_t (tb_4 205 rfl) rfl), (gw_t (tb_1 10 rfl) rfl), _, rfl, rfl⟩
abbrev mX6_trace : PMt := (yX6_trace, cX6_trace, 6, none)
set_option maxRecDepth 100000 in
theorem mvX6_trace : pm_mv mX6_trace 6 2 := ⟨by decide +kernel, by decide, ⟨by decide +kernel, by decide +kernel, by decide +kernel⟩, (gw_t (tb_4 198 rfl) rfl), (gw_t (tb_4 196 rfl) rfl), (gw_t (tb_4 197 rfl) rfl), (gw_t (tb_1 10 rfl) rfl), _, rfl, rfl⟩
abbrev mX6_waysOn : PMt := (yX6_waysOn, cX6_waysOn, 6, (some .int))
set_option maxRecDepth 100000 in
theorem mvX6_waysOn : pm_mv mX6_waysOn 6 3 := ⟨by decide +kernel, by decide, ⟨by decide +kernel, by decide +kernel, by decide +kernel⟩, (gw_t (tb_4 202 rfl) rfl), (gw_t (tb_4 200 rfl) rfl), (gw_t (tb_4 201 rfl) rfl), (gw_t (tb_1 10 rfl) rfl), _, rfl, rfl⟩
abbrev mX6_reachedFrom : PMt := (yX6_reachedFrom, cX6_reachedFrom, 6, (some .int))
set_option maxRecDepth 100000 in
theorem mvX6_reachedFrom : pm_mv mX6_reachedFrom 6 2 := ⟨by decide +kernel, by decide, ⟨by decide +kernel, by decide +kernel, by decide +kernel⟩, (gw_t (tb_4 210 rfl) rfl), (gw_t (tb_4 208 rfl) rfl), (gw_t (tb_4 209 rfl) rfl), (gw_t (tb_1 10 rfl) rfl), _, rfl, rfl⟩
abbrev mX6_haltsBehind : PMt := (yX6_haltsBehind, cX6_haltsBehind, 2, (some .int))
set_option maxRecDepth 100000 in
theorem mvX6_haltsBehind : pm_mv mX6_haltsBehind 6 1 := ⟨by decide +kernel, by decide, ⟨by decide +kernel, by decide +kernel, by decide +kernel⟩, (gw_t (tb_4 224 rfl) rfl), (gw_t (tb_4 222 rfl) rfl), (gw_t (tb_4 223 rfl) rfl), (gw_t (tb_1 10 rfl) rfl), _, rfl, rfl⟩
abbrev mX6_tellLeast : PMt := (yX6_tellLeast, cX6_tellLeast, 9, none)
set_option maxRecDepth 100000 in
theorem mvX6_tellLeast : pm_mv mX6_tellLeast 6 3 := ⟨by decide +kernel, by decide, ⟨by decide +kernel, by decide +kernel, by decide +kernel⟩, (gw_t (tb_4 215 rfl) rfl), (gw_t (tb_4 213 rfl) rfl), (gw_t (tb_4 214 rfl) rfl), (gw_t (tb_1 10 rfl) rfl), _, rfl, rfl⟩
abbrev mX7_init : PMt := (yX7_init, cX7_init, 1, none)
abbrev mX7_addFour : PMt := (yX7_addFour, cX7_addFour, 3, none)
set_option maxRecDepth 100000 in
theorem mvX7_addFour : pm_mv mX7_addFour 7 1 := ⟨by decide +kernel, by decide, ⟨by decide +kernel, by decide +kernel, by decide +kernel⟩, (gw_t (tb_2 127 rfl) rfl), (gw_t (tb_2 125 rfl) rfl), (gw_t (tb_2 126 rfl) rfl), (gw_t (tb_1 2 rfl) rfl), _, rfl, rfl⟩
abbrev mX7_boundBy : PMt := (yX7_boundBy, cX7_boundBy, 2, none)
set_option maxRecDepth 100000 in
theorem mvX7_boundBy : pm_mv mX7_boundBy 7 1 := ⟨by decide +kernel, by decide, ⟨by decide +kernel, by decide +kernel, by decide +kernel⟩, (gw_t (tb_2 139 rfl) rfl), (gw_t (tb_2 137 rfl) rfl), (gw_t (tb_2 138 rfl) rfl), (gw_t (tb_1 2 rfl) rfl), _, rfl, rfl⟩
abbrev mX7_at : PMt := (yX7_at, cX7_at, 2, (some .int))
set_option maxRecDepth 100000 in
theorem mvX7_at : pm_mv mX7_at 7 1 := ⟨by decide +kernel, by decide, ⟨by decide +kernel, by decide +kernel, by decide +kernel⟩, (gw_t (tb_2 154 rfl) rfl), (gw_t (tb_2 152 rfl) rfl), (gw_t (tb_2 153 rfl) rfl), (gw_t (tb_1 2 rfl) rfl), _, rfl, rfl⟩
abbrev mX7_numberAt : PMt := (yX7_numberAt, cX7_numberAt, 5, (some .int))
set_option maxRecDepth 100000 in
theorem mvX7_numberAt : pm_mv mX7_numberAt 7 3 := ⟨by decide +kernel, by decide, ⟨by decide +kernel, by decide +kernel, by decide +kernel⟩, (gw_t (tb_2 150 rfl) rfl), (gw_t (tb_2 148 rfl) rfl), (gw_t (tb_2 149 rfl) rfl), (gw_t (tb_1 2 rfl) rfl), _, rfl, rfl⟩
abbrev mX7_digitAt : PMt := (yX7_digitAt, cX7_digitAt, 3, (some .int))
set_option maxRecDepth 100000 in
theorem mvX7_digitAt : pm_mv mX7_digitAt 7 1 := ⟨by decide +kernel, by decide, ⟨by decide +kernel, by decide +kernel, by decide +kernel⟩, (gw_t (tb_3 31 rfl) rfl), (gw_t (tb_3 29 rfl) rfl), (gw_t (tb_3 30 rfl) rfl), (gw_t (tb_1 2 rfl) rfl), _, rfl, rfl⟩
abbrev mX8_init : PMt := (yX8_init, cX8_init, 1, none)
abbrev mX8_plan : PMt := (yX8_plan, cX8_plan, 6, none)
set_option maxRecDepth 100000 in
theorem mvX8_plan : pm_mv mX8_plan 8 3 := ⟨by decide +kernel, by decide, ⟨by decide +kernel, by decide +kernel, by decide +kernel⟩, (gw_t (tb_4 144 rfl) rfl), (gw_t (tb_4 142 rfl) rfl), (gw_t (tb_4 143 rfl) rfl), (gw_t (tb_1 11 rfl) rfl), _, rfl, rfl⟩
abbrev mX8_fewestBy : PMt := (yX8_fewestBy, cX8_fewestBy, 6, (some .int))
set_option maxRecDepth 100000 in
theorem mvX8_fewestBy : pm_mv mX8_fewestBy 8 3 := ⟨by decide +kernel, by decide, ⟨by decide +kernel, by decide +kernel, by decide +kernel⟩, (gw_t (tb_4 150 rfl) rfl), (gw_t (tb_4 148 rfl) rfl), (gw_t (tb_4 149 rfl) rfl), (gw_t (tb_1 11 rfl) rfl), _, rfl, rfl⟩
abbrev mX8_minutesBy : PMt := (yX8_minutesBy, cX8_minutesBy, 5, (some .int))
set_option maxRecDepth 100000 in
theorem mvX8_minutesBy : pm_mv mX8_minutesBy 8 4 := ⟨by decide +kernel, by decide, ⟨by decide +kernel, by decide +kernel, by decide +kernel⟩, (gw_t (tb_4 155 rfl) rfl), (gw_t (tb_4 153 rfl) rfl), (gw_t (tb_4 154 rfl) rfl), (gw_t (tb_1 11 rfl) rfl), _, rfl, rfl⟩
abbrev mX8_minutesInAll : PMt := (yX8_minutesInAll, cX8_minutesInAll, 1, (some .int))
set_option maxRecDepth 100000 in
theorem mvX8_minutesInAll : pm_mv mX8_minutesInAll 8 0 := ⟨by decide +kernel, by decide, ⟨by decide +kernel, by decide +kernel, by decide +kernel⟩, (gw_t (tb_4 160 rfl) rfl), (gw_t (tb_4 158 rfl) rfl), (gw_t (tb_4 159 rfl) rfl), (gw_t (tb_1 11 rfl) rfl), _, rfl, rfl⟩
abbrev mX8_tellOrder : PMt := (yX8_tellOrder, cX8_tellOrder, 7, none)
set_option maxRecDepth 100000 in
theorem mvX8_tellOrder : pm_mv mX8_tellOrder 8 2 := ⟨by decide +kernel, by decide, ⟨by decide +kernel, by decide +kernel, by decide +kernel⟩, (gw_t (tb_4 164 rfl) rfl), (gw_t (tb_4 162 rfl) rfl), (gw_t (tb_4 163 rfl) rfl), (gw_t (tb_1 11 rfl) rfl), _, rfl, rfl⟩
abbrev mX8_nextGoal : PMt := (yX8_nextGoal, cX8_nextGoal, 6, (some .int))
set_option maxRecDepth 100000 in
theorem mvX8_nextGoal : pm_mv mX8_nextGoal 8 3 := ⟨by decide +kernel, by decide, ⟨by decide +kernel, by decide +kernel, by decide +kernel⟩, (gw_t (tb_4 168 rfl) rfl), (gw_t (tb_4 166 rfl) rfl), (gw_t (tb_4 167 rfl) rfl), (gw_t (tb_1 11 rfl) rfl), _, rfl, rfl⟩
abbrev mX9_init : PMt := (yX9_init, cX9_init, 1, none)
abbrev mX9_copyFrom : PMt := (yX9_copyFrom, cX9_copyFrom, 2, none)
set_option maxRecDepth 100000 in
theorem mvX9_copyFrom : pm_mv mX9_copyFrom 9 1 := ⟨by decide +kernel, by decide, ⟨by decide +kernel, by decide +kernel, by decide +kernel⟩, (gw_t (tb_3 58 rfl) rfl), (gw_t (tb_3 56 rfl) rfl), (gw_t (tb_3 57 rfl) rfl), (gw_t (tb_1 5 rfl) rfl), _, rfl, rfl⟩
abbrev mX9_empty : PMt := (yX9_empty, cX9_empty, 1, none)
set_option maxRecDepth 100000 in
theorem mvX9_empty : pm_mv mX9_empty 9 0 := ⟨by decide +kernel, by decide, ⟨by decide +kernel, by decide +kernel, by decide +kernel⟩, (gw_t (tb_2 180 rfl) rfl), (gw_t (tb_2 178 rfl) rfl), (gw_t (tb_2 179 rfl) rfl), (gw_t (tb_1 5 rfl) rfl), _, rfl, rfl⟩
abbrev mX9_has : PMt := (yX9_has, cX9_has, 2, (some .boolean))
set_option maxRecDepth 100000 in
theorem mvX9_has : pm_mv mX9_has 9 1 := ⟨by decide +kernel, by decide, ⟨by decide +kernel, by decide +kernel, by decide +kernel⟩, (gw_t (tb_3 214 rfl) rfl), (gw_t (tb_3 212 rfl) rfl), (gw_t (tb_3 213 rfl) rfl), (gw_t (tb_1 5 rfl) rfl), _, rfl, rfl⟩
abbrev mX9_add : PMt := (yX9_add, cX9_add, 3, none)
set_option maxRecDepth 100000 in
theorem mvX9_add : pm_mv mX9_add 9 1 := ⟨by decide +kernel, by decide, ⟨by decide +kernel, by decide +kernel, by decide +kernel⟩, (gw_t (tb_2 206 rfl) rfl), (gw_t (tb_2 204 rfl) rfl), (gw_t (tb_2 205 rfl) rfl), (gw_t (tb_1 5 rfl) rfl), _, rfl, rfl⟩
abbrev mX9_append : PMt := (yX9_append, cX9_append, 2, none)
set_option maxRecDepth 100000 in
theorem mvX9_append : pm_mv mX9_append 9 1 := ⟨by decide +kernel, by decide, ⟨by decide +kernel, by decide +kernel, by decide +kernel⟩, (gw_t (tb_2 210 rfl) rfl), (gw_t (tb_2 208 rfl) rfl), (gw_t (tb_2 209 rfl) rfl), (gw_t (tb_1 5 rfl) rfl), _, rfl, rfl⟩
abbrev mX9_haltOf : PMt := (yX9_haltOf, cX9_haltOf, 2, (some .int))
set_option maxRecDepth 100000 in
theorem mvX9_haltOf : pm_mv mX9_haltOf 9 1 := ⟨by decide +kernel, by decide, ⟨by decide +kernel, by decide +kernel, by decide +kernel⟩, (gw_t (tb_2 234 rfl) rfl), (gw_t (tb_2 232 rfl) rfl), (gw_t (tb_2 233 rfl) rfl), (gw_t (tb_1 5 rfl) rfl), _, rfl, rfl⟩
abbrev mX9_standingAt : PMt := (yX9_standingAt, cX9_standingAt, 4, (some .int))
set_option maxRecDepth 100000 in
theorem mvX9_standingAt : pm_mv mX9_standingAt 9 1 := ⟨by decide +kernel, by decide, ⟨by decide +kernel, by decide +kernel, by decide +kernel⟩, (gw_t (tb_3 183 rfl) rfl), (gw_t (tb_3 181 rfl) rfl), (gw_t (tb_3 182 rfl) rfl), (gw_t (tb_1 5 rfl) rfl), _, rfl, rfl⟩
abbrev mX9_trainBits : PMt := (yX9_trainBits, cX9_trainBits, 3, (some .int))
set_option maxRecDepth 100000 in
theorem mvX9_trainBits : pm_mv mX9_trainBits 9 0 := ⟨by decide +kernel, by decide, ⟨by decide +kernel, by decide +kernel, by decide +kernel⟩, (gw_t (tb_4 59 rfl) rfl), (gw_t (tb_4 57 rfl) rfl), (gw_t (tb_4 58 rfl) rfl), (gw_t (tb_1 5 rfl) rfl), _, rfl, rfl⟩
abbrev mX9_standingBits : PMt := (yX9_standingBits, cX9_standingBits, 1, (some .int))
set_option maxRecDepth 100000 in
theorem mvX9_standingBits : pm_mv mX9_standingBits 9 0 := ⟨by decide +kernel, by decide, ⟨by decide +kernel, by decide +kernel, by decide +kernel⟩, (gw_t (tb_5 40 rfl) rfl), (gw_t (tb_5 38 rfl) rfl), (gw_t (tb_5 39 rfl) rfl), (gw_t (tb_1 5 rfl) rfl), _, rfl, rfl⟩
abbrev mX9_inside : PMt := (yX9_inside, cX9_inside, 5, (some .int))
set_option maxRecDepth 100000 in
theorem mvX9_inside : pm_mv mX9_inside 9 2 := ⟨by decide +kernel, by decide, ⟨by decide +kernel, by decide +kernel, by decide +kernel⟩, (gw_t (tb_3 163 rfl) rfl), (gw_t (tb_3 161 rfl) rfl), (gw_t (tb_3 162 rfl) rfl), (gw_t (tb_1 5 rfl) rfl), _, rfl, rfl⟩
abbrev mX9_outBits : PMt := (yX9_outBits, cX9_outBits, 2, (some .int))
set_option maxRecDepth 100000 in
theorem mvX9_outBits : pm_mv mX9_outBits 9 1 := ⟨by decide +kernel, by decide, ⟨by decide +kernel, by decide +kernel, by decide +kernel⟩, (gw_t (tb_3 159 rfl) rfl), (gw_t (tb_3 157 rfl) rfl), (gw_t (tb_3 158 rfl) rfl), (gw_t (tb_1 5 rfl) rfl), _, rfl, rfl⟩
abbrev mX9_carries : PMt := (yX9_carries, cX9_carries, 2, (some .boolean))
set_option maxRecDepth 100000 in
theorem mvX9_carries : pm_mv mX9_carries 9 1 := ⟨by decide +kernel, by decide, ⟨by decide +kernel, by decide +kernel, by decide +kernel⟩, (gw_t (tb_4 92 rfl) rfl), (gw_t (tb_4 90 rfl) rfl), (gw_t (tb_4 91 rfl) rfl), (gw_t (tb_1 5 rfl) rfl), _, rfl, rfl⟩
abbrev mX9_carriedBits : PMt := (yX9_carriedBits, cX9_carriedBits, 4, (some .int))
set_option maxRecDepth 100000 in
theorem mvX9_carriedBits : pm_mv mX9_carriedBits 9 1 := ⟨by decide +kernel, by decide, ⟨by decide +kernel, by decide +kernel, by decide +kernel⟩, (gw_t (tb_4 96 rfl) rfl), (gw_t (tb_4 94 rfl) rfl), (gw_t (tb_4 95 rfl) rfl), (gw_t (tb_1 5 rfl) rfl), _, rfl, rfl⟩
abbrev mX9_areNeighbours : PMt := (yX9_areNeighbours, cX9_areNeighbours, 3, (some .boolean))
set_option maxRecDepth 100000 in
theorem mvX9_areNeighbours : pm_mv mX9_areNeighbours 9 2 := ⟨by decide +kernel, by decide, ⟨by decide +kernel, by decide +kernel, by decide +kernel⟩, (gw_t (tb_3 218 rfl) rfl), (gw_t (tb_3 216 rfl) rfl), (gw_t (tb_3 217 rfl) rfl), (gw_t (tb_1 5 rfl) rfl), _, rfl, rfl⟩
abbrev mX9_shorten : PMt := (yX9_shorten, cX9_shorten, 5, (some .int))
set_option maxRecDepth 100000 in
theorem mvX9_shorten : pm_mv mX9_shorten 9 1 := ⟨by decide +kernel, by decide, ⟨by decide +kernel, by decide +kernel, by decide +kernel⟩, (gw_t (tb_3 130 rfl) rfl), (gw_t (tb_3 128 rfl) rfl), (gw_t (tb_3 129 rfl) rfl), (gw_t (tb_1 5 rfl) rfl), _, rfl, rfl⟩
abbrev mX9_leave : PMt := (yX9_leave, cX9_leave, 5, (some .int))
set_option maxRecDepth 100000 in
theorem mvX9_leave : pm_mv mX9_leave 9 3 := ⟨by decide +kernel, by decide, ⟨by decide +kernel, by decide +kernel, by decide +kernel⟩, (gw_t (tb_3 126 rfl) rfl), (gw_t (tb_3 124 rfl) rfl), (gw_t (tb_3 125 rfl) rfl), (gw_t (tb_1 5 rfl) rfl), _, rfl, rfl⟩
abbrev mX9_takeStanding : PMt := (yX9_takeStanding, cX9_takeStanding, 3, (some .int))
set_option maxRecDepth 100000 in
theorem mvX9_takeStanding : pm_mv mX9_takeStanding 9 0 := ⟨by decide +kernel, by decide, ⟨by decide +kernel, by decide +kernel, by decide +kernel⟩, (gw_t (tb_3 179 rfl) rfl), (gw_t (tb_3 177 rfl) rfl), (gw_t (tb_3 178 rfl) rfl), (gw_t (tb_1 5 rfl) rfl), _, rfl, rfl⟩
abbrev mX9_letOut : PMt := (yX9_letOut, cX9_letOut, 4, (some .int))
set_option maxRecDepth 100000 in
theorem mvX9_letOut : pm_mv mX9_letOut 9 1 := ⟨by decide +kernel, by decide, ⟨by decide +kernel, by decide +kernel, by decide +kernel⟩, (gw_t (tb_2 230 rfl) rfl), (gw_t (tb_2 228 rfl) rfl), (gw_t (tb_2 229 rfl) rfl), (gw_t (tb_1 5 rfl) rfl), _, rfl, rfl⟩
abbrev mX10_init : PMt := (yX10_init, cX10_init, 1, none)
abbrev mX10_hold : PMt := (yX10_hold, cX10_hold, 9, none)
set_option maxRecDepth 100000 in
theorem mvX10_hold : pm_mv mX10_hold 10 4 := ⟨by decide +kernel, by decide, ⟨by decide +kernel, by decide +kernel, by decide +kernel⟩, (gw_t (tb_3 71 rfl) rfl), (gw_t (tb_3 69 rfl) rfl), (gw_t (tb_3 70 rfl) rfl), (gw_t (tb_1 8 rfl) rfl), _, rfl, rfl⟩
abbrev mX10_clear : PMt := (yX10_clear, cX10_clear, 4, none)
set_option maxRecDepth 100000 in
theorem mvX10_clear : pm_mv mX10_clear 10 2 := ⟨by decide +kernel, by decide, ⟨by decide +kernel, by decide +kernel, by decide +kernel⟩, (gw_t (tb_3 75 rfl) rfl), (gw_t (tb_3 73 rfl) rfl), (gw_t (tb_3 74 rfl) rfl), (gw_t (tb_1 8 rfl) rfl), _, rfl, rfl⟩
abbrev mX10_choice : PMt := (yX10_choice, cX10_choice, 3, (some .int))
set_option maxRecDepth 100000 in
theorem msX10_choice : pm_ms mX10_choice 3 := ⟨by decide +kernel, by decide, ⟨by decide +kernel, by decide +kernel, by decide +kernel⟩, (gw_t (tb_3 114 rfl) rfl), (gw_t (tb_3 113 rfl) rfl), (gw_t (tb_1 8 rfl) rfl)⟩
abbrev mX10_voteOf : PMt := (yX10_voteOf, cX10_voteOf, 2, (some .int))
set_option maxRecDepth 100000 in
theorem mvX10_voteOf : pm_mv mX10_voteOf 10 1 := ⟨by decide +kernel, by decide, ⟨by decide +kernel, by decide +kernel, by decide +kernel⟩, (gw_t (tb_3 111 rfl) rfl), (gw_t (tb_3 109 rfl) rfl), (gw_t (tb_3 110 rfl) rfl), (gw_t (tb_1 8 rfl) rfl), _, rfl, rfl⟩
abbrev mX10_voteOfAll : PMt := (yX10_voteOfAll, cX10_voteOfAll, 1, (some .int))
set_option maxRecDepth 100000 in
theorem mvX10_voteOfAll : pm_mv mX10_voteOfAll 10 0 := ⟨by decide +kernel, by decide, ⟨by decide +kernel, by decide +kernel, by decide +kernel⟩, (gw_t (tb_3 118 rfl) rfl), (gw_t (tb_3 116 rfl) rfl), (gw_t (tb_3 117 rfl) rfl), (gw_t (tb_1 8 rfl) rfl), _, rfl, rfl⟩
abbrev mX10_voteOfHeads : PMt := (yX10_voteOfHeads, cX10_voteOfHeads, 3, (some .int))
set_option maxRecDepth 100000 in
theorem mvX10_voteOfHeads : pm_mv mX10_voteOfHeads 10 1 := ⟨by decide +kernel, by decide, ⟨by decide +kernel, by decide +kernel, by decide +kernel⟩, (gw_t (tb_3 103 rfl) rfl), (gw_t (tb_3 101 rfl) rfl), (gw_t (tb_3 102 rfl) rfl), (gw_t (tb_1 8 rfl) rfl), _, rfl, rfl⟩
abbrev mX10_alongBy : PMt := (yX10_alongBy, cX10_alongBy, 4, (some .int))
set_option maxRecDepth 100000 in
theorem mvX10_alongBy : pm_mv mX10_alongBy 10 2 := ⟨by decide +kernel, by decide, ⟨by decide +kernel, by decide +kernel, by decide +kernel⟩, (gw_t (tb_3 122 rfl) rfl), (gw_t (tb_3 120 rfl) rfl), (gw_t (tb_3 121 rfl) rfl), (gw_t (tb_1 8 rfl) rfl), _, rfl, rfl⟩
abbrev mX10_clearSome : PMt := (yX10_clearSome, cX10_clearSome, 2, none)
set_option maxRecDepth 100000 in
theorem mvX10_clearSome : pm_mv mX10_clearSome 10 0 := ⟨by decide +kernel, by decide, ⟨by decide +kernel, by decide +kernel, by decide +kernel⟩, (gw_t (tb_3 107 rfl) rfl), (gw_t (tb_3 105 rfl) rfl), (gw_t (tb_3 106 rfl) rfl), (gw_t (tb_1 8 rfl) rfl), _, rfl, rfl⟩
abbrev mX10_votesIn : PMt := (yX10_votesIn, cX10_votesIn, 4, (some .int))
set_option maxRecDepth 100000 in
theorem mvX10_votesIn : pm_mv mX10_votesIn 10 1 := ⟨by decide +kernel, by decide, ⟨by decide +kernel, by decide +kernel, by decide +kernel⟩, (gw_t (tb_4 101 rfl) rfl), (gw_t (tb_4 99 rfl) rfl), (gw_t (tb_4 100 rfl) rfl), (gw_t (tb_1 8 rfl) rfl), _, rfl, rfl⟩
abbrev mX10_othersThan : PMt := (yX10_othersThan, cX10_othersThan, 4, (some .int))
set_option maxRecDepth 100000 in
theorem mvX10_othersThan : pm_mv mX10_othersThan 10 1 := ⟨by decide +kernel, by decide, ⟨by decide +kernel, by decide +kernel, by decide +kernel⟩, (gw_t (tb_4 113 rfl) rfl), (gw_t (tb_4 111 rfl) rfl), (gw_t (tb_4 112 rfl) rfl), (gw_t (tb_1 8 rfl) rfl), _, rfl, rfl⟩
abbrev mX10_isTipping : PMt := (yX10_isTipping, cX10_isTipping, 5, (some .boolean))
set_option maxRecDepth 100000 in
theorem mvX10_isTipping : pm_mv mX10_isTipping 10 2 := ⟨by decide +kernel, by decide, ⟨by decide +kernel, by decide +kernel, by decide +kernel⟩, (gw_t (tb_4 80 rfl) rfl), (gw_t (tb_4 78 rfl) rfl), (gw_t (tb_4 79 rfl) rfl), (gw_t (tb_1 8 rfl) rfl), _, rfl, rfl⟩
abbrev mX10_voteIfWon : PMt := (yX10_voteIfWon, cX10_voteIfWon, 5, (some .int))
set_option maxRecDepth 100000 in
theorem mvX10_voteIfWon : pm_mv mX10_voteIfWon 10 3 := ⟨by decide +kernel, by decide, ⟨by decide +kernel, by decide +kernel, by decide +kernel⟩, (gw_t (tb_4 84 rfl) rfl), (gw_t (tb_4 82 rfl) rfl), (gw_t (tb_4 83 rfl) rfl), (gw_t (tb_1 8 rfl) rfl), _, rfl, rfl⟩
abbrev mX10_voteAmong : PMt := (yX10_voteAmong, cX10_voteAmong, 3, (some .int))
set_option maxRecDepth 100000 in
theorem mvX10_voteAmong : pm_mv mX10_voteAmong 10 1 := ⟨by decide +kernel, by decide, ⟨by decide +kernel, by decide +kernel, by decide +kernel⟩, (gw_t (tb_4 236 rfl) rfl), (gw_t (tb_4 234 rfl) rfl), (gw_t (tb_4 235 rfl) rfl), (gw_t (tb_1 8 rfl) rfl), _, rfl, rfl⟩
abbrev mX11_init : PMt := (yX11_init, cX11_init, 1, none)
abbrev mX11_sign : PMt := (yX11_sign, cX11_sign, 2, (some .int))
set_option maxRecDepth 100000 in
theorem mvX11_sign : pm_mv mX11_sign 11 1 := ⟨by decide +kernel, by decide, ⟨by decide +kernel, by decide +kernel, by decide +kernel⟩, (gw_t (tb_2 123 rfl) rfl), (gw_t (tb_2 121 rfl) rfl), (gw_t (tb_2 122 rfl) rfl), (gw_t (tb_1 1 rfl) rfl), _, rfl, rfl⟩
abbrev mX11_end : PMt := (yX11_end, cX11_end, 2, (some .boolean))
set_option maxRecDepth 100000 in
theorem mvX11_end : pm_mv mX11_end 11 1 := ⟨by decide +kernel, by decide, ⟨by decide +kernel, by decide +kernel, by decide +kernel⟩, (gw_t (tb_2 131 rfl) rfl), (gw_t (tb_2 129 rfl) rfl), (gw_t (tb_2 130 rfl) rfl), (gw_t (tb_1 1 rfl) rfl), _, rfl, rfl⟩
abbrev mX11_net : PMt := (yX11_net, cX11_net, 2, (some .int))
set_option maxRecDepth 100000 in
theorem mvX11_net : pm_mv mX11_net 11 0 := ⟨by decide +kernel, by decide, ⟨by decide +kernel, by decide +kernel, by decide +kernel⟩, (gw_t (tb_2 135 rfl) rfl), (gw_t (tb_2 133 rfl) rfl), (gw_t (tb_2 134 rfl) rfl), (gw_t (tb_1 1 rfl) rfl), _, rfl, rfl⟩
abbrev mX11_coaches : PMt := (yX11_coaches, cX11_coaches, 3, (some .int))
set_option maxRecDepth 100000 in
theorem mvX11_coaches : pm_mv mX11_coaches 11 0 := ⟨by decide +kernel, by decide, ⟨by decide +kernel, by decide +kernel, by decide +kernel⟩, (gw_t (tb_2 196 rfl) rfl), (gw_t (tb_2 194 rfl) rfl), (gw_t (tb_2 195 rfl) rfl), (gw_t (tb_1 1 rfl) rfl), _, rfl, rfl⟩
abbrev mX11_passengers : PMt := (yX11_passengers, cX11_passengers, 3, (some .int))
set_option maxRecDepth 100000 in
theorem mvX11_passengers : pm_mv mX11_passengers 11 0 := ⟨by decide +kernel, by decide, ⟨by decide +kernel, by decide +kernel, by decide +kernel⟩, (gw_t (tb_2 214 rfl) rfl), (gw_t (tb_2 212 rfl) rfl), (gw_t (tb_2 213 rfl) rfl), (gw_t (tb_1 1 rfl) rfl), _, rfl, rfl⟩
abbrev mX11_rule : PMt := (yX11_rule, cX11_rule, 2, (some .int))
set_option maxRecDepth 100000 in
theorem mvX11_rule : pm_mv mX11_rule 11 0 := ⟨by decide +kernel, by decide, ⟨by decide +kernel, by decide +kernel, by decide +kernel⟩, (gw_t (tb_2 238 rfl) rfl), (gw_t (tb_2 236 rfl) rfl), (gw_t (tb_2 237 rfl) rfl), (gw_t (tb_1 1 rfl) rfl), _, rfl, rfl⟩
abbrev mX11_halt : PMt := (yX11_halt, cX11_halt, 3, (some .int))
set_option maxRecDepth 100000 in
theorem mvX11_halt : pm_mv mX11_halt 11 2 := ⟨by decide +kernel, by decide, ⟨by decide +kernel, by decide +kernel, by decide +kernel⟩, (gw_t (tb_5 49 rfl) rfl), (gw_t (tb_5 47 rfl) rfl), (gw_t (tb_5 48 rfl) rfl), (gw_t (tb_1 1 rfl) rfl), _, rfl, rfl⟩
abbrev mX11_coach : PMt := (yX11_coach, cX11_coach, 4, (some .int))
set_option maxRecDepth 100000 in
theorem mvX11_coach : pm_mv mX11_coach 11 2 := ⟨by decide +kernel, by decide, ⟨by decide +kernel, by decide +kernel, by decide +kernel⟩, (gw_t (tb_5 123 rfl) rfl), (gw_t (tb_5 121 rfl) rfl), (gw_t (tb_5 122 rfl) rfl), (gw_t (tb_1 1 rfl) rfl), _, rfl, rfl⟩
abbrev mX11_passenger : PMt := (yX11_passenger, cX11_passenger, 4, (some .int))
set_option maxRecDepth 100000 in
theorem mvX11_passenger : pm_mv mX11_passenger 11 2 := ⟨by decide +kernel, by decide, ⟨by decide +kernel, by decide +kernel, by decide +kernel⟩, (gw_t (tb_5 133 rfl) rfl), (gw_t (tb_5 131 rfl) rfl), (gw_t (tb_5 132 rfl) rfl), (gw_t (tb_1 1 rfl) rfl), _, rfl, rfl⟩
abbrev mX11_sheet : PMt := (yX11_sheet, cX11_sheet, 9, (some .int))
set_option maxRecDepth 100000 in
theorem mvX11_sheet : pm_mv mX11_sheet 11 4 := ⟨by decide +kernel, by decide, ⟨by decide +kernel, by decide +kernel, by decide +kernel⟩, (gw_t (tb_3 43 rfl) rfl), (gw_t (tb_3 41 rfl) rfl), (gw_t (tb_3 42 rfl) rfl), (gw_t (tb_1 1 rfl) rfl), _, rfl, rfl⟩
abbrev mX11_run : PMt := (yX11_run, cX11_run, 2, (some .int))
set_option maxRecDepth 100000 in
theorem mvX11_run : pm_mv mX11_run 11 0 := ⟨by decide +kernel, by decide, ⟨by decide +kernel, by decide +kernel, by decide +kernel⟩, (gw_t (tb_3 54 rfl) rfl), (gw_t (tb_3 52 rfl) rfl), (gw_t (tb_3 53 rfl) rfl), (gw_t (tb_1 1 rfl) rfl), _, rfl, rfl⟩
abbrev mX11_go : PMt := (yX11_go, cX11_go, 4, (some .int))
set_option maxRecDepth 100000 in
theorem mvX11_go : pm_mv mX11_go 11 2 := ⟨by decide +kernel, by decide, ⟨by decide +kernel, by decide +kernel, by decide +kernel⟩, (gw_t (tb_3 150 rfl) rfl), (gw_t (tb_3 148 rfl) rfl), (gw_t (tb_3 149 rfl) rfl), (gw_t (tb_1 1 rfl) rfl), _, rfl, rfl⟩
abbrev mX11_couple : PMt := (yX11_couple, cX11_couple, 1, (some .int))
set_option maxRecDepth 100000 in
theorem mvX11_couple : pm_mv mX11_couple 11 0 := ⟨by decide +kernel, by decide, ⟨by decide +kernel, by decide +kernel, by decide +kernel⟩, (gw_t (tb_3 171 rfl) rfl), (gw_t (tb_3 169 rfl) rfl), (gw_t (tb_3 170 rfl) rfl), (gw_t (tb_1 1 rfl) rfl), _, rfl, rfl⟩
abbrev mX11_cut : PMt := (yX11_cut, cX11_cut, 2, (some .int))
set_option maxRecDepth 100000 in
theorem mvX11_cut : pm_mv mX11_cut 11 1 := ⟨by decide +kernel, by decide, ⟨by decide +kernel, by decide +kernel, by decide +kernel⟩, (gw_t (tb_3 193 rfl) rfl), (gw_t (tb_3 191 rfl) rfl), (gw_t (tb_3 192 rfl) rfl), (gw_t (tb_1 1 rfl) rfl), _, rfl, rfl⟩
abbrev mX11_walk : PMt := (yX11_walk, cX11_walk, 3, (some .int))
set_option maxRecDepth 100000 in
theorem mvX11_walk : pm_mv mX11_walk 11 2 := ⟨by decide +kernel, by decide, ⟨by decide +kernel, by decide +kernel, by decide +kernel⟩, (gw_t (tb_3 202 rfl) rfl), (gw_t (tb_3 200 rfl) rfl), (gw_t (tb_3 201 rfl) rfl), (gw_t (tb_1 1 rfl) rfl), _, rfl, rfl⟩
abbrev mX11_stand : PMt := (yX11_stand, cX11_stand, 2, (some .int))
set_option maxRecDepth 100000 in
theorem mvX11_stand : pm_mv mX11_stand 11 1 := ⟨by decide +kernel, by decide, ⟨by decide +kernel, by decide +kernel, by decide +kernel⟩, (gw_t (tb_3 225 rfl) rfl), (gw_t (tb_3 223 rfl) rfl), (gw_t (tb_3 224 rfl) rfl), (gw_t (tb_1 1 rfl) rfl), _, rfl, rfl⟩
abbrev mX11_night : PMt := (yX11_night, cX11_night, 6, (some .int))
set_option maxRecDepth 100000 in
theorem mvX11_night : pm_mv mX11_night 11 0 := ⟨by decide +kernel, by decide, ⟨by decide +kernel, by decide +kernel, by decide +kernel⟩, (gw_t (tb_3 233 rfl) rfl), (gw_t (tb_3 231 rfl) rfl), (gw_t (tb_3 232 rfl) rfl), (gw_t (tb_1 1 rfl) rfl), _, rfl, rfl⟩
abbrev mX11_undo : PMt := (yX11_undo, cX11_undo, 1, (some .int))
set_option maxRecDepth 100000 in
theorem mvX11_undo : pm_mv mX11_undo 11 0 := ⟨by decide +kernel, by decide, ⟨by decide +kernel, by decide +kernel, by decide +kernel⟩, (gw_t (tb_4 19 rfl) rfl), (gw_t (tb_4 17 rfl) rfl), (gw_t (tb_4 18 rfl) rfl), (gw_t (tb_1 1 rfl) rfl), _, rfl, rfl⟩
abbrev mX11_way : PMt := (yX11_way, cX11_way, 6, (some .int))
set_option maxRecDepth 100000 in
theorem mvX11_way : pm_mv mX11_way 11 2 := ⟨by decide +kernel, by decide, ⟨by decide +kernel, by decide +kernel, by decide +kernel⟩, (gw_t (tb_4 28 rfl) rfl), (gw_t (tb_4 26 rfl) rfl), (gw_t (tb_4 27 rfl) rfl), (gw_t (tb_1 1 rfl) rfl), _, rfl, rfl⟩
abbrev mX11_course : PMt := (yX11_course, cX11_course, 3, (some .int))
set_option maxRecDepth 100000 in
theorem mvX11_course : pm_mv mX11_course 11 0 := ⟨by decide +kernel, by decide, ⟨by decide +kernel, by decide +kernel, by decide +kernel⟩, (gw_t (tb_4 42 rfl) rfl), (gw_t (tb_4 40 rfl) rfl), (gw_t (tb_4 41 rfl) rfl), (gw_t (tb_1 1 rfl) rfl), _, rfl, rfl⟩
abbrev mX11_ahead : PMt := (yX11_ahead, cX11_ahead, 3, (some .int))
set_option maxRecDepth 100000 in
theorem mvX11_ahead : pm_mv mX11_ahead 11 1 := ⟨by decide +kernel, by decide, ⟨by decide +kernel, by decide +kernel, by decide +kernel⟩, (gw_t (tb_4 46 rfl) rfl), (gw_t (tb_4 44 rfl) rfl), (gw_t (tb_4 45 rfl) rfl), (gw_t (tb_1 1 rfl) rfl), _, rfl, rfl⟩
abbrev mX11_arrives : PMt := (yX11_arrives, cX11_arrives, 3, (some .int))
set_option maxRecDepth 100000 in
theorem mvX11_arrives : pm_mv mX11_arrives 11 1 := ⟨by decide +kernel, by decide, ⟨by decide +kernel, by decide +kernel, by decide +kernel⟩, (gw_t (tb_4 63 rfl) rfl), (gw_t (tb_4 61 rfl) rfl), (gw_t (tb_4 62 rfl) rfl), (gw_t (tb_1 1 rfl) rfl), _, rfl, rfl⟩
abbrev mX11_tips : PMt := (yX11_tips, cX11_tips, 5, (some .int))
set_option maxRecDepth 100000 in
theorem mvX11_tips : pm_mv mX11_tips 11 1 := ⟨by decide +kernel, by decide, ⟨by decide +kernel, by decide +kernel, by decide +kernel⟩, (gw_t (tb_4 71 rfl) rfl), (gw_t (tb_4 69 rfl) rfl), (gw_t (tb_4 70 rfl) rfl), (gw_t (tb_1 1 rfl) rfl), _, rfl, rfl⟩
abbrev mX11_power : PMt := (yX11_power, cX11_power, 14, (some .int))
set_option maxRecDepth 100000 in
theorem mvX11_power : pm_mv mX11_power 11 1 := ⟨by decide +kernel, by decide, ⟨by decide +kernel, by decide +kernel, by decide +kernel⟩, (gw_t (tb_4 88 rfl) rfl), (gw_t (tb_4 86 rfl) rfl), (gw_t (tb_4 87 rfl) rfl), (gw_t (tb_1 1 rfl) rfl), _, rfl, rfl⟩
abbrev mX11_lobby : PMt := (yX11_lobby, cX11_lobby, 11, (some .int))
set_option maxRecDepth 100000 in
theorem mvX11_lobby : pm_mv mX11_lobby 11 2 := ⟨by decide +kernel, by decide, ⟨by decide +kernel, by decide +kernel, by decide +kernel⟩, (gw_t (tb_4 109 rfl) rfl), (gw_t (tb_4 107 rfl) rfl), (gw_t (tb_4 108 rfl) rfl), (gw_t (tb_1 1 rfl) rfl), _, rfl, rfl⟩
abbrev mX11_seat : PMt := (yX11_seat, cX11_seat, 6, (some .int))
set_option maxRecDepth 100000 in
theorem mvX11_seat : pm_mv mX11_seat 11 1 := ⟨by decide +kernel, by decide, ⟨by decide +kernel, by decide +kernel, by decide +kernel⟩, (gw_t (tb_4 119 rfl) rfl), (gw_t (tb_4 117 rfl) rfl), (gw_t (tb_4 118 rfl) rfl), (gw_t (tb_1 1 rfl) rfl), _, rfl, rfl⟩
abbrev mX11_reseat : PMt := (yX11_reseat, cX11_reseat, 8, (some .int))
set_option maxRecDepth 100000 in
theorem mvX11_reseat : pm_mv mX11_reseat 11 1 := ⟨by decide +kernel, by decide, ⟨by decide +kernel, by decide +kernel, by decide +kernel⟩, (gw_t (tb_4 123 rfl) rfl), (gw_t (tb_4 121 rfl) rfl), (gw_t (tb_4 122 rfl) rfl), (gw_t (tb_1 1 rfl) rfl), _, rfl, rfl⟩
abbrev mX11_close : PMt := (yX11_close, cX11_close, 6, (some .int))
set_option maxRecDepth 100000 in
theorem mvX11_close : pm_mv mX11_close 11 1 := ⟨by decide +kernel, by decide, ⟨by decide +kernel, by decide +kernel, by decide +kernel⟩, (gw_t (tb_4 131 rfl) rfl), (gw_t (tb_4 129 rfl) rfl), (gw_t (tb_4 130 rfl) rfl), (gw_t (tb_1 1 rfl) rfl), _, rfl, rfl⟩
abbrev mX11_fetch : PMt := (yX11_fetch, cX11_fetch, 3, (some .int))
set_option maxRecDepth 100000 in
theorem mvX11_fetch : pm_mv mX11_fetch 11 1 := ⟨by decide +kernel, by decide, ⟨by decide +kernel, by decide +kernel, by decide +kernel⟩, (gw_t (tb_4 140 rfl) rfl), (gw_t (tb_4 138 rfl) rfl), (gw_t (tb_4 139 rfl) rfl), (gw_t (tb_1 1 rfl) rfl), _, rfl, rfl⟩
abbrev mX11_law : PMt := (yX11_law, cX11_law, 4, (some .int))
set_option maxRecDepth 100000 in
theorem mvX11_law : pm_mv mX11_law 11 0 := ⟨by decide +kernel, by decide, ⟨by decide +kernel, by decide +kernel, by decide +kernel⟩, (gw_t (tb_4 173 rfl) rfl), (gw_t (tb_4 171 rfl) rfl), (gw_t (tb_4 172 rfl) rfl), (gw_t (tb_1 1 rfl) rfl), _, rfl, rfl⟩
abbrev mX11_heads : PMt := (yX11_heads, cX11_heads, 3, (some .int))
set_option maxRecDepth 100000 in
theorem mvX11_heads : pm_mv mX11_heads 11 1 := ⟨by decide +kernel, by decide, ⟨by decide +kernel, by decide +kernel, by decide +kernel⟩, (gw_t (tb_4 177 rfl) rfl), (gw_t (tb_4 175 rfl) rfl), (gw_t (tb_4 176 rfl) rfl), (gw_t (tb_1 1 rfl) rfl), _, rfl, rfl⟩
abbrev mX11_seen : PMt := (yX11_seen, cX11_seen, 5, (some .int))
set_option maxRecDepth 100000 in
theorem mvX11_seen : pm_mv mX11_seen 11 3 := ⟨by decide +kernel, by decide, ⟨by decide +kernel, by decide +kernel, by decide +kernel⟩, (gw_t (tb_4 181 rfl) rfl), (gw_t (tb_4 179 rfl) rfl), (gw_t (tb_4 180 rfl) rfl), (gw_t (tb_1 1 rfl) rfl), _, rfl, rfl⟩
abbrev mX11_forget : PMt := (yX11_forget, cX11_forget, 2, (some .int))
set_option maxRecDepth 100000 in
theorem mvX11_forget : pm_mv mX11_forget 11 0 := ⟨by decide +kernel, by decide, ⟨by decide +kernel, by decide +kernel, by decide +kernel⟩, (gw_t (tb_4 190 rfl) rfl), (gw_t (tb_4 188 rfl) rfl), (gw_t (tb_4 189 rfl) rfl), (gw_t (tb_1 1 rfl) rfl), _, rfl, rfl⟩
abbrev mX11_rows : PMt := (yX11_rows, cX11_rows, 2, (some .int))
set_option maxRecDepth 100000 in
theorem mvX11_rows : pm_mv mX11_rows 11 0 := ⟨by decide +kernel, by decide, ⟨by decide +kernel, by decide +kernel, by decide +kernel⟩, (gw_t (tb_4 194 rfl) rfl), (gw_t (tb_4 192 rfl) rfl), (gw_t (tb_4 193 rfl) rfl), (gw_t (tb_1 1 rfl) rfl), _, rfl, rfl⟩
abbrev mX11_been : PMt := (yX11_been, cX11_been, 3, (some .int))
set_option maxRecDepth 100000 in
theorem mvX11_been : pm_mv mX11_been 11 1 := ⟨by decide +kernel, by decide, ⟨by decide +kernel, by decide +kernel, by decide +kernel⟩, (gw_t (tb_4 220 rfl) rfl), (gw_t (tb_4 218 rfl) rfl), (gw_t (tb_4 219 rfl) rfl), (gw_t (tb_1 1 rfl) rfl), _, rfl, rfl⟩
abbrev mX11_ask : PMt := (yX11_ask, cX11_ask, 5, (some .int))
set_option maxRecDepth 100000 in
theorem mvX11_ask : pm_mv mX11_ask 11 0 := ⟨by decide +kernel, by decide, ⟨by decide +kernel, by decide +kernel, by decide +kernel⟩, (gw_t (tb_4 228 rfl) rfl), (gw_t (tb_4 226 rfl) rfl), (gw_t (tb_4 227 rfl) rfl), (gw_t (tb_1 1 rfl) rfl), _, rfl, rfl⟩
abbrev mX11_odds : PMt := (yX11_odds, cX11_odds, 12, (some .int))
set_option maxRecDepth 100000 in
theorem mvX11_odds : pm_mv mX11_odds 11 3 := ⟨by decide +kernel, by decide, ⟨by decide +kernel, by decide +kernel, by decide +kernel⟩, (gw_t (tb_4 232 rfl) rfl), (gw_t (tb_4 230 rfl) rfl), (gw_t (tb_4 231 rfl) rfl), (gw_t (tb_1 1 rfl) rfl), _, rfl, rfl⟩
abbrev mX11_bargain : PMt := (yX11_bargain, cX11_bargain, 5, (some .int))
set_option maxRecDepth 100000 in
theorem mvX11_bargain : pm_mv mX11_bargain 11 1 := ⟨by decide +kernel, by decide, ⟨by decide +kernel, by decide +kernel, by decide +kernel⟩, (gw_t (tb_5 3 rfl) rfl), (gw_t (tb_5 1 rfl) rfl), (gw_t (tb_5 2 rfl) rfl), (gw_t (tb_1 1 rfl) rfl), _, rfl, rfl⟩
abbrev mX11_nights : PMt := (yX11_nights, cX11_nights, 5, (some .int))
set_option maxRecDepth 100000 in
theorem mvX11_nights : pm_mv mX11_nights 11 2 := ⟨by decide +kernel, by decide, ⟨by decide +kernel, by decide +kernel, by decide +kernel⟩, (gw_t (tb_5 10 rfl) rfl), (gw_t (tb_5 8 rfl) rfl), (gw_t (tb_5 9 rfl) rfl), (gw_t (tb_1 1 rfl) rfl), _, rfl, rfl⟩
abbrev mX11_keep : PMt := (yX11_keep, cX11_keep, 2, (some .boolean))
set_option maxRecDepth 100000 in
theorem mvX11_keep : pm_mv mX11_keep 11 1 := ⟨by decide +kernel, by decide, ⟨by decide +kernel, by decide +kernel, by decide +kernel⟩, (gw_t (tb_5 23 rfl) rfl), (gw_t (tb_5 21 rfl) rfl), (gw_t (tb_5 22 rfl) rfl), (gw_t (tb_1 1 rfl) rfl), _, rfl, rfl⟩
abbrev mX11_again : PMt := (yX11_again, cX11_again, 2, (some .boolean))
set_option maxRecDepth 100000 in
theorem mvX11_again : pm_mv mX11_again 11 1 := ⟨by decide +kernel, by decide, ⟨by decide +kernel, by decide +kernel, by decide +kernel⟩, (gw_t (tb_5 31 rfl) rfl), (gw_t (tb_5 29 rfl) rfl), (gw_t (tb_5 30 rfl) rfl), (gw_t (tb_1 1 rfl) rfl), _, rfl, rfl⟩
abbrev mX11_count : PMt := (yX11_count, cX11_count, 2, (some .int))
set_option maxRecDepth 100000 in
theorem mvX11_count : pm_mv mX11_count 11 1 := ⟨by decide +kernel, by decide, ⟨by decide +kernel, by decide +kernel, by decide +kernel⟩, (gw_t (tb_5 36 rfl) rfl), (gw_t (tb_5 34 rfl) rfl), (gw_t (tb_5 35 rfl) rfl), (gw_t (tb_1 1 rfl) rfl), _, rfl, rfl⟩
abbrev mX11_row : PMt := (yX11_row, cX11_row, 2, (some .long))
set_option maxRecDepth 100000 in
theorem mvX11_row : pm_mv mX11_row 11 1 := ⟨by decide +kernel, by decide, ⟨by decide +kernel, by decide +kernel, by decide +kernel⟩, (gw_t (tb_5 141 rfl) rfl), (gw_t (tb_5 139 rfl) rfl), (gw_t (tb_5 140 rfl) rfl), (gw_t (tb_1 1 rfl) rfl), _, rfl, rfl⟩
abbrev mX11_checkCoaches : PMt := (yX11_checkCoaches, cX11_checkCoaches, 3, (some .int))
set_option maxRecDepth 100000 in
theorem mvX11_checkCoaches : pm_mv mX11_checkCoaches 11 0 := ⟨by decide +kernel, by decide, ⟨by decide +kernel, by decide +kernel, by decide +kernel⟩, (gw_t (tb_2 200 rfl) rfl), (gw_t (tb_2 199 rfl) rfl), (gw_s (q := (yX11_checkCoaches, 15)) 0 rfl rfl), (gw_t (tb_1 1 rfl) rfl), _, rfl, rfl⟩
abbrev mX11_checkPassengers : PMt := (yX11_checkPassengers, cX11_checkPassengers, 3, (some .int))
set_option maxRecDepth 100000 in
theorem mvX11_checkPassengers : pm_mv mX11_checkPassengers 11 0 := ⟨by decide +kernel, by decide, ⟨by decide +kernel, by decide +kernel, by decide +kernel⟩, (gw_t (tb_2 218 rfl) rfl), (gw_t (tb_2 217 rfl) rfl), (gw_s (q := (yX11_checkPassengers, 15)) 1 rfl rfl), (gw_t (tb_1 1 rfl) rfl), _, rfl, rfl⟩
abbrev mX11_addPassenger : PMt := (yX11_addPassenger, cX11_addPassenger, 5, none)
set_option maxRecDepth 100000 in
theorem mvX11_addPassenger : pm_mv mX11_addPassenger 11 1 := ⟨by decide +kernel, by decide, ⟨by decide +kernel, by decide +kernel, by decide +kernel⟩, (gw_t (tb_2 222 rfl) rfl), (gw_t (tb_2 221 rfl) rfl), (gw_s (q := (yX11_addPassenger, 15)) 2 rfl rfl), (gw_t (tb_1 1 rfl) rfl), _, rfl, rfl⟩
abbrev mX11_checkNight : PMt := (yX11_checkNight, cX11_checkNight, 4, (some .int))
set_option maxRecDepth 100000 in
theorem mvX11_checkNight : pm_mv mX11_checkNight 11 0 := ⟨by decide +kernel, by decide, ⟨by decide +kernel, by decide +kernel, by decide +kernel⟩, (gw_t (tb_3 237 rfl) rfl), (gw_t (tb_3 236 rfl) rfl), (gw_s (q := (yX11_checkNight, 15)) 14 rfl rfl), (gw_t (tb_1 1 rfl) rfl), _, rfl, rfl⟩
abbrev mX11_actEnd : PMt := (yX11_actEnd, cX11_actEnd, 2, (some .int))
set_option maxRecDepth 100000 in
theorem mvX11_actEnd : pm_mv mX11_actEnd 11 1 := ⟨by decide +kernel, by decide, ⟨by decide +kernel, by decide +kernel, by decide +kernel⟩, (gw_t (tb_4 1 rfl) rfl), (gw_t (tb_4 0 rfl) rfl), (gw_s (q := (yX11_actEnd, 15)) 15 rfl rfl), (gw_t (tb_1 1 rfl) rfl), _, rfl, rfl⟩
abbrev mX11_actEndBehind : PMt := (yX11_actEndBehind, cX11_actEndBehind, 3, (some .int))
set_option maxRecDepth 100000 in
theorem mvX11_actEndBehind : pm_mv mX11_actEndBehind 11 2 := ⟨by decide +kernel, by decide, ⟨by decide +kernel, by decide +kernel, by decide +kernel⟩, (gw_t (tb_4 6 rfl) rfl), (gw_t (tb_4 5 rfl) rfl), (gw_s (q := (yX11_actEndBehind, 15)) 16 rfl rfl), (gw_t (tb_1 1 rfl) rfl), _, rfl, rfl⟩
abbrev mX11_doAct : PMt := (yX11_doAct, cX11_doAct, 2, (some .int))
set_option maxRecDepth 100000 in
theorem mvX11_doAct : pm_mv mX11_doAct 11 1 := ⟨by decide +kernel, by decide, ⟨by decide +kernel, by decide +kernel, by decide +kernel⟩, (gw_t (tb_4 10 rfl) rfl), (gw_t (tb_4 9 rfl) rfl), (gw_s (q := (yX11_doAct, 15)) 17 rfl rfl), (gw_t (tb_1 1 rfl) rfl), _, rfl, rfl⟩
abbrev mX11_noted : PMt := (yX11_noted, cX11_noted, 2, (some .int))
set_option maxRecDepth 100000 in
theorem mvX11_noted : pm_mv mX11_noted 11 1 := ⟨by decide +kernel, by decide, ⟨by decide +kernel, by decide +kernel, by decide +kernel⟩, (gw_t (tb_3 167 rfl) rfl), (gw_t (tb_3 166 rfl) rfl), (gw_s (q := (yX11_noted, 15)) 9 rfl rfl), (gw_t (tb_1 1 rfl) rfl), _, rfl, rfl⟩
abbrev mX11_makeRun : PMt := (yX11_makeRun, cX11_makeRun, 1, (some .int))
set_option maxRecDepth 100000 in
theorem mvX11_makeRun : pm_mv mX11_makeRun 11 0 := ⟨by decide +kernel, by decide, ⟨by decide +kernel, by decide +kernel, by decide +kernel⟩, (gw_t (tb_3 63 rfl) rfl), (gw_t (tb_3 62 rfl) rfl), (gw_s (q := (yX11_makeRun, 15)) 7 rfl rfl), (gw_t (tb_1 1 rfl) rfl), _, rfl, rfl⟩
abbrev mX11_drive : PMt := (yX11_drive, cX11_drive, 4, (some .int))
set_option maxRecDepth 100000 in
theorem mvX11_drive : pm_mv mX11_drive 11 2 := ⟨by decide +kernel, by decide, ⟨by decide +kernel, by decide +kernel, by decide +kernel⟩, (gw_t (tb_3 154 rfl) rfl), (gw_t (tb_3 153 rfl) rfl), (gw_s (q := (yX11_drive, 15)) 8 rfl rfl), (gw_t (tb_1 1 rfl) rfl), _, rfl, rfl⟩
abbrev mX11_takeStanding : PMt := (yX11_takeStanding, cX11_takeStanding, 2, (some .int))
set_option maxRecDepth 100000 in
theorem mvX11_takeStanding : pm_mv mX11_takeStanding 11 0 := ⟨by decide +kernel, by decide, ⟨by decide +kernel, by decide +kernel, by decide +kernel⟩, (gw_t (tb_3 175 rfl) rfl), (gw_t (tb_3 174 rfl) rfl), (gw_s (q := (yX11_takeStanding, 15)) 10 rfl rfl), (gw_t (tb_1 1 rfl) rfl), _, rfl, rfl⟩
abbrev mX11_uncouple : PMt := (yX11_uncouple, cX11_uncouple, 2, (some .int))
set_option maxRecDepth 100000 in
theorem mvX11_uncouple : pm_mv mX11_uncouple 11 1 := ⟨by decide +kernel, by decide, ⟨by decide +kernel, by decide +kernel, by decide +kernel⟩, (gw_t (tb_3 197 rfl) rfl), (gw_t (tb_3 196 rfl) rfl), (gw_s (q := (yX11_uncouple, 15)) 11 rfl rfl), (gw_t (tb_1 1 rfl) rfl), _, rfl, rfl⟩
abbrev mX11_changeCoach : PMt := (yX11_changeCoach, cX11_changeCoach, 4, (some .int))
set_option maxRecDepth 100000 in
theorem mvX11_changeCoach : pm_mv mX11_changeCoach 11 2 := ⟨by decide +kernel, by decide, ⟨by decide +kernel, by decide +kernel, by decide +kernel⟩, (gw_t (tb_3 206 rfl) rfl), (gw_t (tb_3 205 rfl) rfl), (gw_s (q := (yX11_changeCoach, 15)) 12 rfl rfl), (gw_t (tb_1 1 rfl) rfl), _, rfl, rfl⟩
abbrev mX11_letPass : PMt := (yX11_letPass, cX11_letPass, 2, (some .int))
set_option maxRecDepth 100000 in
theorem mvX11_letPass : pm_mv mX11_letPass 11 1 := ⟨by decide +kernel, by decide, ⟨by decide +kernel, by decide +kernel, by decide +kernel⟩, (gw_t (tb_3 229 rfl) rfl), (gw_t (tb_3 228 rfl) rfl), (gw_s (q := (yX11_letPass, 15)) 13 rfl rfl), (gw_t (tb_1 1 rfl) rfl), _, rfl, rfl⟩
abbrev mX11_heldVote : PMt := (yX11_heldVote, cX11_heldVote, 1, (some (.object "CoachesVote$Voting")))
set_option maxRecDepth 100000 in
theorem mvX11_heldVote : pm_mv mX11_heldVote 11 0 := ⟨by decide +kernel, by decide, ⟨by decide +kernel, by decide +kernel, by decide +kernel⟩, (gw_t (tb_4 75 rfl) rfl), (gw_t (tb_4 74 rfl) rfl), (gw_s (q := (yX11_heldVote, 15)) 21 rfl rfl), (gw_t (tb_1 1 rfl) rfl), _, rfl, rfl⟩
abbrev mX11_outMoreThan : PMt := (yX11_outMoreThan, cX11_outMoreThan, 3, (some .int))
set_option maxRecDepth 100000 in
theorem mvX11_outMoreThan : pm_mv mX11_outMoreThan 11 2 := ⟨by decide +kernel, by decide, ⟨by decide +kernel, by decide +kernel, by decide +kernel⟩, (gw_t (tb_4 14 rfl) rfl), (gw_t (tb_4 13 rfl) rfl), (gw_s (q := (yX11_outMoreThan, 15)) 18 rfl rfl), (gw_t (tb_1 1 rfl) rfl), _, rfl, rfl⟩
abbrev mX11_outMoreIn : PMt := (yX11_outMoreIn, cX11_outMoreIn, 5, (some .int))
set_option maxRecDepth 100000 in
theorem mvX11_outMoreIn : pm_mv mX11_outMoreIn 11 4 := ⟨by decide +kernel, by decide, ⟨by decide +kernel, by decide +kernel, by decide +kernel⟩, (gw_t (tb_4 50 rfl) rfl), (gw_t (tb_4 49 rfl) rfl), (gw_s (q := (yX11_outMoreIn, 15)) 19 rfl rfl), (gw_t (tb_1 1 rfl) rfl), _, rfl, rfl⟩
abbrev mX11_runsTillOut : PMt := (yX11_runsTillOut, cX11_runsTillOut, 7, (some .int))
set_option maxRecDepth 100000 in
theorem mvX11_runsTillOut : pm_mv mX11_runsTillOut 11 2 := ⟨by decide +kernel, by decide, ⟨by decide +kernel, by decide +kernel, by decide +kernel⟩, (gw_t (tb_4 67 rfl) rfl), (gw_t (tb_4 66 rfl) rfl), (gw_s (q := (yX11_runsTillOut, 15)) 20 rfl rfl), (gw_t (tb_1 1 rfl) rfl), _, rfl, rfl⟩
abbrev mX11_canMove : PMt := (yX11_canMove, cX11_canMove, 3, (some .boolean))
set_option maxRecDepth 100000 in
theorem mvX11_canMove : pm_mv mX11_canMove 11 2 := ⟨by decide +kernel, by decide, ⟨by decide +kernel, by decide +kernel, by decide +kernel⟩, (gw_t (tb_4 127 rfl) rfl), (gw_t (tb_4 126 rfl) rfl), (gw_s (q := (yX11_canMove, 15)) 23 rfl rfl), (gw_t (tb_1 1 rfl) rfl), _, rfl, rfl⟩
abbrev mX11_draw : PMt := (yX11_draw, cX11_draw, 2, (some .int))
set_option maxRecDepth 100000 in
theorem mvX11_draw : pm_mv mX11_draw 11 1 := ⟨by decide +kernel, by decide, ⟨by decide +kernel, by decide +kernel, by decide +kernel⟩, (gw_t (tb_5 14 rfl) rfl), (gw_t (tb_5 13 rfl) rfl), (gw_s (q := (yX11_draw, 15)) 24 rfl rfl), (gw_t (tb_1 1 rfl) rfl), _, rfl, rfl⟩
abbrev mX11_drawMove : PMt := (yX11_drawMove, cX11_drawMove, 3, none)
set_option maxRecDepth 100000 in
theorem mvX11_drawMove : pm_mv mX11_drawMove 11 0 := ⟨by decide +kernel, by decide, ⟨by decide +kernel, by decide +kernel, by decide +kernel⟩, (gw_t (tb_5 19 rfl) rfl), (gw_t (tb_5 18 rfl) rfl), (gw_s (q := (yX11_drawMove, 15)) 25 rfl rfl), (gw_t (tb_1 1 rfl) rfl), _, rfl, rfl⟩
abbrev mX11_entryOf : PMt := (yX11_entryOf, cX11_entryOf, 2, (some .int))
set_option maxRecDepth 100000 in
theorem msX11_entryOf : pm_ms mX11_entryOf 2 := ⟨by decide +kernel, by decide, ⟨by decide +kernel, by decide +kernel, by decide +kernel⟩, (gw_t (tb_3 46 rfl) rfl), (gw_t (tb_3 45 rfl) rfl), (gw_t (tb_1 1 rfl) rfl)⟩
abbrev mX11_raised : PMt := (yX11_raised, cX11_raised, 5, (some .long))
set_option maxRecDepth 100000 in
theorem msX11_raised : pm_ms mX11_raised 2 := ⟨by decide +kernel, by decide, ⟨by decide +kernel, by decide +kernel, by decide +kernel⟩, (gw_t (tb_4 239 rfl) rfl), (gw_t (tb_4 238 rfl) rfl), (gw_t (tb_1 1 rfl) rfl)⟩
abbrev mX11_isAtRest : PMt := (yX11_isAtRest, cX11_isAtRest, 4, (some .boolean))
set_option maxRecDepth 100000 in
theorem msX11_isAtRest : pm_ms mX11_isAtRest 3 := ⟨by decide +kernel, by decide, ⟨by decide +kernel, by decide +kernel, by decide +kernel⟩, (gw_t (tb_5 6 rfl) rfl), (gw_t (tb_5 5 rfl) rfl), (gw_t (tb_1 1 rfl) rfl)⟩
abbrev mX11_tellFraction : PMt := (yX11_tellFraction, cX11_tellFraction, 12, none)
set_option maxRecDepth 100000 in
theorem mvX11_tellFraction : pm_mv mX11_tellFraction 11 2 := ⟨by decide +kernel, by decide, ⟨by decide +kernel, by decide +kernel, by decide +kernel⟩, (gw_t (tb_4 105 rfl) rfl), (gw_t (tb_4 104 rfl) rfl), (gw_s (q := (yX11_tellFraction, 15)) 22 rfl rfl), (gw_t (tb_1 1 rfl) rfl), _, rfl, rfl⟩
abbrev mX12_init : PMt := (yX12_init, cX12_init, 1, none)
abbrev mX12_thrown : PMt := (yX12_thrown, cX12_thrown, 1, (some .int))
set_option maxRecDepth 100000 in
theorem mvX12_thrown : pm_mv mX12_thrown 12 0 := ⟨by decide +kernel, by decide, ⟨by decide +kernel, by decide +kernel, by decide +kernel⟩, (gw_t (tb_6 63 rfl) rfl), (gw_t (tb_6 61 rfl) rfl), (gw_t (tb_6 62 rfl) rfl), (gw_t (tb_1 13 rfl) rfl), _, rfl, rfl⟩
abbrev mX12_refuse : PMt := (yX12_refuse, cX12_refuse, 1, (some .int))
set_option maxRecDepth 100000 in
theorem mvX12_refuse : pm_mv mX12_refuse 12 0 := ⟨by decide +kernel, by decide, ⟨by decide +kernel, by decide +kernel, by decide +kernel⟩, (gw_t (tb_7 0 rfl) rfl), (gw_t (tb_6 239 rfl) rfl), (gw_s (q := (yX12_refuse, 50)) 46 rfl rfl), (gw_t (tb_1 13 rfl) rfl), _, rfl, rfl⟩
abbrev mX12_in : PMt := (yX12_in, cX12_in, 6, (some .boolean))
set_option maxRecDepth 100000 in
theorem msX12_in : pm_ms mX12_in 3 := ⟨by decide +kernel, by decide, ⟨by decide +kernel, by decide +kernel, by decide +kernel⟩, (gw_t (tb_6 74 rfl) rfl), (gw_t (tb_6 73 rfl) rfl), (gw_t (tb_1 13 rfl) rfl)⟩
abbrev mX12_has : PMt := (yX12_has, cX12_has, 2, (some .boolean))
set_option maxRecDepth 100000 in
theorem msX12_has : pm_ms mX12_has 2 := ⟨by decide +kernel, by decide, ⟨by decide +kernel, by decide +kernel, by decide +kernel⟩, (gw_t (tb_7 28 rfl) rfl), (gw_t (tb_7 27 rfl) rfl), (gw_t (tb_1 13 rfl) rfl)⟩
abbrev mX12_flag : PMt := (yX12_flag, cX12_flag, 1, (some .int))
set_option maxRecDepth 100000 in
theorem msX12_flag : pm_ms mX12_flag 1 := ⟨by decide +kernel, by decide, ⟨by decide +kernel, by decide +kernel, by decide +kernel⟩, (gw_t (tb_6 94 rfl) rfl), (gw_t (tb_6 93 rfl) rfl), (gw_t (tb_1 13 rfl) rfl)⟩
abbrev mX12_common : PMt := (yX12_common, cX12_common, 4, (some .long))
set_option maxRecDepth 100000 in
theorem msX12_common : pm_ms mX12_common 2 := ⟨by decide +kernel, by decide, ⟨by decide +kernel, by decide +kernel, by decide +kernel⟩, (gw_t (tb_8 2 rfl) rfl), (gw_t (tb_8 1 rfl) rfl), (gw_t (tb_1 13 rfl) rfl)⟩
abbrev mX12_enters : PMt := (yX12_enters, cX12_enters, 3, none)
set_option maxRecDepth 100000 in
theorem mvX12_enters : pm_mv mX12_enters 12 1 := ⟨by decide +kernel, by decide, ⟨by decide +kernel, by decide +kernel, by decide +kernel⟩, (gw_t (tb_7 130 rfl) rfl), (gw_t (tb_7 129 rfl) rfl), (gw_s (q := (yX12_enters, 50)) 70 rfl rfl), (gw_t (tb_1 13 rfl) rfl), _, rfl, rfl⟩
abbrev mX12_tellsFraction : PMt := (yX12_tellsFraction, cX12_tellsFraction, 7, none)
set_option maxRecDepth 100000 in
theorem mvX12_tellsFraction : pm_mv mX12_tellsFraction 12 2 := ⟨by decide +kernel, by decide, ⟨by decide +kernel, by decide +kernel, by decide +kernel⟩, (gw_t (tb_7 239 rfl) rfl), (gw_t (tb_7 238 rfl) rfl), (gw_s (q := (yX12_tellsFraction, 50)) 84 rfl rfl), (gw_t (tb_1 13 rfl) rfl), _, rfl, rfl⟩
abbrev mX12_isHalt : PMt := (yX12_isHalt, cX12_isHalt, 2, (some .boolean))
set_option maxRecDepth 100000 in
theorem mvX12_isHalt : pm_mv mX12_isHalt 12 1 := ⟨by decide +kernel, by decide, ⟨by decide +kernel, by decide +kernel, by decide +kernel⟩, (gw_t (tb_6 235 rfl) rfl), (gw_t (tb_6 234 rfl) rfl), (gw_s (q := (yX12_isHalt, 50)) 45 rfl rfl), (gw_t (tb_1 13 rfl) rfl), _, rfl, rfl⟩
abbrev mX12_isCoach : PMt := (yX12_isCoach, cX12_isCoach, 2, (some .boolean))
set_option maxRecDepth 100000 in
theorem mvX12_isCoach : pm_mv mX12_isCoach 12 1 := ⟨by decide +kernel, by decide, ⟨by decide +kernel, by decide +kernel, by decide +kernel⟩, (gw_t (tb_7 12 rfl) rfl), (gw_t (tb_7 11 rfl) rfl), (gw_s (q := (yX12_isCoach, 50)) 48 rfl rfl), (gw_t (tb_1 13 rfl) rfl), _, rfl, rfl⟩
abbrev mX12_isPassenger : PMt := (yX12_isPassenger, cX12_isPassenger, 2, (some .boolean))
set_option maxRecDepth 100000 in
theorem mvX12_isPassenger : pm_mv mX12_isPassenger 12 1 := ⟨by decide +kernel, by decide, ⟨by decide +kernel, by decide +kernel, by decide +kernel⟩, (gw_t (tb_7 65 rfl) rfl), (gw_t (tb_7 64 rfl) rfl), (gw_s (q := (yX12_isPassenger, 50)) 58 rfl rfl), (gw_t (tb_1 13 rfl) rfl), _, rfl, rfl⟩
abbrev mX12_placeOf : PMt := (yX12_placeOf, cX12_placeOf, 2, (some .int))
set_option maxRecDepth 100000 in
theorem msX12_placeOf : pm_ms mX12_placeOf 2 := ⟨by decide +kernel, by decide, ⟨by decide +kernel, by decide +kernel, by decide +kernel⟩, (gw_t (tb_6 118 rfl) rfl), (gw_t (tb_6 117 rfl) rfl), (gw_t (tb_1 13 rfl) rfl)⟩
abbrev mX12_haltOf : PMt := (yX12_haltOf, cX12_haltOf, 2, (some .int))
set_option maxRecDepth 100000 in
theorem msX12_haltOf : pm_ms mX12_haltOf 2 := ⟨by decide +kernel, by decide, ⟨by decide +kernel, by decide +kernel, by decide +kernel⟩, (gw_t (tb_6 133 rfl) rfl), (gw_t (tb_6 132 rfl) rfl), (gw_t (tb_1 13 rfl) rfl)⟩
abbrev mX12_trainLong : PMt := (yX12_trainLong, cX12_trainLong, 4, (some .int))
set_option maxRecDepth 100000 in
theorem mvX12_trainLong : pm_mv mX12_trainLong 12 1 := ⟨by decide +kernel, by decide, ⟨by decide +kernel, by decide +kernel, by decide +kernel⟩, (gw_t (tb_6 115 rfl) rfl), (gw_t (tb_6 114 rfl) rfl), (gw_s (q := (yX12_trainLong, 50)) 33 rfl rfl), (gw_t (tb_1 13 rfl) rfl), _, rfl, rfl⟩
abbrev mX12_coachAt : PMt := (yX12_coachAt, cX12_coachAt, 5, (some .int))
set_option maxRecDepth 100000 in
theorem mvX12_coachAt : pm_mv mX12_coachAt 12 2 := ⟨by decide +kernel, by decide, ⟨by decide +kernel, by decide +kernel, by decide +kernel⟩, (gw_t (tb_7 114 rfl) rfl), (gw_t (tb_7 113 rfl) rfl), (gw_s (q := (yX12_coachAt, 50)) 66 rfl rfl), (gw_t (tb_1 13 rfl) rfl), _, rfl, rfl⟩
abbrev mX12_train : PMt := (yX12_train, cX12_train, 4, (some .int))
set_option maxRecDepth 100000 in
theorem mvX12_train : pm_mv mX12_train 12 1 := ⟨by decide +kernel, by decide, ⟨by decide +kernel, by decide +kernel, by decide +kernel⟩, (gw_t (tb_7 219 rfl) rfl), (gw_t (tb_7 218 rfl) rfl), (gw_s (q := (yX12_train, 50)) 82 rfl rfl), (gw_t (tb_1 13 rfl) rfl), _, rfl, rfl⟩
abbrev mX12_standingAt : PMt := (yX12_standingAt, cX12_standingAt, 5, (some .int))
set_option maxRecDepth 100000 in
theorem mvX12_standingAt : pm_mv mX12_standingAt 12 2 := ⟨by decide +kernel, by decide, ⟨by decide +kernel, by decide +kernel, by decide +kernel⟩, (gw_t (tb_7 4 rfl) rfl), (gw_t (tb_7 3 rfl) rfl), (gw_s (q := (yX12_standingAt, 50)) 47 rfl rfl), (gw_t (tb_1 13 rfl) rfl), _, rfl, rfl⟩
abbrev mX12_outs : PMt := (yX12_outs, cX12_outs, 4, (some .int))
set_option maxRecDepth 100000 in
theorem mvX12_outs : pm_mv mX12_outs 12 1 := ⟨by decide +kernel, by decide, ⟨by decide +kernel, by decide +kernel, by decide +kernel⟩, (gw_t (tb_7 87 rfl) rfl), (gw_t (tb_7 86 rfl) rfl), (gw_s (q := (yX12_outs, 50)) 60 rfl rfl), (gw_t (tb_1 13 rfl) rfl), _, rfl, rfl⟩
abbrev mX12_sitting : PMt := (yX12_sitting, cX12_sitting, 5, (some .int))
set_option maxRecDepth 100000 in
theorem mvX12_sitting : pm_mv mX12_sitting 12 2 := ⟨by decide +kernel, by decide, ⟨by decide +kernel, by decide +kernel, by decide +kernel⟩, (gw_t (tb_7 21 rfl) rfl), (gw_t (tb_7 20 rfl) rfl), (gw_s (q := (yX12_sitting, 50)) 50 rfl rfl), (gw_t (tb_1 13 rfl) rfl), _, rfl, rfl⟩
abbrev mX12_laysWays : PMt := (yX12_laysWays, cX12_laysWays, 5, none)
set_option maxRecDepth 100000 in
theorem mvX12_laysWays : pm_mv mX12_laysWays 12 0 := ⟨by decide +kernel, by decide, ⟨by decide +kernel, by decide +kernel, by decide +kernel⟩, (gw_t (tb_6 106 rfl) rfl), (gw_t (tb_6 105 rfl) rfl), (gw_s (q := (yX12_laysWays, 50)) 32 rfl rfl), (gw_t (tb_1 13 rfl) rfl), _, rfl, rfl⟩
abbrev mX12_farOf : PMt := (yX12_farOf, cX12_farOf, 3, (some .int))
set_option maxRecDepth 100000 in
theorem mvX12_farOf : pm_mv mX12_farOf 12 2 := ⟨by decide +kernel, by decide, ⟨by decide +kernel, by decide +kernel, by decide +kernel⟩, (gw_t (tb_7 36 rfl) rfl), (gw_t (tb_7 35 rfl) rfl), (gw_s (q := (yX12_farOf, 50)) 53 rfl rfl), (gw_t (tb_1 13 rfl) rfl), _, rfl, rfl⟩
abbrev mX12_beginsWay : PMt := (yX12_beginsWay, cX12_beginsWay, 5, (some .boolean))
set_option maxRecDepth 100000 in
theorem mvX12_beginsWay : pm_mv mX12_beginsWay 12 3 := ⟨by decide +kernel, by decide, ⟨by decide +kernel, by decide +kernel, by decide +kernel⟩, (gw_t (tb_7 40 rfl) rfl), (gw_t (tb_7 39 rfl) rfl), (gw_s (q := (yX12_beginsWay, 50)) 54 rfl rfl), (gw_t (tb_1 13 rfl) rfl), _, rfl, rfl⟩
abbrev mX12_sign : PMt := (yX12_sign, cX12_sign, 3, (some .int))
set_option maxRecDepth 100000 in
theorem mvX12_sign : pm_mv mX12_sign 12 1 := ⟨by decide +kernel, by decide, ⟨by decide +kernel, by decide +kernel, by decide +kernel⟩, (gw_t (tb_6 67 rfl) rfl), (gw_t (tb_6 65 rfl) rfl), (gw_t (tb_6 66 rfl) rfl), (gw_t (tb_1 13 rfl) rfl), _, rfl, rfl⟩
abbrev mX12_end : PMt := (yX12_end, cX12_end, 2, (some .boolean))
set_option maxRecDepth 100000 in
theorem mvX12_end : pm_mv mX12_end 12 1 := ⟨by decide +kernel, by decide, ⟨by decide +kernel, by decide +kernel, by decide +kernel⟩, (gw_t (tb_6 71 rfl) rfl), (gw_t (tb_6 69 rfl) rfl), (gw_t (tb_6 70 rfl) rfl), (gw_t (tb_1 13 rfl) rfl), _, rfl, rfl⟩
abbrev mX12_begins : PMt := (yX12_begins, cX12_begins, 3, (some .int))
set_option maxRecDepth 100000 in
theorem mvX12_begins : pm_mv mX12_begins 12 1 := ⟨by decide +kernel, by decide, ⟨by decide +kernel, by decide +kernel, by decide +kernel⟩, (gw_t (tb_6 82 rfl) rfl), (gw_t (tb_6 81 rfl) rfl), (gw_s (q := (yX12_begins, 50)) 27 rfl rfl), (gw_t (tb_1 13 rfl) rfl), _, rfl, rfl⟩
abbrev mX12_takes : PMt := (yX12_takes, cX12_takes, 3, (some .boolean))
set_option maxRecDepth 100000 in
theorem mvX12_takes : pm_mv mX12_takes 12 1 := ⟨by decide +kernel, by decide, ⟨by decide +kernel, by decide +kernel, by decide +kernel⟩, (gw_t (tb_6 91 rfl) rfl), (gw_t (tb_6 90 rfl) rfl), (gw_s (q := (yX12_takes, 50)) 29 rfl rfl), (gw_t (tb_1 13 rfl) rfl), _, rfl, rfl⟩
abbrev mX12_isDigit : PMt := (yX12_isDigit, cX12_isDigit, 1, (some .boolean))
set_option maxRecDepth 100000 in
theorem mvX12_isDigit : pm_mv mX12_isDigit 12 0 := ⟨by decide +kernel, by decide, ⟨by decide +kernel, by decide +kernel, by decide +kernel⟩, (gw_t (tb_6 157 rfl) rfl), (gw_t (tb_6 156 rfl) rfl), (gw_s (q := (yX12_isDigit, 50)) 40 rfl rfl), (gw_t (tb_1 13 rfl) rfl), _, rfl, rfl⟩
abbrev mX12_among : PMt := (yX12_among, cX12_among, 3, (some .int))
set_option maxRecDepth 100000 in
theorem mvX12_among : pm_mv mX12_among 12 1 := ⟨by decide +kernel, by decide, ⟨by decide +kernel, by decide +kernel, by decide +kernel⟩, (gw_t (tb_6 172 rfl) rfl), (gw_t (tb_6 171 rfl) rfl), (gw_s (q := (yX12_among, 50)) 43 rfl rfl), (gw_t (tb_1 13 rfl) rfl), _, rfl, rfl⟩
abbrev mX12_takesOf : PMt := (yX12_takesOf, cX12_takesOf, 3, (some .int))
set_option maxRecDepth 100000 in
theorem mvX12_takesOf : pm_mv mX12_takesOf 12 1 := ⟨by decide +kernel, by decide, ⟨by decide +kernel, by decide +kernel, by decide +kernel⟩, (gw_t (tb_6 168 rfl) rfl), (gw_t (tb_6 167 rfl) rfl), (gw_s (q := (yX12_takesOf, 50)) 42 rfl rfl), (gw_t (tb_1 13 rfl) rfl), _, rfl, rfl⟩
abbrev mX12_number : PMt := (yX12_number, cX12_number, 4, (some .int))
set_option maxRecDepth 100000 in
theorem mvX12_number : pm_mv mX12_number 12 1 := ⟨by decide +kernel, by decide, ⟨by decide +kernel, by decide +kernel, by decide +kernel⟩, (gw_t (tb_6 163 rfl) rfl), (gw_t (tb_6 162 rfl) rfl), (gw_s (q := (yX12_number, 50)) 41 rfl rfl), (gw_t (tb_1 13 rfl) rfl), _, rfl, rfl⟩
abbrev mX12_signIn : PMt := (yX12_signIn, cX12_signIn, 4, (some .int))
set_option maxRecDepth 100000 in
theorem mvX12_signIn : pm_mv mX12_signIn 12 3 := ⟨by decide +kernel, by decide, ⟨by decide +kernel, by decide +kernel, by decide +kernel⟩, (gw_t (tb_6 87 rfl) rfl), (gw_t (tb_6 86 rfl) rfl), (gw_s (q := (yX12_signIn, 50)) 28 rfl rfl), (gw_t (tb_1 13 rfl) rfl), _, rfl, rfl⟩
abbrev mX12_faultOf : PMt := (yX12_faultOf, cX12_faultOf, 5, (some .int))
set_option maxRecDepth 100000 in
theorem mvX12_faultOf : pm_mv mX12_faultOf 12 3 := ⟨by decide +kernel, by decide, ⟨by decide +kernel, by decide +kernel, by decide +kernel⟩, (gw_t (tb_6 102 rfl) rfl), (gw_t (tb_6 101 rfl) rfl), (gw_s (q := (yX12_faultOf, 50)) 31 rfl rfl), (gw_t (tb_1 13 rfl) rfl), _, rfl, rfl⟩
abbrev mX12_readsExit : PMt := (yX12_readsExit, cX12_readsExit, 3, (some .boolean))
set_option maxRecDepth 100000 in
theorem mvX12_readsExit : pm_mv mX12_readsExit 12 2 := ⟨by decide +kernel, by decide, ⟨by decide +kernel, by decide +kernel, by decide +kernel⟩, (gw_t (tb_6 98 rfl) rfl), (gw_t (tb_6 97 rfl) rfl), (gw_s (q := (yX12_readsExit, 50)) 30 rfl rfl), (gw_t (tb_1 13 rfl) rfl), _, rfl, rfl⟩
abbrev mX12_net : PMt := (yX12_net, cX12_net, 6, (some .int))
set_option maxRecDepth 100000 in
theorem mvX12_net : pm_mv mX12_net 12 0 := ⟨by decide +kernel, by decide, ⟨by decide +kernel, by decide +kernel, by decide +kernel⟩, (gw_t (tb_6 78 rfl) rfl), (gw_t (tb_6 76 rfl) rfl), (gw_t (tb_6 77 rfl) rfl), (gw_t (tb_1 13 rfl) rfl), _, rfl, rfl⟩
abbrev mX12_coaches : PMt := (yX12_coaches, cX12_coaches, 5, (some .int))
set_option maxRecDepth 100000 in
theorem mvX12_coaches : pm_mv mX12_coaches 12 0 := ⟨by decide +kernel, by decide, ⟨by decide +kernel, by decide +kernel, by decide +kernel⟩, (gw_t (tb_6 111 rfl) rfl), (gw_t (tb_6 109 rfl) rfl), (gw_t (tb_6 110 rfl) rfl), (gw_t (tb_1 13 rfl) rfl), _, rfl, rfl⟩
abbrev mX12_came : PMt := (yX12_came, cX12_came, 1, (some .int))
set_option maxRecDepth 100000 in
theorem mvX12_came : pm_mv mX12_came 12 0 := ⟨by decide +kernel, by decide, ⟨by decide +kernel, by decide +kernel, by decide +kernel⟩, (gw_t (tb_6 122 rfl) rfl), (gw_t (tb_6 121 rfl) rfl), (gw_s (q := (yX12_came, 50)) 34 rfl rfl), (gw_t (tb_1 13 rfl) rfl), _, rfl, rfl⟩
abbrev mX12_readsPassenger : PMt := (yX12_readsPassenger, cX12_readsPassenger, 2, (some .boolean))
set_option maxRecDepth 100000 in
theorem mvX12_readsPassenger : pm_mv mX12_readsPassenger 12 0 := ⟨by decide +kernel, by decide, ⟨by decide +kernel, by decide +kernel, by decide +kernel⟩, (gw_t (tb_6 130 rfl) rfl), (gw_t (tb_6 129 rfl) rfl), (gw_s (q := (yX12_readsPassenger, 50)) 35 rfl rfl), (gw_t (tb_1 13 rfl) rfl), _, rfl, rfl⟩
abbrev mX12_passengers : PMt := (yX12_passengers, cX12_passengers, 6, (some .int))
set_option maxRecDepth 100000 in
theorem mvX12_passengers : pm_mv mX12_passengers 12 0 := ⟨by decide +kernel, by decide, ⟨by decide +kernel, by decide +kernel, by decide +kernel⟩, (gw_t (tb_6 126 rfl) rfl), (gw_t (tb_6 124 rfl) rfl), (gw_t (tb_6 125 rfl) rfl), (gw_t (tb_1 13 rfl) rfl), _, rfl, rfl⟩
abbrev mX12_codes : PMt := (yX12_codes, cX12_codes, 2, none)
set_option maxRecDepth 100000 in
theorem mvX12_codes : pm_mv mX12_codes 12 1 := ⟨by decide +kernel, by decide, ⟨by decide +kernel, by decide +kernel, by decide +kernel⟩, (gw_t (tb_6 153 rfl) rfl), (gw_t (tb_6 152 rfl) rfl), (gw_s (q := (yX12_codes, 50)) 39 rfl rfl), (gw_t (tb_1 13 rfl) rfl), _, rfl, rfl⟩
abbrev mX12_readsThing : PMt := (yX12_readsThing, cX12_readsThing, 2, (some .boolean))
set_option maxRecDepth 100000 in
theorem mvX12_readsThing : pm_mv mX12_readsThing 12 0 := ⟨by decide +kernel, by decide, ⟨by decide +kernel, by decide +kernel, by decide +kernel⟩, (gw_t (tb_6 149 rfl) rfl), (gw_t (tb_6 148 rfl) rfl), (gw_s (q := (yX12_readsThing, 50)) 38 rfl rfl), (gw_t (tb_1 13 rfl) rfl), _, rfl, rfl⟩
abbrev mX12_readsRank : PMt := (yX12_readsRank, cX12_readsRank, 4, (some .boolean))
set_option maxRecDepth 100000 in
theorem mvX12_readsRank : pm_mv mX12_readsRank 12 1 := ⟨by decide +kernel, by decide, ⟨by decide +kernel, by decide +kernel, by decide +kernel⟩, (gw_t (tb_6 145 rfl) rfl), (gw_t (tb_6 144 rfl) rfl), (gw_s (q := (yX12_readsRank, 50)) 37 rfl rfl), (gw_t (tb_1 13 rfl) rfl), _, rfl, rfl⟩
abbrev mX12_readsRule : PMt := (yX12_readsRule, cX12_readsRule, 3, (some .int))
set_option maxRecDepth 100000 in
theorem mvX12_readsRule : pm_mv mX12_readsRule 12 0 := ⟨by decide +kernel, by decide, ⟨by decide +kernel, by decide +kernel, by decide +kernel⟩, (gw_t (tb_6 141 rfl) rfl), (gw_t (tb_6 140 rfl) rfl), (gw_s (q := (yX12_readsRule, 50)) 36 rfl rfl), (gw_t (tb_1 13 rfl) rfl), _, rfl, rfl⟩
abbrev mX12_laysCode : PMt := (yX12_laysCode, cX12_laysCode, 4, none)
set_option maxRecDepth 100000 in
theorem mvX12_laysCode : pm_mv mX12_laysCode 12 2 := ⟨by decide +kernel, by decide, ⟨by decide +kernel, by decide +kernel, by decide +kernel⟩, (gw_t (tb_6 227 rfl) rfl), (gw_t (tb_6 226 rfl) rfl), (gw_s (q := (yX12_laysCode, 50)) 44 rfl rfl), (gw_t (tb_1 13 rfl) rfl), _, rfl, rfl⟩
abbrev mX12_rule : PMt := (yX12_rule, cX12_rule, 2, (some .int))
set_option maxRecDepth 100000 in
theorem mvX12_rule : pm_mv mX12_rule 12 0 := ⟨by decide +kernel, by decide, ⟨by decide +kernel, by decide +kernel, by decide +kernel⟩, (gw_t (tb_6 137 rfl) rfl), (gw_t (tb_6 135 rfl) rfl), (gw_t (tb_6 136 rfl) rfl), (gw_t (tb_1 13 rfl) rfl), _, rfl, rfl⟩
abbrev mX12_worked : PMt := (yX12_worked, cX12_worked, 3, (some .int))
set_option maxRecDepth 100000 in
theorem msX12_worked : pm_ms mX12_worked 3 := ⟨by decide +kernel, by decide, ⟨by decide +kernel, by decide +kernel, by decide +kernel⟩, (gw_t (tb_7 52 rfl) rfl), (gw_t (tb_7 51 rfl) rfl), (gw_t (tb_1 13 rfl) rfl)⟩
abbrev mX12_ruled : PMt := (yX12_ruled, cX12_ruled, 4, (some .int))
set_option maxRecDepth 100000 in
theorem mvX12_ruled : pm_mv mX12_ruled 12 0 := ⟨by decide +kernel, by decide, ⟨by decide +kernel, by decide +kernel, by decide +kernel⟩, (gw_t (tb_7 49 rfl) rfl), (gw_t (tb_7 48 rfl) rfl), (gw_s (q := (yX12_ruled, 50)) 56 rfl rfl), (gw_t (tb_1 13 rfl) rfl), _, rfl, rfl⟩
abbrev mX12_votesOf : PMt := (yX12_votesOf, cX12_votesOf, 5, (some .int))
set_option maxRecDepth 100000 in
theorem mvX12_votesOf : pm_mv mX12_votesOf 12 2 := ⟨by decide +kernel, by decide, ⟨by decide +kernel, by decide +kernel, by decide +kernel⟩, (gw_t (tb_7 44 rfl) rfl), (gw_t (tb_7 43 rfl) rfl), (gw_s (q := (yX12_votesOf, 50)) 55 rfl rfl), (gw_t (tb_1 13 rfl) rfl), _, rfl, rfl⟩
abbrev mX12_wishOf : PMt := (yX12_wishOf, cX12_wishOf, 4, (some .int))
set_option maxRecDepth 100000 in
theorem mvX12_wishOf : pm_mv mX12_wishOf 12 2 := ⟨by decide +kernel, by decide, ⟨by decide +kernel, by decide +kernel, by decide +kernel⟩, (gw_t (tb_7 32 rfl) rfl), (gw_t (tb_7 31 rfl) rfl), (gw_s (q := (yX12_wishOf, 50)) 52 rfl rfl), (gw_t (tb_1 13 rfl) rfl), _, rfl, rfl⟩
abbrev mX12_polls : PMt := (yX12_polls, cX12_polls, 4, none)
set_option maxRecDepth 100000 in
theorem mvX12_polls : pm_mv mX12_polls 12 2 := ⟨by decide +kernel, by decide, ⟨by decide +kernel, by decide +kernel, by decide +kernel⟩, (gw_t (tb_7 25 rfl) rfl), (gw_t (tb_7 24 rfl) rfl), (gw_s (q := (yX12_polls, 50)) 51 rfl rfl), (gw_t (tb_1 13 rfl) rfl), _, rfl, rfl⟩
abbrev mX12_polled : PMt := (yX12_polled, cX12_polled, 2, (some .int))
set_option maxRecDepth 100000 in
theorem mvX12_polled : pm_mv mX12_polled 12 0 := ⟨by decide +kernel, by decide, ⟨by decide +kernel, by decide +kernel, by decide +kernel⟩, (gw_t (tb_7 57 rfl) rfl), (gw_t (tb_7 56 rfl) rfl), (gw_s (q := (yX12_polled, 50)) 57 rfl rfl), (gw_t (tb_1 13 rfl) rfl), _, rfl, rfl⟩
abbrev mX12_voteOf : PMt := (yX12_voteOf, cX12_voteOf, 3, (some .int))
set_option maxRecDepth 100000 in
theorem mvX12_voteOf : pm_mv mX12_voteOf 12 2 := ⟨by decide +kernel, by decide, ⟨by decide +kernel, by decide +kernel, by decide +kernel⟩, (gw_t (tb_7 17 rfl) rfl), (gw_t (tb_7 16 rfl) rfl), (gw_s (q := (yX12_voteOf, 50)) 49 rfl rfl), (gw_t (tb_1 13 rfl) rfl), _, rfl, rfl⟩
abbrev mX12_riding : PMt := (yX12_riding, cX12_riding, 4, (some .int))
set_option maxRecDepth 100000 in
theorem mvX12_riding : pm_mv mX12_riding 12 1 := ⟨by decide +kernel, by decide, ⟨by decide +kernel, by decide +kernel, by decide +kernel⟩, (gw_t (tb_7 99 rfl) rfl), (gw_t (tb_7 98 rfl) rfl), (gw_s (q := (yX12_riding, 50)) 63 rfl rfl), (gw_t (tb_1 13 rfl) rfl), _, rfl, rfl⟩
abbrev mX12_trainVote : PMt := (yX12_trainVote, cX12_trainVote, 2, (some .int))
set_option maxRecDepth 100000 in
theorem mvX12_trainVote : pm_mv mX12_trainVote 12 1 := ⟨by decide +kernel, by decide, ⟨by decide +kernel, by decide +kernel, by decide +kernel⟩, (gw_t (tb_7 95 rfl) rfl), (gw_t (tb_7 94 rfl) rfl), (gw_s (q := (yX12_trainVote, 50)) 62 rfl rfl), (gw_t (tb_1 13 rfl) rfl), _, rfl, rfl⟩
abbrev mX12_halt : PMt := (yX12_halt, cX12_halt, 3, (some .int))
set_option maxRecDepth 100000 in
theorem mvX12_halt : pm_mv mX12_halt 12 2 := ⟨by decide +kernel, by decide, ⟨by decide +kernel, by decide +kernel, by decide +kernel⟩, (gw_t (tb_6 231 rfl) rfl), (gw_t (tb_6 229 rfl) rfl), (gw_t (tb_6 230 rfl) rfl), (gw_t (tb_1 13 rfl) rfl), _, rfl, rfl⟩
abbrev mX12_coach : PMt := (yX12_coach, cX12_coach, 4, (some .int))
set_option maxRecDepth 100000 in
theorem mvX12_coach : pm_mv mX12_coach 12 2 := ⟨by decide +kernel, by decide, ⟨by decide +kernel, by decide +kernel, by decide +kernel⟩, (gw_t (tb_7 8 rfl) rfl), (gw_t (tb_7 6 rfl) rfl), (gw_t (tb_7 7 rfl) rfl), (gw_t (tb_1 13 rfl) rfl), _, rfl, rfl⟩
abbrev mX12_passenger : PMt := (yX12_passenger, cX12_passenger, 4, (some .int))
set_option maxRecDepth 100000 in
theorem mvX12_passenger : pm_mv mX12_passenger 12 2 := ⟨by decide +kernel, by decide, ⟨by decide +kernel, by decide +kernel, by decide +kernel⟩, (gw_t (tb_7 61 rfl) rfl), (gw_t (tb_7 59 rfl) rfl), (gw_t (tb_7 60 rfl) rfl), (gw_t (tb_1 13 rfl) rfl), _, rfl, rfl⟩
abbrev mX12_sheet : PMt := (yX12_sheet, cX12_sheet, 9, (some .int))
set_option maxRecDepth 100000 in
theorem mvX12_sheet : pm_mv mX12_sheet 12 4 := ⟨by decide +kernel, by decide, ⟨by decide +kernel, by decide +kernel, by decide +kernel⟩, (gw_t (tb_7 70 rfl) rfl), (gw_t (tb_7 68 rfl) rfl), (gw_t (tb_7 69 rfl) rfl), (gw_t (tb_1 13 rfl) rfl), _, rfl, rfl⟩
abbrev mX12_putsBy : PMt := (yX12_putsBy, cX12_putsBy, 2, none)
set_option maxRecDepth 100000 in
theorem mvX12_putsBy : pm_mv mX12_putsBy 12 0 := ⟨by decide +kernel, by decide, ⟨by decide +kernel, by decide +kernel, by decide +kernel⟩, (gw_t (tb_7 83 rfl) rfl), (gw_t (tb_7 82 rfl) rfl), (gw_s (q := (yX12_putsBy, 50)) 59 rfl rfl), (gw_t (tb_1 13 rfl) rfl), _, rfl, rfl⟩
abbrev mX12_adds : PMt := (yX12_adds, cX12_adds, 3, (some .int))
set_option maxRecDepth 100000 in
theorem mvX12_adds : pm_mv mX12_adds 12 1 := ⟨by decide +kernel, by decide, ⟨by decide +kernel, by decide +kernel, by decide +kernel⟩, (gw_t (tb_7 134 rfl) rfl), (gw_t (tb_7 133 rfl) rfl), (gw_s (q := (yX12_adds, 50)) 71 rfl rfl), (gw_t (tb_1 13 rfl) rfl), _, rfl, rfl⟩
abbrev mX12_counts : PMt := (yX12_counts, cX12_counts, 2, (some .int))
set_option maxRecDepth 100000 in
theorem mvX12_counts : pm_mv mX12_counts 12 1 := ⟨by decide +kernel, by decide, ⟨by decide +kernel, by decide +kernel, by decide +kernel⟩, (gw_t (tb_7 154 rfl) rfl), (gw_t (tb_7 153 rfl) rfl), (gw_s (q := (yX12_counts, 50)) 74 rfl rfl), (gw_t (tb_1 13 rfl) rfl), _, rfl, rfl⟩
abbrev mX12_undo : PMt := (yX12_undo, cX12_undo, 2, (some .int))
set_option maxRecDepth 100000 in
theorem mvX12_undo : pm_mv mX12_undo 12 0 := ⟨by decide +kernel, by decide, ⟨by decide +kernel, by decide +kernel, by decide +kernel⟩, (gw_t (tb_7 75 rfl) rfl), (gw_t (tb_7 73 rfl) rfl), (gw_t (tb_7 74 rfl) rfl), (gw_t (tb_1 13 rfl) rfl), _, rfl, rfl⟩
abbrev mX12_leavesFrom : PMt := (yX12_leavesFrom, cX12_leavesFrom, 4, none)
set_option maxRecDepth 100000 in
theorem mvX12_leavesFrom : pm_mv mX12_leavesFrom 12 2 := ⟨by decide +kernel, by decide, ⟨by decide +kernel, by decide +kernel, by decide +kernel⟩, (gw_t (tb_7 118 rfl) rfl), (gw_t (tb_7 117 rfl) rfl), (gw_s (q := (yX12_leavesFrom, 50)) 67 rfl rfl), (gw_t (tb_1 13 rfl) rfl), _, rfl, rfl⟩
abbrev mX12_getOut : PMt := (yX12_getOut, cX12_getOut, 4, none)
set_option maxRecDepth 100000 in
theorem mvX12_getOut : pm_mv mX12_getOut 12 1 := ⟨by decide +kernel, by decide, ⟨by decide +kernel, by decide +kernel, by decide +kernel⟩, (gw_t (tb_7 126 rfl) rfl), (gw_t (tb_7 125 rfl) rfl), (gw_s (q := (yX12_getOut, 50)) 69 rfl rfl), (gw_t (tb_1 13 rfl) rfl), _, rfl, rfl⟩
abbrev mX12_goesBy : PMt := (yX12_goesBy, cX12_goesBy, 4, none)
set_option maxRecDepth 100000 in
theorem mvX12_goesBy : pm_mv mX12_goesBy 12 2 := ⟨by decide +kernel, by decide, ⟨by decide +kernel, by decide +kernel, by decide +kernel⟩, (gw_t (tb_7 122 rfl) rfl), (gw_t (tb_7 121 rfl) rfl), (gw_s (q := (yX12_goesBy, 50)) 68 rfl rfl), (gw_t (tb_1 13 rfl) rfl), _, rfl, rfl⟩
abbrev mX12_isCourse : PMt := (yX12_isCourse, cX12_isCourse, 3, (some .boolean))
set_option maxRecDepth 100000 in
theorem msX12_isCourse : pm_ms mX12_isCourse 3 := ⟨by decide +kernel, by decide, ⟨by decide +kernel, by decide +kernel, by decide +kernel⟩, (gw_t (tb_7 106 rfl) rfl), (gw_t (tb_7 105 rfl) rfl), (gw_t (tb_1 13 rfl) rfl)⟩
abbrev mX12_goingAlong : PMt := (yX12_goingAlong, cX12_goingAlong, 4, (some .int))
set_option maxRecDepth 100000 in
theorem mvX12_goingAlong : pm_mv mX12_goingAlong 12 2 := ⟨by decide +kernel, by decide, ⟨by decide +kernel, by decide +kernel, by decide +kernel⟩, (gw_t (tb_7 110 rfl) rfl), (gw_t (tb_7 109 rfl) rfl), (gw_s (q := (yX12_goingAlong, 50)) 65 rfl rfl), (gw_t (tb_1 13 rfl) rfl), _, rfl, rfl⟩
abbrev mX12_runsBy : PMt := (yX12_runsBy, cX12_runsBy, 3, (some .int))
set_option maxRecDepth 100000 in
theorem mvX12_runsBy : pm_mv mX12_runsBy 12 2 := ⟨by decide +kernel, by decide, ⟨by decide +kernel, by decide +kernel, by decide +kernel⟩, (gw_t (tb_7 103 rfl) rfl), (gw_t (tb_7 102 rfl) rfl), (gw_s (q := (yX12_runsBy, 50)) 64 rfl rfl), (gw_t (tb_1 13 rfl) rfl), _, rfl, rfl⟩
abbrev mX12_runs : PMt := (yX12_runs, cX12_runs, 2, (some .int))
set_option maxRecDepth 100000 in
theorem mvX12_runs : pm_mv mX12_runs 12 1 := ⟨by decide +kernel, by decide, ⟨by decide +kernel, by decide +kernel, by decide +kernel⟩, (gw_t (tb_7 91 rfl) rfl), (gw_t (tb_7 90 rfl) rfl), (gw_s (q := (yX12_runs, 50)) 61 rfl rfl), (gw_t (tb_1 13 rfl) rfl), _, rfl, rfl⟩
abbrev mX12_goes : PMt := (yX12_goes, cX12_goes, 5, (some .int))
set_option maxRecDepth 100000 in
theorem mvX12_goes : pm_mv mX12_goes 12 3 := ⟨by decide +kernel, by decide, ⟨by decide +kernel, by decide +kernel, by decide +kernel⟩, (gw_t (tb_7 142 rfl) rfl), (gw_t (tb_7 141 rfl) rfl), (gw_s (q := (yX12_goes, 50)) 72 rfl rfl), (gw_t (tb_1 13 rfl) rfl), _, rfl, rfl⟩
abbrev mX12_couples : PMt := (yX12_couples, cX12_couples, 4, (some .int))
set_option maxRecDepth 100000 in
theorem mvX12_couples : pm_mv mX12_couples 12 1 := ⟨by decide +kernel, by decide, ⟨by decide +kernel, by decide +kernel, by decide +kernel⟩, (gw_t (tb_7 150 rfl) rfl), (gw_t (tb_7 149 rfl) rfl), (gw_s (q := (yX12_couples, 50)) 73 rfl rfl), (gw_t (tb_1 13 rfl) rfl), _, rfl, rfl⟩
abbrev mX12_cuts : PMt := (yX12_cuts, cX12_cuts, 3, (some .int))
set_option maxRecDepth 100000 in
theorem mvX12_cuts : pm_mv mX12_cuts 12 2 := ⟨by decide +kernel, by decide, ⟨by decide +kernel, by decide +kernel, by decide +kernel⟩, (gw_t (tb_7 162 rfl) rfl), (gw_t (tb_7 161 rfl) rfl), (gw_s (q := (yX12_cuts, 50)) 75 rfl rfl), (gw_t (tb_1 13 rfl) rfl), _, rfl, rfl⟩
abbrev mX12_walks : PMt := (yX12_walks, cX12_walks, 6, (some .int))
set_option maxRecDepth 100000 in
theorem mvX12_walks : pm_mv mX12_walks 12 3 := ⟨by decide +kernel, by decide, ⟨by decide +kernel, by decide +kernel, by decide +kernel⟩, (gw_t (tb_7 170 rfl) rfl), (gw_t (tb_7 169 rfl) rfl), (gw_s (q := (yX12_walks, 50)) 76 rfl rfl), (gw_t (tb_1 13 rfl) rfl), _, rfl, rfl⟩
abbrev mX12_run : PMt := (yX12_run, cX12_run, 4, (some .int))
set_option maxRecDepth 100000 in
theorem mvX12_run : pm_mv mX12_run 12 0 := ⟨by decide +kernel, by decide, ⟨by decide +kernel, by decide +kernel, by decide +kernel⟩, (gw_t (tb_7 79 rfl) rfl), (gw_t (tb_7 77 rfl) rfl), (gw_t (tb_7 78 rfl) rfl), (gw_t (tb_1 13 rfl) rfl), _, rfl, rfl⟩
abbrev mX12_go : PMt := (yX12_go, cX12_go, 5, (some .int))
set_option maxRecDepth 100000 in
theorem mvX12_go : pm_mv mX12_go 12 2 := ⟨by decide +kernel, by decide, ⟨by decide +kernel, by decide +kernel, by decide +kernel⟩, (gw_t (tb_7 138 rfl) rfl), (gw_t (tb_7 136 rfl) rfl), (gw_t (tb_7 137 rfl) rfl), (gw_t (tb_1 13 rfl) rfl), _, rfl, rfl⟩
abbrev mX12_couple : PMt := (yX12_couple, cX12_couple, 1, (some .int))
set_option maxRecDepth 100000 in
theorem mvX12_couple : pm_mv mX12_couple 12 0 := ⟨by decide +kernel, by decide, ⟨by decide +kernel, by decide +kernel, by decide +kernel⟩, (gw_t (tb_7 146 rfl) rfl), (gw_t (tb_7 144 rfl) rfl), (gw_t (tb_7 145 rfl) rfl), (gw_t (tb_1 13 rfl) rfl), _, rfl, rfl⟩
abbrev mX12_cut : PMt := (yX12_cut, cX12_cut, 2, (some .int))
set_option maxRecDepth 100000 in
theorem mvX12_cut : pm_mv mX12_cut 12 1 := ⟨by decide +kernel, by decide, ⟨by decide +kernel, by decide +kernel, by decide +kernel⟩, (gw_t (tb_7 158 rfl) rfl), (gw_t (tb_7 156 rfl) rfl), (gw_t (tb_7 157 rfl) rfl), (gw_t (tb_1 13 rfl) rfl), _, rfl, rfl⟩
abbrev mX12_walk : PMt := (yX12_walk, cX12_walk, 3, (some .int))
set_option maxRecDepth 100000 in
theorem mvX12_walk : pm_mv mX12_walk 12 2 := ⟨by decide +kernel, by decide, ⟨by decide +kernel, by decide +kernel, by decide +kernel⟩, (gw_t (tb_7 166 rfl) rfl), (gw_t (tb_7 164 rfl) rfl), (gw_t (tb_7 165 rfl) rfl), (gw_t (tb_1 13 rfl) rfl), _, rfl, rfl⟩
abbrev mX12_stand : PMt := (yX12_stand, cX12_stand, 2, (some .int))
set_option maxRecDepth 100000 in
theorem mvX12_stand : pm_mv mX12_stand 12 1 := ⟨by decide +kernel, by decide, ⟨by decide +kernel, by decide +kernel, by decide +kernel⟩, (gw_t (tb_7 175 rfl) rfl), (gw_t (tb_7 173 rfl) rfl), (gw_t (tb_7 174 rfl) rfl), (gw_t (tb_1 13 rfl) rfl), _, rfl, rfl⟩
abbrev mX12_readsAct : PMt := (yX12_readsAct, cX12_readsAct, 2, (some .boolean))
set_option maxRecDepth 100000 in
theorem mvX12_readsAct : pm_mv mX12_readsAct 12 0 := ⟨by decide +kernel, by decide, ⟨by decide +kernel, by decide +kernel, by decide +kernel⟩, (gw_t (tb_7 184 rfl) rfl), (gw_t (tb_7 183 rfl) rfl), (gw_s (q := (yX12_readsAct, 50)) 77 rfl rfl), (gw_t (tb_1 13 rfl) rfl), _, rfl, rfl⟩
abbrev mX12_does : PMt := (yX12_does, cX12_does, 2, (some .boolean))
set_option maxRecDepth 100000 in
theorem mvX12_does : pm_mv mX12_does 12 1 := ⟨by decide +kernel, by decide, ⟨by decide +kernel, by decide +kernel, by decide +kernel⟩, (gw_t (tb_7 190 rfl) rfl), (gw_t (tb_7 189 rfl) rfl), (gw_s (q := (yX12_does, 50)) 78 rfl rfl), (gw_t (tb_1 13 rfl) rfl), _, rfl, rfl⟩
abbrev mX12_night : PMt := (yX12_night, cX12_night, 6, (some .int))
set_option maxRecDepth 100000 in
theorem mvX12_night : pm_mv mX12_night 12 0 := ⟨by decide +kernel, by decide, ⟨by decide +kernel, by decide +kernel, by decide +kernel⟩, (gw_t (tb_7 180 rfl) rfl), (gw_t (tb_7 178 rfl) rfl), (gw_t (tb_7 179 rfl) rfl), (gw_t (tb_1 13 rfl) rfl), _, rfl, rfl⟩
abbrev mX12_puts : PMt := (yX12_puts, cX12_puts, 2, none)
set_option maxRecDepth 100000 in
theorem mvX12_puts : pm_mv mX12_puts 12 0 := ⟨by decide +kernel, by decide, ⟨by decide +kernel, by decide +kernel, by decide +kernel⟩, (gw_t (tb_7 202 rfl) rfl), (gw_t (tb_7 201 rfl) rfl), (gw_s (q := (yX12_puts, 50)) 79 rfl rfl), (gw_t (tb_1 13 rfl) rfl), _, rfl, rfl⟩
abbrev mX12_way : PMt := (yX12_way, cX12_way, 6, (some .int))
set_option maxRecDepth 100000 in
theorem mvX12_way : pm_mv mX12_way 12 2 := ⟨by decide +kernel, by decide, ⟨by decide +kernel, by decide +kernel, by decide +kernel⟩, (gw_t (tb_7 194 rfl) rfl), (gw_t (tb_7 192 rfl) rfl), (gw_t (tb_7 193 rfl) rfl), (gw_t (tb_1 13 rfl) rfl), _, rfl, rfl⟩
abbrev mX12_course : PMt := (yX12_course, cX12_course, 2, (some .int))
set_option maxRecDepth 100000 in
theorem mvX12_course : pm_mv mX12_course 12 0 := ⟨by decide +kernel, by decide, ⟨by decide +kernel, by decide +kernel, by decide +kernel⟩, (gw_t (tb_7 198 rfl) rfl), (gw_t (tb_7 196 rfl) rfl), (gw_t (tb_7 197 rfl) rfl), (gw_t (tb_1 13 rfl) rfl), _, rfl, rfl⟩
abbrev mX12_outMany : PMt := (yX12_outMany, cX12_outMany, 2, (some .int))
set_option maxRecDepth 100000 in
theorem mvX12_outMany : pm_mv mX12_outMany 12 1 := ⟨by decide +kernel, by decide, ⟨by decide +kernel, by decide +kernel, by decide +kernel⟩, (gw_t (tb_7 215 rfl) rfl), (gw_t (tb_7 214 rfl) rfl), (gw_s (q := (yX12_outMany, 50)) 81 rfl rfl), (gw_t (tb_1 13 rfl) rfl), _, rfl, rfl⟩
abbrev mX12_outIn : PMt := (yX12_outIn, cX12_outIn, 3, (some .int))
set_option maxRecDepth 100000 in
theorem mvX12_outIn : pm_mv mX12_outIn 12 1 := ⟨by decide +kernel, by decide, ⟨by decide +kernel, by decide +kernel, by decide +kernel⟩, (gw_t (tb_7 211 rfl) rfl), (gw_t (tb_7 210 rfl) rfl), (gw_s (q := (yX12_outIn, 50)) 80 rfl rfl), (gw_t (tb_1 13 rfl) rfl), _, rfl, rfl⟩
abbrev mX12_ahead : PMt := (yX12_ahead, cX12_ahead, 3, (some .int))
set_option maxRecDepth 100000 in
theorem mvX12_ahead : pm_mv mX12_ahead 12 1 := ⟨by decide +kernel, by decide, ⟨by decide +kernel, by decide +kernel, by decide +kernel⟩, (gw_t (tb_7 206 rfl) rfl), (gw_t (tb_7 204 rfl) rfl), (gw_t (tb_7 205 rfl) rfl), (gw_t (tb_1 13 rfl) rfl), _, rfl, rfl⟩
abbrev mX12_outAfter : PMt := (yX12_outAfter, cX12_outAfter, 3, (some .int))
set_option maxRecDepth 100000 in
theorem mvX12_outAfter : pm_mv mX12_outAfter 12 1 := ⟨by decide +kernel, by decide, ⟨by decide +kernel, by decide +kernel, by decide +kernel⟩, (gw_t (tb_7 227 rfl) rfl), (gw_t (tb_7 226 rfl) rfl), (gw_s (q := (yX12_outAfter, 50)) 83 rfl rfl), (gw_t (tb_1 13 rfl) rfl), _, rfl, rfl⟩
abbrev mX12_arrives : PMt := (yX12_arrives, cX12_arrives, 3, (some .int))
set_option maxRecDepth 100000 in
theorem mvX12_arrives : pm_mv mX12_arrives 12 1 := ⟨by decide +kernel, by decide, ⟨by decide +kernel, by decide +kernel, by decide +kernel⟩, (gw_t (tb_7 223 rfl) rfl), (gw_t (tb_7 221 rfl) rfl), (gw_t (tb_7 222 rfl) rfl), (gw_t (tb_1 13 rfl) rfl), _, rfl, rfl⟩
abbrev mX12_tips : PMt := (yX12_tips, cX12_tips, 8, (some .int))
set_option maxRecDepth 100000 in
theorem mvX12_tips : pm_mv mX12_tips 12 1 := ⟨by decide +kernel, by decide, ⟨by decide +kernel, by decide +kernel, by decide +kernel⟩, (gw_t (tb_7 231 rfl) rfl), (gw_t (tb_7 229 rfl) rfl), (gw_t (tb_7 230 rfl) rfl), (gw_t (tb_1 13 rfl) rfl), _, rfl, rfl⟩
abbrev mX12_power : PMt := (yX12_power, cX12_power, 9, (some .int))
set_option maxRecDepth 100000 in
theorem mvX12_power : pm_mv mX12_power 12 1 := ⟨by decide +kernel, by decide, ⟨by decide +kernel, by decide +kernel, by decide +kernel⟩, (gw_t (tb_7 235 rfl) rfl), (gw_t (tb_7 233 rfl) rfl), (gw_t (tb_7 234 rfl) rfl), (gw_t (tb_1 13 rfl) rfl), _, rfl, rfl⟩
abbrev mX12_lobby : PMt := (yX12_lobby, cX12_lobby, 7, (some .int))
set_option maxRecDepth 100000 in
theorem mvX12_lobby : pm_mv mX12_lobby 12 2 := ⟨by decide +kernel, by decide, ⟨by decide +kernel, by decide +kernel, by decide +kernel⟩, (gw_t (tb_8 6 rfl) rfl), (gw_t (tb_8 4 rfl) rfl), (gw_t (tb_8 5 rfl) rfl), (gw_t (tb_1 13 rfl) rfl), _, rfl, rfl⟩
abbrev mX12_seat : PMt := (yX12_seat, cX12_seat, 6, (some .int))
set_option maxRecDepth 100000 in
theorem mvX12_seat : pm_mv mX12_seat 12 1 := ⟨by decide +kernel, by decide, ⟨by decide +kernel, by decide +kernel, by decide +kernel⟩, (gw_t (tb_8 11 rfl) rfl), (gw_t (tb_8 9 rfl) rfl), (gw_t (tb_8 10 rfl) rfl), (gw_t (tb_1 13 rfl) rfl), _, rfl, rfl⟩
abbrev mX12_reseat : PMt := (yX12_reseat, cX12_reseat, 8, (some .int))
set_option maxRecDepth 100000 in
theorem mvX12_reseat : pm_mv mX12_reseat 12 1 := ⟨by decide +kernel, by decide, ⟨by decide +kernel, by decide +kernel, by decide +kernel⟩, (gw_t (tb_8 15 rfl) rfl), (gw_t (tb_8 13 rfl) rfl), (gw_t (tb_8 14 rfl) rfl), (gw_t (tb_1 13 rfl) rfl), _, rfl, rfl⟩
abbrev mX12_close : PMt := (yX12_close, cX12_close, 7, (some .int))
set_option maxRecDepth 100000 in
theorem mvX12_close : pm_mv mX12_close 12 1 := ⟨by decide +kernel, by decide, ⟨by decide +kernel, by decide +kernel, by decide +kernel⟩, (gw_t (tb_8 20 rfl) rfl), (gw_t (tb_8 18 rfl) rfl), (gw_t (tb_8 19 rfl) rfl), (gw_t (tb_1 13 rfl) rfl), _, rfl, rfl⟩
abbrev mX12_fetches : PMt := (yX12_fetches, cX12_fetches, 7, none)
set_option maxRecDepth 100000 in
theorem mvX12_fetches : pm_mv mX12_fetches 12 5 := ⟨by decide +kernel, by decide, ⟨by decide +kernel, by decide +kernel, by decide +kernel⟩, (gw_t (tb_8 28 rfl) rfl), (gw_t (tb_8 27 rfl) rfl), (gw_s (q := (yX12_fetches, 50)) 85 rfl rfl), (gw_t (tb_1 13 rfl) rfl), _, rfl, rfl⟩
abbrev mX12_fetch : PMt := (yX12_fetch, cX12_fetch, 4, (some .int))
set_option maxRecDepth 100000 in
theorem mvX12_fetch : pm_mv mX12_fetch 12 1 := ⟨by decide +kernel, by decide, ⟨by decide +kernel, by decide +kernel, by decide +kernel⟩, (gw_t (tb_8 24 rfl) rfl), (gw_t (tb_8 22 rfl) rfl), (gw_t (tb_8 23 rfl) rfl), (gw_t (tb_1 13 rfl) rfl), _, rfl, rfl⟩
abbrev mX12_law : PMt := (yX12_law, cX12_law, 5, (some .int))
set_option maxRecDepth 100000 in
theorem mvX12_law : pm_mv mX12_law 12 0 := ⟨by decide +kernel, by decide, ⟨by decide +kernel, by decide +kernel, by decide +kernel⟩, (gw_t (tb_8 32 rfl) rfl), (gw_t (tb_8 30 rfl) rfl), (gw_t (tb_8 31 rfl) rfl), (gw_t (tb_1 13 rfl) rfl), _, rfl, rfl⟩
abbrev mX12_byHeads : PMt := (yX12_byHeads, cX12_byHeads, 7, (some .int))
set_option maxRecDepth 100000 in
theorem mvX12_byHeads : pm_mv mX12_byHeads 12 1 := ⟨by decide +kernel, by decide, ⟨by decide +kernel, by decide +kernel, by decide +kernel⟩, (gw_t (tb_8 40 rfl) rfl), (gw_t (tb_8 39 rfl) rfl), (gw_s (q := (yX12_byHeads, 50)) 86 rfl rfl), (gw_t (tb_1 13 rfl) rfl), _, rfl, rfl⟩
abbrev mX12_heads : PMt := (yX12_heads, cX12_heads, 3, (some .int))
set_option maxRecDepth 100000 in
theorem mvX12_heads : pm_mv mX12_heads 12 1 := ⟨by decide +kernel, by decide, ⟨by decide +kernel, by decide +kernel, by decide +kernel⟩, (gw_t (tb_8 36 rfl) rfl), (gw_t (tb_8 34 rfl) rfl), (gw_t (tb_8 35 rfl) rfl), (gw_t (tb_1 13 rfl) rfl), _, rfl, rfl⟩
abbrev mX12_seen : PMt := (yX12_seen, cX12_seen, 4, (some .int))
set_option maxRecDepth 100000 in
theorem mvX12_seen : pm_mv mX12_seen 12 3 := ⟨by decide +kernel, by decide, ⟨by decide +kernel, by decide +kernel, by decide +kernel⟩, (gw_t (tb_8 44 rfl) rfl), (gw_t (tb_8 42 rfl) rfl), (gw_t (tb_8 43 rfl) rfl), (gw_t (tb_1 13 rfl) rfl), _, rfl, rfl⟩
abbrev mX12_forget : PMt := (yX12_forget, cX12_forget, 2, (some .int))
set_option maxRecDepth 100000 in
theorem mvX12_forget : pm_mv mX12_forget 12 0 := ⟨by decide +kernel, by decide, ⟨by decide +kernel, by decide +kernel, by decide +kernel⟩, (gw_t (tb_8 48 rfl) rfl), (gw_t (tb_8 46 rfl) rfl), (gw_t (tb_8 47 rfl) rfl), (gw_t (tb_1 13 rfl) rfl), _, rfl, rfl⟩
abbrev mX12_lastSeen : PMt := (yX12_lastSeen, cX12_lastSeen, 3, (some .int))
set_option maxRecDepth 100000 in
theorem mvX12_lastSeen : pm_mv mX12_lastSeen 12 0 := ⟨by decide +kernel, by decide, ⟨by decide +kernel, by decide +kernel, by decide +kernel⟩, (gw_t (tb_8 56 rfl) rfl), (gw_t (tb_8 55 rfl) rfl), (gw_s (q := (yX12_lastSeen, 50)) 87 rfl rfl), (gw_t (tb_1 13 rfl) rfl), _, rfl, rfl⟩
abbrev mX12_fits : PMt := (yX12_fits, cX12_fits, 5, (some .boolean))
set_option maxRecDepth 100000 in
theorem mvX12_fits : pm_mv mX12_fits 12 2 := ⟨by decide +kernel, by decide, ⟨by decide +kernel, by decide +kernel, by decide +kernel⟩, (gw_t (tb_8 68 rfl) rfl), (gw_t (tb_8 67 rfl) rfl), (gw_s (q := (yX12_fits, 50)) 90 rfl rfl), (gw_t (tb_1 13 rfl) rfl), _, rfl, rfl⟩
abbrev mX12_rowsBy : PMt := (yX12_rowsBy, cX12_rowsBy, 5, (some .int))
set_option maxRecDepth 100000 in
theorem mvX12_rowsBy : pm_mv mX12_rowsBy 12 3 := ⟨by decide +kernel, by decide, ⟨by decide +kernel, by decide +kernel, by decide +kernel⟩, (gw_t (tb_8 64 rfl) rfl), (gw_t (tb_8 63 rfl) rfl), (gw_s (q := (yX12_rowsBy, 50)) 89 rfl rfl), (gw_t (tb_1 13 rfl) rfl), _, rfl, rfl⟩
abbrev mX12_laysRows : PMt := (yX12_laysRows, cX12_laysRows, 5, none)
set_option maxRecDepth 100000 in
theorem mvX12_laysRows : pm_mv mX12_laysRows 12 1 := ⟨by decide +kernel, by decide, ⟨by decide +kernel, by decide +kernel, by decide +kernel⟩, (gw_t (tb_8 60 rfl) rfl), (gw_t (tb_8 59 rfl) rfl), (gw_s (q := (yX12_laysRows, 50)) 88 rfl rfl), (gw_t (tb_1 13 rfl) rfl), _, rfl, rfl⟩
abbrev mX12_rows : PMt := (yX12_rows, cX12_rows, 6, (some .int))
set_option maxRecDepth 100000 in
theorem mvX12_rows : pm_mv mX12_rows 12 0 := ⟨by decide +kernel, by decide, ⟨by decide +kernel, by decide +kernel, by decide +kernel⟩, (gw_t (tb_8 52 rfl) rfl), (gw_t (tb_8 50 rfl) rfl), (gw_t (tb_8 51 rfl) rfl), (gw_t (tb_1 13 rfl) rfl), _, rfl, rfl⟩
abbrev mX12_beenBehind : PMt := (yX12_beenBehind, cX12_beenBehind, 4, (some .int))
set_option maxRecDepth 100000 in
theorem mvX12_beenBehind : pm_mv mX12_beenBehind 12 1 := ⟨by decide +kernel, by decide, ⟨by decide +kernel, by decide +kernel, by decide +kernel⟩, (gw_t (tb_8 76 rfl) rfl), (gw_t (tb_8 75 rfl) rfl), (gw_s (q := (yX12_beenBehind, 50)) 91 rfl rfl), (gw_t (tb_1 13 rfl) rfl), _, rfl, rfl⟩
abbrev mX12_been : PMt := (yX12_been, cX12_been, 3, (some .int))
set_option maxRecDepth 100000 in
theorem mvX12_been : pm_mv mX12_been 12 1 := ⟨by decide +kernel, by decide, ⟨by decide +kernel, by decide +kernel, by decide +kernel⟩, (gw_t (tb_8 72 rfl) rfl), (gw_t (tb_8 70 rfl) rfl), (gw_t (tb_8 71 rfl) rfl), (gw_t (tb_1 13 rfl) rfl), _, rfl, rfl⟩
abbrev mX12_ask : PMt := (yX12_ask, cX12_ask, 6, (some .int))
set_option maxRecDepth 100000 in
theorem mvX12_ask : pm_mv mX12_ask 12 0 := ⟨by decide +kernel, by decide, ⟨by decide +kernel, by decide +kernel, by decide +kernel⟩, (gw_t (tb_8 80 rfl) rfl), (gw_t (tb_8 78 rfl) rfl), (gw_t (tb_8 79 rfl) rfl), (gw_t (tb_1 13 rfl) rfl), _, rfl, rfl⟩
abbrev mX12_odds : PMt := (yX12_odds, cX12_odds, 13, (some .int))
set_option maxRecDepth 100000 in
theorem mvX12_odds : pm_mv mX12_odds 12 3 := ⟨by decide +kernel, by decide, ⟨by decide +kernel, by decide +kernel, by decide +kernel⟩, (gw_t (tb_8 84 rfl) rfl), (gw_t (tb_8 82 rfl) rfl), (gw_t (tb_8 83 rfl) rfl), (gw_t (tb_1 13 rfl) rfl), _, rfl, rfl⟩
abbrev mX12_gets : PMt := (yX12_gets, cX12_gets, 3, (some .int))
set_option maxRecDepth 100000 in
theorem msX12_gets : pm_ms mX12_gets 3 := ⟨by decide +kernel, by decide, ⟨by decide +kernel, by decide +kernel, by decide +kernel⟩, (gw_t (tb_8 96 rfl) rfl), (gw_t (tb_8 95 rfl) rfl), (gw_t (tb_1 13 rfl) rfl)⟩
abbrev mX12_isRest : PMt := (yX12_isRest, cX12_isRest, 5, (some .boolean))
set_option maxRecDepth 100000 in
theorem msX12_isRest : pm_ms mX12_isRest 3 := ⟨by decide +kernel, by decide, ⟨by decide +kernel, by decide +kernel, by decide +kernel⟩, (gw_t (tb_8 93 rfl) rfl), (gw_t (tb_8 92 rfl) rfl), (gw_t (tb_1 13 rfl) rfl)⟩
abbrev mX12_bargain : PMt := (yX12_bargain, cX12_bargain, 5, (some .int))
set_option maxRecDepth 100000 in
theorem mvX12_bargain : pm_mv mX12_bargain 12 1 := ⟨by decide +kernel, by decide, ⟨by decide +kernel, by decide +kernel, by decide +kernel⟩, (gw_t (tb_8 89 rfl) rfl), (gw_t (tb_8 87 rfl) rfl), (gw_t (tb_8 88 rfl) rfl), (gw_t (tb_1 13 rfl) rfl), _, rfl, rfl⟩
abbrev mX12_draws : PMt := (yX12_draws, cX12_draws, 2, (some .int))
set_option maxRecDepth 100000 in
theorem mvX12_draws : pm_mv mX12_draws 12 1 := ⟨by decide +kernel, by decide, ⟨by decide +kernel, by decide +kernel, by decide +kernel⟩, (gw_t (tb_8 105 rfl) rfl), (gw_t (tb_8 104 rfl) rfl), (gw_s (q := (yX12_draws, 50)) 92 rfl rfl), (gw_t (tb_1 13 rfl) rfl), _, rfl, rfl⟩
abbrev mX12_nights : PMt := (yX12_nights, cX12_nights, 8, (some .int))
set_option maxRecDepth 100000 in
theorem mvX12_nights : pm_mv mX12_nights 12 2 := ⟨by decide +kernel, by decide, ⟨by decide +kernel, by decide +kernel, by decide +kernel⟩, (gw_t (tb_8 100 rfl) rfl), (gw_t (tb_8 98 rfl) rfl), (gw_t (tb_8 99 rfl) rfl), (gw_t (tb_1 13 rfl) rfl), _, rfl, rfl⟩
abbrev mX12_keep : PMt := (yX12_keep, cX12_keep, 3, (some .boolean))
set_option maxRecDepth 100000 in
theorem mvX12_keep : pm_mv mX12_keep 12 1 := ⟨by decide +kernel, by decide, ⟨by decide +kernel, by decide +kernel, by decide +kernel⟩, (gw_t (tb_8 110 rfl) rfl), (gw_t (tb_8 108 rfl) rfl), (gw_t (tb_8 109 rfl) rfl), (gw_t (tb_1 13 rfl) rfl), _, rfl, rfl⟩
abbrev mX12_again : PMt := (yX12_again, cX12_again, 3, (some .boolean))
set_option maxRecDepth 100000 in
theorem mvX12_again : pm_mv mX12_again 12 1 := ⟨by decide +kernel, by decide, ⟨by decide +kernel, by decide +kernel, by decide +kernel⟩, (gw_t (tb_8 114 rfl) rfl), (gw_t (tb_8 112 rfl) rfl), (gw_t (tb_8 113 rfl) rfl), (gw_t (tb_1 13 rfl) rfl), _, rfl, rfl⟩
abbrev mX12_count : PMt := (yX12_count, cX12_count, 2, (some .int))
set_option maxRecDepth 100000 in
theorem mvX12_count : pm_mv mX12_count 12 1 := ⟨by decide +kernel, by decide, ⟨by decide +kernel, by decide +kernel, by decide +kernel⟩, (gw_t (tb_8 118 rfl) rfl), (gw_t (tb_8 116 rfl) rfl), (gw_t (tb_8 117 rfl) rfl), (gw_t (tb_1 13 rfl) rfl), _, rfl, rfl⟩
abbrev mX12_row : PMt := (yX12_row, cX12_row, 2, (some .long))
set_option maxRecDepth 100000 in
theorem mvX12_row : pm_mv mX12_row 12 1 := ⟨by decide +kernel, by decide, ⟨by decide +kernel, by decide +kernel, by decide +kernel⟩, (gw_t (tb_8 122 rfl) rfl), (gw_t (tb_8 120 rfl) rfl), (gw_t (tb_8 121 rfl) rfl), (gw_t (tb_1 13 rfl) rfl), _, rfl, rfl⟩
abbrev mJ6_bitCount_0f7a4 : PMt := (yJ6_bitCount_0f7a4, cJ6_bitCount_0f7a4, 1, (some .int))
set_option maxRecDepth 100000 in
theorem msJ6_bitCount_0f7a4 : pm_ms mJ6_bitCount_0f7a4 1 := ⟨by decide +kernel, by decide, ⟨by decide +kernel, by decide +kernel, by decide +kernel⟩, (gw_t (tb_3 186 rfl) rfl), (gw_t (tb_3 185 rfl) rfl), (gw_t (tb_1 24 rfl) rfl)⟩
set_option maxRecDepth 100000 in
theorem flX7_9 : pm_fl RX7 9 7 0 := ⟨_, rfl, by decide, (gw_t (tb_1 39 rfl) rfl)⟩
set_option maxRecDepth 100000 in
theorem flX11_91 : pm_fl RX11 91 7 1 := ⟨_, rfl, by decide, (gw_t (tb_1 40 rfl) rfl)⟩
set_option maxRecDepth 100000 in
theorem flX7_15 : pm_fl RX7 15 7 1 := ⟨_, rfl, by decide, (gw_t (tb_1 41 rfl) rfl)⟩
set_option maxRecDepth 100000 in
theorem flX0_45 : pm_fl RX0 45 7 1 := ⟨_, rfl, by decide, (gw_t (tb_1 42 rfl) rfl)⟩
set_option maxRecDepth 100000 in
theorem flX4_54 : pm_fl RX4 54 7 1 := ⟨_, rfl, by decide, (gw_t (tb_1 43 rfl) rfl)⟩
set_option maxRecDepth 100000 in
theorem flX7_25 : pm_fl RX7 25 7 2 := ⟨_, rfl, by decide, (gw_t (tb_1 44 rfl) rfl)⟩
set_option maxRecDepth 100000 in
theorem flX11_442 : pm_fl RX11 442 7 2 := ⟨_, rfl, by decide, (gw_t (tb_1 45 rfl) rfl)⟩
set_option maxRecDepth 100000 in
theorem flX0_9 : pm_fl RX0 9 0 0 := ⟨_, rfl, by decide, (gw_t (tb_1 60 rfl) rfl)⟩
set_option maxRecDepth 100000 in
theorem flX8_22 : pm_fl RX8 22 0 0 := ⟨_, rfl, by decide, (gw_t (tb_1 61 rfl) rfl)⟩
set_option maxRecDepth 100000 in
theorem flX6_34 : pm_fl RX6 34 0 0 := ⟨_, rfl, by decide, (gw_t (tb_1 62 rfl) rfl)⟩
set_option maxRecDepth 100000 in
theorem flX11_129 : pm_fl RX11 129 0 0 := ⟨_, rfl, by decide, (gw_t (tb_1 63 rfl) rfl)⟩
set_option maxRecDepth 100000 in
theorem flX0_15 : pm_fl RX0 15 0 1 := ⟨_, rfl, by decide, (gw_t (tb_1 64 rfl) rfl)⟩
set_option maxRecDepth 100000 in
theorem flX5_40 : pm_fl RX5 40 0 1 := ⟨_, rfl, by decide, (gw_t (tb_1 65 rfl) rfl)⟩
set_option maxRecDepth 100000 in
theorem flX6_50 : pm_fl RX6 50 0 1 := ⟨_, rfl, by decide, (gw_t (tb_1 66 rfl) rfl)⟩
set_option maxRecDepth 100000 in
theorem flX11_160 : pm_fl RX11 160 0 1 := ⟨_, rfl, by decide, (gw_t (tb_1 67 rfl) rfl)⟩
set_option maxRecDepth 100000 in
theorem flX0_19 : pm_fl RX0 19 0 2 := ⟨_, rfl, by decide, (gw_t (tb_1 68 rfl) rfl)⟩
set_option maxRecDepth 100000 in
theorem flX5_54 : pm_fl RX5 54 0 2 := ⟨_, rfl, by decide, (gw_t (tb_1 69 rfl) rfl)⟩
set_option maxRecDepth 100000 in
theorem flX11_164 : pm_fl RX11 164 0 2 := ⟨_, rfl, by decide, (gw_t (tb_1 70 rfl) rfl)⟩
set_option maxRecDepth 100000 in
theorem flX0_22 : pm_fl RX0 22 0 3 := ⟨_, rfl, by decide, (gw_t (tb_1 71 rfl) rfl)⟩
set_option maxRecDepth 100000 in
theorem flX10_33 : pm_fl RX10 33 2 0 := ⟨_, rfl, by decide, (gw_t (tb_1 87 rfl) rfl)⟩
set_option maxRecDepth 100000 in
theorem flX2_18 : pm_fl RX2 18 2 0 := ⟨_, rfl, by decide, (gw_t (tb_1 88 rfl) rfl)⟩
set_option maxRecDepth 100000 in
theorem flX11_116 : pm_fl RX11 116 2 0 := ⟨_, rfl, by decide, (gw_t (tb_1 89 rfl) rfl)⟩
set_option maxRecDepth 100000 in
theorem flX9_79 : pm_fl RX9 79 2 0 := ⟨_, rfl, by decide, (gw_t (tb_1 90 rfl) rfl)⟩
set_option maxRecDepth 100000 in
theorem flX2_9 : pm_fl RX2 9 2 1 := ⟨_, rfl, by decide, (gw_t (tb_1 91 rfl) rfl)⟩
set_option maxRecDepth 100000 in
theorem flX10_52 : pm_fl RX10 52 2 1 := ⟨_, rfl, by decide, (gw_t (tb_1 92 rfl) rfl)⟩
set_option maxRecDepth 100000 in
theorem flX11_208 : pm_fl RX11 208 2 1 := ⟨_, rfl, by decide, (gw_t (tb_1 93 rfl) rfl)⟩
set_option maxRecDepth 100000 in
theorem flX9_87 : pm_fl RX9 87 2 1 := ⟨_, rfl, by decide, (gw_t (tb_1 94 rfl) rfl)⟩
set_option maxRecDepth 100000 in
theorem flX2_15 : pm_fl RX2 15 2 2 := ⟨_, rfl, by decide, (gw_t (tb_1 95 rfl) rfl)⟩
set_option maxRecDepth 100000 in
theorem flX10_61 : pm_fl RX10 61 2 2 := ⟨_, rfl, by decide, (gw_t (tb_1 96 rfl) rfl)⟩
set_option maxRecDepth 100000 in
theorem flX11_211 : pm_fl RX11 211 2 2 := ⟨_, rfl, by decide, (gw_t (tb_1 97 rfl) rfl)⟩
set_option maxRecDepth 100000 in
theorem flX9_24 : pm_fl RX9 24 9 0 := ⟨_, rfl, by decide, (gw_t (tb_1 111 rfl) rfl)⟩
set_option maxRecDepth 100000 in
theorem flX5_46 : pm_fl RX5 46 9 0 := ⟨_, rfl, by decide, (gw_t (tb_1 112 rfl) rfl)⟩
set_option maxRecDepth 100000 in
theorem flX8_33 : pm_fl RX8 33 9 0 := ⟨_, rfl, by decide, (gw_t (tb_1 113 rfl) rfl)⟩
set_option maxRecDepth 100000 in
theorem flX11_171 : pm_fl RX11 171 9 0 := ⟨_, rfl, by decide, (gw_t (tb_1 114 rfl) rfl)⟩
set_option maxRecDepth 100000 in
theorem flX9_28 : pm_fl RX9 28 9 1 := ⟨_, rfl, by decide, (gw_t (tb_1 115 rfl) rfl)⟩
set_option maxRecDepth 100000 in
theorem flX5_51 : pm_fl RX5 51 9 1 := ⟨_, rfl, by decide, (gw_t (tb_1 116 rfl) rfl)⟩
set_option maxRecDepth 100000 in
theorem flX10_68 : pm_fl RX10 68 9 1 := ⟨_, rfl, by decide, (gw_t (tb_1 117 rfl) rfl)⟩
set_option maxRecDepth 100000 in
theorem flX11_312 : pm_fl RX11 312 9 1 := ⟨_, rfl, by decide, (gw_t (tb_1 118 rfl) rfl)⟩
set_option maxRecDepth 100000 in
theorem flX9_31 : pm_fl RX9 31 9 2 := ⟨_, rfl, by decide, (gw_t (tb_1 119 rfl) rfl)⟩
set_option maxRecDepth 100000 in
theorem flX11_349 : pm_fl RX11 349 9 2 := ⟨_, rfl, by decide, (gw_t (tb_1 120 rfl) rfl)⟩
set_option maxRecDepth 100000 in
theorem flX9_34 : pm_fl RX9 34 9 3 := ⟨_, rfl, by decide, (gw_t (tb_1 121 rfl) rfl)⟩
set_option maxRecDepth 100000 in
theorem flX10_87 : pm_fl RX10 87 9 3 := ⟨_, rfl, by decide, (gw_t (tb_1 122 rfl) rfl)⟩
set_option maxRecDepth 100000 in
theorem flX11_451 : pm_fl RX11 451 9 3 := ⟨_, rfl, by decide, (gw_t (tb_1 123 rfl) rfl)⟩
set_option maxRecDepth 100000 in
theorem flX9_9 : pm_fl RX9 9 9 4 := ⟨_, rfl, by decide, (gw_t (tb_1 124 rfl) rfl)⟩
set_option maxRecDepth 100000 in
theorem flX10_90 : pm_fl RX10 90 9 4 := ⟨_, rfl, by decide, (gw_t (tb_1 125 rfl) rfl)⟩
set_option maxRecDepth 100000 in
theorem flX9_15 : pm_fl RX9 15 9 5 := ⟨_, rfl, by decide, (gw_t (tb_1 126 rfl) rfl)⟩
set_option maxRecDepth 100000 in
theorem flX10_65 : pm_fl RX10 65 9 5 := ⟨_, rfl, by decide, (gw_t (tb_1 127 rfl) rfl)⟩
set_option maxRecDepth 100000 in
theorem flX11_183 : pm_fl RX11 183 9 5 := ⟨_, rfl, by decide, (gw_t (tb_1 128 rfl) rfl)⟩
set_option maxRecDepth 100000 in
theorem flX9_18 : pm_fl RX9 18 9 6 := ⟨_, rfl, by decide, (gw_t (tb_1 129 rfl) rfl)⟩
set_option maxRecDepth 100000 in
theorem flX9_21 : pm_fl RX9 21 9 7 := ⟨_, rfl, by decide, (gw_t (tb_1 130 rfl) rfl)⟩
set_option maxRecDepth 100000 in
theorem flX10_43 : pm_fl RX10 43 9 7 := ⟨_, rfl, by decide, (gw_t (tb_1 131 rfl) rfl)⟩
set_option maxRecDepth 100000 in
theorem flX11_205 : pm_fl RX11 205 9 7 := ⟨_, rfl, by decide, (gw_t (tb_1 132 rfl) rfl)⟩
set_option maxRecDepth 100000 in
theorem flX4_9 : pm_fl RX4 9 4 0 := ⟨_, rfl, by decide, (gw_t (tb_1 156 rfl) rfl)⟩
set_option maxRecDepth 100000 in
theorem flX4_15 : pm_fl RX4 15 4 1 := ⟨_, rfl, by decide, (gw_t (tb_1 157 rfl) rfl)⟩
set_option maxRecDepth 100000 in
theorem flX4_18 : pm_fl RX4 18 4 2 := ⟨_, rfl, by decide, (gw_t (tb_1 158 rfl) rfl)⟩
set_option maxRecDepth 100000 in
theorem flX4_51 : pm_fl RX4 51 4 3 := ⟨_, rfl, by decide, (gw_t (tb_1 159 rfl) rfl)⟩
set_option maxRecDepth 100000 in
theorem flX4_22 : pm_fl RX4 22 4 4 := ⟨_, rfl, by decide, (gw_t (tb_1 160 rfl) rfl)⟩
set_option maxRecDepth 100000 in
theorem flX5_72 : pm_fl RX5 72 4 4 := ⟨_, rfl, by decide, (gw_t (tb_1 161 rfl) rfl)⟩
set_option maxRecDepth 100000 in
theorem flX11_469 : pm_fl RX11 469 4 4 := ⟨_, rfl, by decide, (gw_t (tb_1 162 rfl) rfl)⟩
set_option maxRecDepth 100000 in
theorem flX10_9 : pm_fl RX10 9 10 0 := ⟨_, rfl, by decide, (gw_t (tb_1 186 rfl) rfl)⟩
set_option maxRecDepth 100000 in
theorem flX11_214 : pm_fl RX11 214 10 0 := ⟨_, rfl, by decide, (gw_t (tb_1 187 rfl) rfl)⟩
set_option maxRecDepth 100000 in
theorem flX10_15 : pm_fl RX10 15 10 1 := ⟨_, rfl, by decide, (gw_t (tb_1 188 rfl) rfl)⟩
set_option maxRecDepth 100000 in
theorem flX11_217 : pm_fl RX11 217 10 1 := ⟨_, rfl, by decide, (gw_t (tb_1 189 rfl) rfl)⟩
set_option maxRecDepth 100000 in
theorem flX10_18 : pm_fl RX10 18 10 2 := ⟨_, rfl, by decide, (gw_t (tb_1 190 rfl) rfl)⟩
set_option maxRecDepth 100000 in
theorem flX11_199 : pm_fl RX11 199 10 2 := ⟨_, rfl, by decide, (gw_t (tb_1 191 rfl) rfl)⟩
set_option maxRecDepth 100000 in
theorem flX10_21 : pm_fl RX10 21 10 3 := ⟨_, rfl, by decide, (gw_t (tb_1 192 rfl) rfl)⟩
set_option maxRecDepth 100000 in
theorem flX11_305 : pm_fl RX11 305 10 3 := ⟨_, rfl, by decide, (gw_t (tb_1 193 rfl) rfl)⟩
set_option maxRecDepth 100000 in
theorem flX10_24 : pm_fl RX10 24 10 4 := ⟨_, rfl, by decide, (gw_t (tb_1 194 rfl) rfl)⟩
set_option maxRecDepth 100000 in
theorem flX10_27 : pm_fl RX10 27 10 5 := ⟨_, rfl, by decide, (gw_t (tb_1 195 rfl) rfl)⟩
set_option maxRecDepth 100000 in
theorem flX10_30 : pm_fl RX10 30 10 6 := ⟨_, rfl, by decide, (gw_t (tb_1 196 rfl) rfl)⟩
set_option maxRecDepth 100000 in
theorem flX5_12 : pm_fl RX5 12 5 0 := ⟨_, rfl, by decide, (gw_t (tb_1 212 rfl) rfl)⟩
set_option maxRecDepth 100000 in
theorem flX11_301 : pm_fl RX11 301 5 0 := ⟨_, rfl, by decide, (gw_t (tb_1 213 rfl) rfl)⟩
set_option maxRecDepth 100000 in
theorem flX5_18 : pm_fl RX5 18 5 1 := ⟨_, rfl, by decide, (gw_t (tb_1 214 rfl) rfl)⟩
set_option maxRecDepth 100000 in
theorem flX11_240 : pm_fl RX11 240 5 1 := ⟨_, rfl, by decide, (gw_t (tb_1 215 rfl) rfl)⟩
set_option maxRecDepth 100000 in
theorem flX5_22 : pm_fl RX5 22 5 2 := ⟨_, rfl, by decide, (gw_t (tb_1 216 rfl) rfl)⟩
set_option maxRecDepth 100000 in
theorem flX11_246 : pm_fl RX11 246 5 2 := ⟨_, rfl, by decide, (gw_t (tb_1 217 rfl) rfl)⟩
set_option maxRecDepth 100000 in
theorem flX5_25 : pm_fl RX5 25 5 3 := ⟨_, rfl, by decide, (gw_t (tb_1 218 rfl) rfl)⟩
set_option maxRecDepth 100000 in
theorem flX11_249 : pm_fl RX11 249 5 3 := ⟨_, rfl, by decide, (gw_t (tb_1 219 rfl) rfl)⟩
set_option maxRecDepth 100000 in
theorem flX1_11 : pm_fl RX1 11 1 0 := ⟨_, rfl, by decide, (gw_t (tb_1 238 rfl) rfl)⟩
set_option maxRecDepth 100000 in
theorem flX1_17 : pm_fl RX1 17 1 1 := ⟨_, rfl, by decide, (gw_t (tb_1 239 rfl) rfl)⟩
set_option maxRecDepth 100000 in
theorem flX11_419 : pm_fl RX11 419 1 1 := ⟨_, rfl, by decide, (gw_t (tb_2 0 rfl) rfl)⟩
set_option maxRecDepth 100000 in
theorem flX1_20 : pm_fl RX1 20 1 2 := ⟨_, rfl, by decide, (gw_t (tb_2 1 rfl) rfl)⟩
set_option maxRecDepth 100000 in
theorem flX11_415 : pm_fl RX11 415 1 2 := ⟨_, rfl, by decide, (gw_t (tb_2 2 rfl) rfl)⟩
set_option maxRecDepth 100000 in
theorem flX1_25 : pm_fl RX1 25 1 3 := ⟨_, rfl, by decide, (gw_t (tb_2 3 rfl) rfl)⟩
set_option maxRecDepth 100000 in
theorem flX11_285 : pm_fl RX11 285 1 3 := ⟨_, rfl, by decide, (gw_t (tb_2 4 rfl) rfl)⟩
set_option maxRecDepth 100000 in
theorem flX1_32 : pm_fl RX1 32 1 4 := ⟨_, rfl, by decide, (gw_t (tb_2 5 rfl) rfl)⟩
set_option maxRecDepth 100000 in
theorem flX6_21 : pm_fl RX6 21 6 0 := ⟨_, rfl, by decide, (gw_t (tb_2 24 rfl) rfl)⟩
set_option maxRecDepth 100000 in
theorem flX11_369 : pm_fl RX11 369 6 0 := ⟨_, rfl, by decide, (gw_t (tb_2 25 rfl) rfl)⟩
set_option maxRecDepth 100000 in
theorem flX6_25 : pm_fl RX6 25 6 1 := ⟨_, rfl, by decide, (gw_t (tb_2 26 rfl) rfl)⟩
set_option maxRecDepth 100000 in
theorem flX11_384 : pm_fl RX11 384 6 1 := ⟨_, rfl, by decide, (gw_t (tb_2 27 rfl) rfl)⟩
set_option maxRecDepth 100000 in
theorem flX6_11 : pm_fl RX6 11 6 2 := ⟨_, rfl, by decide, (gw_t (tb_2 28 rfl) rfl)⟩
set_option maxRecDepth 100000 in
theorem flX6_15 : pm_fl RX6 15 6 3 := ⟨_, rfl, by decide, (gw_t (tb_2 29 rfl) rfl)⟩
set_option maxRecDepth 100000 in
theorem flX6_18 : pm_fl RX6 18 6 4 := ⟨_, rfl, by decide, (gw_t (tb_2 30 rfl) rfl)⟩
set_option maxRecDepth 100000 in
theorem flX8_11 : pm_fl RX8 11 8 0 := ⟨_, rfl, by decide, (gw_t (tb_2 48 rfl) rfl)⟩
set_option maxRecDepth 100000 in
theorem flX8_18 : pm_fl RX8 18 8 1 := ⟨_, rfl, by decide, (gw_t (tb_2 49 rfl) rfl)⟩
set_option maxRecDepth 100000 in
theorem flX8_15 : pm_fl RX8 15 8 2 := ⟨_, rfl, by decide, (gw_t (tb_2 50 rfl) rfl)⟩
set_option maxRecDepth 100000 in
theorem flX3_9 : pm_fl RX3 9 3 0 := ⟨_, rfl, by decide, (gw_t (tb_2 64 rfl) rfl)⟩
set_option maxRecDepth 100000 in
theorem flX11_432 : pm_fl RX11 432 3 0 := ⟨_, rfl, by decide, (gw_t (tb_2 65 rfl) rfl)⟩
set_option maxRecDepth 100000 in
theorem flX3_15 : pm_fl RX3 15 3 1 := ⟨_, rfl, by decide, (gw_t (tb_2 66 rfl) rfl)⟩
set_option maxRecDepth 100000 in
theorem flX11_429 : pm_fl RX11 429 3 1 := ⟨_, rfl, by decide, (gw_t (tb_2 67 rfl) rfl)⟩
set_option maxRecDepth 100000 in
theorem flX11_10 : pm_fl RX11 10 11 0 := ⟨_, rfl, by decide, (gw_t (tb_2 74 rfl) rfl)⟩
set_option maxRecDepth 100000 in
theorem flX11_19 : pm_fl RX11 19 11 1 := ⟨_, rfl, by decide, (gw_t (tb_2 75 rfl) rfl)⟩
set_option maxRecDepth 100000 in
theorem flX11_23 : pm_fl RX11 23 11 2 := ⟨_, rfl, by decide, (gw_t (tb_2 76 rfl) rfl)⟩
set_option maxRecDepth 100000 in
theorem flX11_29 : pm_fl RX11 29 11 3 := ⟨_, rfl, by decide, (gw_t (tb_2 77 rfl) rfl)⟩
set_option maxRecDepth 100000 in
theorem flX11_36 : pm_fl RX11 36 11 4 := ⟨_, rfl, by decide, (gw_t (tb_2 78 rfl) rfl)⟩
set_option maxRecDepth 100000 in
theorem flX11_40 : pm_fl RX11 40 11 5 := ⟨_, rfl, by decide, (gw_t (tb_2 79 rfl) rfl)⟩
set_option maxRecDepth 100000 in
theorem flX11_43 : pm_fl RX11 43 11 6 := ⟨_, rfl, by decide, (gw_t (tb_2 80 rfl) rfl)⟩
set_option maxRecDepth 100000 in
theorem flX11_49 : pm_fl RX11 49 11 7 := ⟨_, rfl, by decide, (gw_t (tb_2 81 rfl) rfl)⟩
set_option maxRecDepth 100000 in
theorem flX11_53 : pm_fl RX11 53 11 8 := ⟨_, rfl, by decide, (gw_t (tb_2 82 rfl) rfl)⟩
set_option maxRecDepth 100000 in
theorem flX11_59 : pm_fl RX11 59 11 9 := ⟨_, rfl, by decide, (gw_t (tb_2 83 rfl) rfl)⟩
set_option maxRecDepth 100000 in
theorem flX11_66 : pm_fl RX11 66 11 10 := ⟨_, rfl, by decide, (gw_t (tb_2 84 rfl) rfl)⟩
set_option maxRecDepth 100000 in
theorem flX11_73 : pm_fl RX11 73 11 11 := ⟨_, rfl, by decide, (gw_t (tb_2 85 rfl) rfl)⟩
set_option maxRecDepth 100000 in
theorem flX11_80 : pm_fl RX11 80 11 12 := ⟨_, rfl, by decide, (gw_t (tb_2 86 rfl) rfl)⟩
set_option maxRecDepth 100000 in
theorem flX11_87 : pm_fl RX11 87 11 13 := ⟨_, rfl, by decide, (gw_t (tb_2 87 rfl) rfl)⟩
set_option maxRecDepth 100000 in
theorem flX11_401 : pm_fl RX11 401 11 14 := ⟨_, rfl, by decide, (gw_t (tb_2 88 rfl) rfl)⟩
set_option maxRecDepth 100000 in
theorem flX12_106 : pm_fl RX12 106 12 0 := ⟨_, rfl, by decide, (gw_t (tb_5 149 rfl) rfl)⟩
set_option maxRecDepth 100000 in
theorem flX12_113 : pm_fl RX12 113 12 1 := ⟨_, rfl, by decide, (gw_t (tb_5 150 rfl) rfl)⟩
set_option maxRecDepth 100000 in
theorem flX12_9 : pm_fl RX12 9 12 2 := ⟨_, rfl, by decide, (gw_t (tb_5 151 rfl) rfl)⟩
set_option maxRecDepth 100000 in
theorem flX12_13 : pm_fl RX12 13 12 3 := ⟨_, rfl, by decide, (gw_t (tb_5 152 rfl) rfl)⟩
set_option maxRecDepth 100000 in
theorem flX12_124 : pm_fl RX12 124 12 4 := ⟨_, rfl, by decide, (gw_t (tb_5 153 rfl) rfl)⟩
set_option maxRecDepth 100000 in
theorem flX12_127 : pm_fl RX12 127 12 5 := ⟨_, rfl, by decide, (gw_t (tb_5 154 rfl) rfl)⟩
set_option maxRecDepth 100000 in
theorem flX12_211 : pm_fl RX12 211 12 6 := ⟨_, rfl, by decide, (gw_t (tb_5 155 rfl) rfl)⟩
set_option maxRecDepth 100000 in
theorem flX12_17 : pm_fl RX12 17 12 7 := ⟨_, rfl, by decide, (gw_t (tb_5 156 rfl) rfl)⟩
set_option maxRecDepth 100000 in
theorem flX12_21 : pm_fl RX12 21 12 8 := ⟨_, rfl, by decide, (gw_t (tb_5 157 rfl) rfl)⟩
set_option maxRecDepth 100000 in
theorem flX12_24 : pm_fl RX12 24 12 9 := ⟨_, rfl, by decide, (gw_t (tb_5 158 rfl) rfl)⟩
set_option maxRecDepth 100000 in
theorem flX12_27 : pm_fl RX12 27 12 10 := ⟨_, rfl, by decide, (gw_t (tb_5 159 rfl) rfl)⟩
set_option maxRecDepth 100000 in
theorem flX12_30 : pm_fl RX12 30 12 11 := ⟨_, rfl, by decide, (gw_t (tb_5 160 rfl) rfl)⟩
set_option maxRecDepth 100000 in
theorem flX12_33 : pm_fl RX12 33 12 12 := ⟨_, rfl, by decide, (gw_t (tb_5 161 rfl) rfl)⟩
set_option maxRecDepth 100000 in
theorem flX12_36 : pm_fl RX12 36 12 13 := ⟨_, rfl, by decide, (gw_t (tb_5 162 rfl) rfl)⟩
set_option maxRecDepth 100000 in
theorem flX12_39 : pm_fl RX12 39 12 14 := ⟨_, rfl, by decide, (gw_t (tb_5 163 rfl) rfl)⟩
set_option maxRecDepth 100000 in
theorem flX12_148 : pm_fl RX12 148 12 15 := ⟨_, rfl, by decide, (gw_t (tb_5 164 rfl) rfl)⟩
set_option maxRecDepth 100000 in
theorem flX12_151 : pm_fl RX12 151 12 16 := ⟨_, rfl, by decide, (gw_t (tb_5 165 rfl) rfl)⟩
set_option maxRecDepth 100000 in
theorem flX12_157 : pm_fl RX12 157 12 17 := ⟨_, rfl, by decide, (gw_t (tb_5 166 rfl) rfl)⟩
set_option maxRecDepth 100000 in
theorem flX12_154 : pm_fl RX12 154 12 18 := ⟨_, rfl, by decide, (gw_t (tb_5 167 rfl) rfl)⟩
set_option maxRecDepth 100000 in
theorem flX12_42 : pm_fl RX12 42 12 19 := ⟨_, rfl, by decide, (gw_t (tb_5 168 rfl) rfl)⟩
set_option maxRecDepth 100000 in
theorem flX12_214 : pm_fl RX12 214 12 20 := ⟨_, rfl, by decide, (gw_t (tb_5 169 rfl) rfl)⟩
set_option maxRecDepth 100000 in
theorem flX12_45 : pm_fl RX12 45 12 21 := ⟨_, rfl, by decide, (gw_t (tb_5 170 rfl) rfl)⟩
set_option maxRecDepth 100000 in
theorem flX12_48 : pm_fl RX12 48 12 22 := ⟨_, rfl, by decide, (gw_t (tb_5 171 rfl) rfl)⟩
set_option maxRecDepth 100000 in
theorem flX12_257 : pm_fl RX12 257 12 23 := ⟨_, rfl, by decide, (gw_t (tb_5 172 rfl) rfl)⟩
set_option maxRecDepth 100000 in
theorem flX12_230 : pm_fl RX12 230 12 24 := ⟨_, rfl, by decide, (gw_t (tb_5 173 rfl) rfl)⟩
set_option maxRecDepth 100000 in
theorem flX12_51 : pm_fl RX12 51 12 25 := ⟨_, rfl, by decide, (gw_t (tb_5 174 rfl) rfl)⟩
set_option maxRecDepth 100000 in
theorem flX12_54 : pm_fl RX12 54 12 26 := ⟨_, rfl, by decide, (gw_t (tb_5 175 rfl) rfl)⟩
set_option maxRecDepth 100000 in
theorem flX12_57 : pm_fl RX12 57 12 27 := ⟨_, rfl, by decide, (gw_t (tb_5 176 rfl) rfl)⟩
set_option maxRecDepth 100000 in
theorem flX12_208 : pm_fl RX12 208 12 28 := ⟨_, rfl, by decide, (gw_t (tb_5 177 rfl) rfl)⟩
set_option maxRecDepth 100000 in
theorem flX12_60 : pm_fl RX12 60 12 29 := ⟨_, rfl, by decide, (gw_t (tb_5 178 rfl) rfl)⟩
set_option maxRecDepth 100000 in
theorem flX12_335 : pm_fl RX12 335 12 30 := ⟨_, rfl, by decide, (gw_t (tb_5 179 rfl) rfl)⟩
set_option maxRecDepth 100000 in
theorem flX12_63 : pm_fl RX12 63 12 31 := ⟨_, rfl, by decide, (gw_t (tb_5 180 rfl) rfl)⟩
set_option maxRecDepth 100000 in
theorem flX12_66 : pm_fl RX12 66 12 32 := ⟨_, rfl, by decide, (gw_t (tb_5 181 rfl) rfl)⟩
set_option maxRecDepth 100000 in
theorem flX12_69 : pm_fl RX12 69 12 33 := ⟨_, rfl, by decide, (gw_t (tb_5 182 rfl) rfl)⟩
set_option maxRecDepth 100000 in
theorem flX12_394 : pm_fl RX12 394 12 34 := ⟨_, rfl, by decide, (gw_t (tb_5 183 rfl) rfl)⟩
set_option maxRecDepth 100000 in
theorem flX12_72 : pm_fl RX12 72 12 35 := ⟨_, rfl, by decide, (gw_t (tb_5 184 rfl) rfl)⟩
set_option maxRecDepth 100000 in
theorem flX12_75 : pm_fl RX12 75 12 36 := ⟨_, rfl, by decide, (gw_t (tb_5 185 rfl) rfl)⟩
set_option maxRecDepth 100000 in
theorem flX12_435 : pm_fl RX12 435 12 37 := ⟨_, rfl, by decide, (gw_t (tb_5 186 rfl) rfl)⟩
set_option maxRecDepth 100000 in
theorem flX12_432 : pm_fl RX12 432 12 38 := ⟨_, rfl, by decide, (gw_t (tb_5 187 rfl) rfl)⟩
set_option maxRecDepth 100000 in
theorem flX12_78 : pm_fl RX12 78 12 39 := ⟨_, rfl, by decide, (gw_t (tb_5 188 rfl) rfl)⟩
set_option maxRecDepth 100000 in
theorem flX12_205 : pm_fl RX12 205 12 40 := ⟨_, rfl, by decide, (gw_t (tb_5 189 rfl) rfl)⟩
set_option maxRecDepth 100000 in
theorem flX12_81 : pm_fl RX12 81 12 41 := ⟨_, rfl, by decide, (gw_t (tb_5 190 rfl) rfl)⟩
set_option maxRecDepth 100000 in
theorem flX12_84 : pm_fl RX12 84 12 42 := ⟨_, rfl, by decide, (gw_t (tb_5 191 rfl) rfl)⟩
set_option maxRecDepth 100000 in
theorem flX12_87 : pm_fl RX12 87 12 43 := ⟨_, rfl, by decide, (gw_t (tb_5 192 rfl) rfl)⟩
set_option maxRecDepth 100000 in
theorem flX12_90 : pm_fl RX12 90 12 44 := ⟨_, rfl, by decide, (gw_t (tb_5 193 rfl) rfl)⟩
set_option maxRecDepth 100000 in
theorem flX12_93 : pm_fl RX12 93 12 45 := ⟨_, rfl, by decide, (gw_t (tb_5 194 rfl) rfl)⟩
set_option maxRecDepth 100000 in
theorem flX12_470 : pm_fl RX12 470 12 46 := ⟨_, rfl, by decide, (gw_t (tb_5 195 rfl) rfl)⟩
set_option maxRecDepth 100000 in
theorem flX12_97 : pm_fl RX12 97 12 47 := ⟨_, rfl, by decide, (gw_t (tb_5 196 rfl) rfl)⟩
set_option maxRecDepth 100000 in
theorem flX12_100 : pm_fl RX12 100 12 48 := ⟨_, rfl, by decide, (gw_t (tb_5 197 rfl) rfl)⟩
set_option maxRecDepth 100000 in
theorem flX12_103 : pm_fl RX12 103 12 49 := ⟨_, rfl, by decide, (gw_t (tb_5 198 rfl) rfl)⟩
set_option maxRecDepth 100000 in
theorem mlL_25 : Cond.methodLink RL 25 yX11_init ∈ tblG := (gw_t (tb_1 27 rfl) rfl)
set_option maxRecDepth 100000 in
theorem mlX11_18 : Cond.methodLink RX11 18 yX0_init ∈ tblG := (gw_t (tb_1 56 rfl) rfl)
set_option maxRecDepth 100000 in
theorem mlX11_48 : Cond.methodLink RX11 48 yX4_init ∈ tblG := (gw_t (tb_1 152 rfl) rfl)
set_option maxRecDepth 100000 in
theorem mlX11_65 : Cond.methodLink RX11 65 yX1_init ∈ tblG := (gw_t (tb_1 231 rfl) rfl)
set_option maxRecDepth 100000 in
theorem mlX11_72 : Cond.methodLink RX11 72 yX6_init ∈ tblG := (gw_t (tb_2 20 rfl) rfl)
set_option maxRecDepth 100000 in
theorem mlL_29 : Cond.methodLink RL 29 yX11_sign ∈ tblG := (gw_t (tb_2 120 rfl) rfl)
set_option maxRecDepth 100000 in
theorem mlX11_95 : Cond.methodLink RX11 95 yX7_addFour ∈ tblG := (gw_t (tb_2 124 rfl) rfl)
set_option maxRecDepth 100000 in
theorem mlL_34 : Cond.methodLink RL 34 yX11_end ∈ tblG := (gw_t (tb_2 128 rfl) rfl)
set_option maxRecDepth 100000 in
theorem mlL_39 : Cond.methodLink RL 39 yX11_net ∈ tblG := (gw_t (tb_2 132 rfl) rfl)
set_option maxRecDepth 100000 in
theorem mlX11_99 : Cond.methodLink RX11 99 yX7_boundBy ∈ tblG := (gw_t (tb_2 136 rfl) rfl)
set_option maxRecDepth 100000 in
theorem mlX11_102 : Cond.methodLink RX11 102 yX0_read ∈ tblG := (gw_t (tb_2 143 rfl) rfl)
set_option maxRecDepth 100000 in
theorem mlX0_31 : Cond.methodLink RX0 31 yX7_numberAt ∈ tblG := (gw_t (tb_2 147 rfl) rfl)
set_option maxRecDepth 100000 in
theorem mlX7_28 : Cond.methodLink RX7 28 yX7_at ∈ tblG := (gw_t (tb_2 151 rfl) rfl)
set_option maxRecDepth 100000 in
theorem mlX0_37 : Cond.methodLink RX0 37 yX7_at ∈ tblG := (gw_t (tb_2 155 rfl) rfl)
set_option maxRecDepth 100000 in
theorem mlX0_41 : Cond.methodLink RX0 41 yX0_readExit ∈ tblG := (gw_t (tb_2 156 rfl) rfl)
set_option maxRecDepth 100000 in
theorem mlX11_106 : Cond.methodLink RX11 106 yX0_copyFrom ∈ tblG := (gw_t (tb_2 160 rfl) rfl)
set_option maxRecDepth 100000 in
theorem mlX11_110 : Cond.methodLink RX11 110 yX0_measure ∈ tblG := (gw_t (tb_2 167 rfl) rfl)
set_option maxRecDepth 100000 in
theorem mlX0_58 : Cond.methodLink RX0 58 yX0_shortenBy ∈ tblG := (gw_t (tb_2 173 rfl) rfl)
set_option maxRecDepth 100000 in
theorem mlX11_113 : Cond.methodLink RX11 113 yX9_empty ∈ tblG := (gw_t (tb_2 177 rfl) rfl)
set_option maxRecDepth 100000 in
theorem mlX11_119 : Cond.methodLink RX11 119 yX6_clear ∈ tblG := (gw_t (tb_2 181 rfl) rfl)
set_option maxRecDepth 100000 in
theorem mlX11_122 : Cond.methodLink RX11 122 yX1_forgetAll ∈ tblG := (gw_t (tb_2 185 rfl) rfl)
set_option maxRecDepth 100000 in
theorem mlX1_29 : Cond.methodLink RX1 29 yX1_forgetActs ∈ tblG := (gw_t (tb_2 189 rfl) rfl)
set_option maxRecDepth 100000 in
theorem mlL_44 : Cond.methodLink RL 44 yX11_coaches ∈ tblG := (gw_t (tb_2 193 rfl) rfl)
set_option maxRecDepth 100000 in
theorem mlX11_125 : Cond.methodLink RX11 125 yX11_checkCoaches ∈ tblG := (gw_t (tb_2 197 rfl) rfl)
set_option maxRecDepth 100000 in
theorem mlX11_436 : Cond.methodLink RX11 436 yX7_at ∈ tblG := (gw_t (tb_2 201 rfl) rfl)
set_option maxRecDepth 100000 in
theorem mlX11_132 : Cond.methodLink RX11 132 yX7_numberAt ∈ tblG := (gw_t (tb_2 202 rfl) rfl)
set_option maxRecDepth 100000 in
theorem mlX11_136 : Cond.methodLink RX11 136 yX9_add ∈ tblG := (gw_t (tb_2 203 rfl) rfl)
set_option maxRecDepth 100000 in
theorem mlX9_43 : Cond.methodLink RX9 43 yX9_append ∈ tblG := (gw_t (tb_2 207 rfl) rfl)
set_option maxRecDepth 100000 in
theorem mlL_48 : Cond.methodLink RL 48 yX11_passengers ∈ tblG := (gw_t (tb_2 211 rfl) rfl)
set_option maxRecDepth 100000 in
theorem mlX11_139 : Cond.methodLink RX11 139 yX11_checkPassengers ∈ tblG := (gw_t (tb_2 215 rfl) rfl)
set_option maxRecDepth 100000 in
theorem mlX11_142 : Cond.methodLink RX11 142 yX11_addPassenger ∈ tblG := (gw_t (tb_2 219 rfl) rfl)
set_option maxRecDepth 100000 in
theorem mlX11_439 : Cond.methodLink RX11 439 yX2_add ∈ tblG := (gw_t (tb_2 223 rfl) rfl)
set_option maxRecDepth 100000 in
theorem mlX11_145 : Cond.methodLink RX11 145 yX9_letOut ∈ tblG := (gw_t (tb_2 227 rfl) rfl)
set_option maxRecDepth 100000 in
theorem mlX9_84 : Cond.methodLink RX9 84 yX9_haltOf ∈ tblG := (gw_t (tb_2 231 rfl) rfl)
set_option maxRecDepth 100000 in
theorem mlL_52 : Cond.methodLink RL 52 yX11_rule ∈ tblG := (gw_t (tb_2 235 rfl) rfl)
set_option maxRecDepth 100000 in
theorem mlX11_149 : Cond.methodLink RX11 149 yX4_read ∈ tblG := (gw_t (tb_2 239 rfl) rfl)
set_option maxRecDepth 100000 in
theorem mlX4_45 : Cond.methodLink RX4 45 yX7_boundBy ∈ tblG := (gw_t (tb_3 3 rfl) rfl)
set_option maxRecDepth 100000 in
theorem mlX4_55 : Cond.methodLink RX4 55 yX4_add ∈ tblG := (gw_t (tb_3 4 rfl) rfl)
set_option maxRecDepth 100000 in
theorem mlX4_58 : Cond.methodLink RX4 58 yX4_readLevel ∈ tblG := (gw_t (tb_3 8 rfl) rfl)
set_option maxRecDepth 100000 in
theorem mlX4_62 : Cond.methodLink RX4 62 yX4_readSigned ∈ tblG := (gw_t (tb_3 12 rfl) rfl)
set_option maxRecDepth 100000 in
theorem mlX4_66 : Cond.methodLink RX4 66 yX7_at ∈ tblG := (gw_t (tb_3 16 rfl) rfl)
set_option maxRecDepth 100000 in
theorem mlX4_73 : Cond.methodLink RX4 73 yX4_readThing ∈ tblG := (gw_t (tb_3 17 rfl) rfl)
set_option maxRecDepth 100000 in
theorem mlX4_76 : Cond.methodLink RX4 76 yX4_thingOf ∈ tblG := (gw_t (tb_3 21 rfl) rfl)
set_option maxRecDepth 100000 in
theorem mlX4_79 : Cond.methodLink RX4 79 yX4_readNumber ∈ tblG := (gw_t (tb_3 24 rfl) rfl)
set_option maxRecDepth 100000 in
theorem mlX4_83 : Cond.methodLink RX4 83 yX7_digitAt ∈ tblG := (gw_t (tb_3 28 rfl) rfl)
set_option maxRecDepth 100000 in
theorem mlX4_70 : Cond.methodLink RX4 70 yX4_levelOf ∈ tblG := (gw_t (tb_3 32 rfl) rfl)
set_option maxRecDepth 100000 in
theorem mlX11_150 : Cond.methodLink RX11 150 yX4_copyFrom ∈ tblG := (gw_t (tb_3 35 rfl) rfl)
set_option maxRecDepth 100000 in
theorem mlL_71 : Cond.methodLink RL 71 yX11_sheet ∈ tblG := (gw_t (tb_3 40 rfl) rfl)
set_option maxRecDepth 100000 in
theorem mlX11_220 : Cond.methodLink RX11 220 yX11_entryOf ∈ tblG := (gw_t (tb_3 44 rfl) rfl)
set_option maxRecDepth 100000 in
theorem mlL_76 : Cond.methodLink RL 76 yX11_run ∈ tblG := (gw_t (tb_3 51 rfl) rfl)
set_option maxRecDepth 100000 in
theorem mlX11_231 : Cond.methodLink RX11 231 yX9_copyFrom ∈ tblG := (gw_t (tb_3 55 rfl) rfl)
set_option maxRecDepth 100000 in
theorem mlX11_234 : Cond.methodLink RX11 234 yX11_makeRun ∈ tblG := (gw_t (tb_3 60 rfl) rfl)
set_option maxRecDepth 100000 in
theorem mlX11_297 : Cond.methodLink RX11 297 yX5_once ∈ tblG := (gw_t (tb_3 64 rfl) rfl)
set_option maxRecDepth 100000 in
theorem mlX5_28 : Cond.methodLink RX5 28 yX10_hold ∈ tblG := (gw_t (tb_3 68 rfl) rfl)
set_option maxRecDepth 100000 in
theorem mlX10_39 : Cond.methodLink RX10 39 yX10_clear ∈ tblG := (gw_t (tb_3 72 rfl) rfl)
set_option maxRecDepth 100000 in
theorem mlX10_48 : Cond.methodLink RX10 48 yX9_haltOf ∈ tblG := (gw_t (tb_3 76 rfl) rfl)
set_option maxRecDepth 100000 in
theorem mlX10_55 : Cond.methodLink RX10 55 yX0_between ∈ tblG := (gw_t (tb_3 77 rfl) rfl)
set_option maxRecDepth 100000 in
theorem mlX10_71 : Cond.methodLink RX10 71 yX4_votesBy ∈ tblG := (gw_t (tb_3 82 rfl) rfl)
set_option maxRecDepth 100000 in
theorem mlX4_32 : Cond.methodLink RX4 32 yX4_reckon ∈ tblG := (gw_t (tb_3 86 rfl) rfl)
set_option maxRecDepth 100000 in
theorem mlX10_77 : Cond.methodLink RX10 77 yX0_wishAt ∈ tblG := (gw_t (tb_3 91 rfl) rfl)
set_option maxRecDepth 100000 in
theorem mlX0_62 : Cond.methodLink RX0 62 yX0_between ∈ tblG := (gw_t (tb_3 95 rfl) rfl)
set_option maxRecDepth 100000 in
theorem mlX0_65 : Cond.methodLink RX0 65 yX0_beginsWay ∈ tblG := (gw_t (tb_3 96 rfl) rfl)
set_option maxRecDepth 100000 in
theorem mlX5_32 : Cond.methodLink RX5 32 yX10_voteOfHeads ∈ tblG := (gw_t (tb_3 100 rfl) rfl)
set_option maxRecDepth 100000 in
theorem mlX10_84 : Cond.methodLink RX10 84 yX10_clearSome ∈ tblG := (gw_t (tb_3 104 rfl) rfl)
set_option maxRecDepth 100000 in
theorem mlX10_93 : Cond.methodLink RX10 93 yX10_voteOf ∈ tblG := (gw_t (tb_3 108 rfl) rfl)
set_option maxRecDepth 100000 in
theorem mlX10_80 : Cond.methodLink RX10 80 yX10_choice ∈ tblG := (gw_t (tb_3 112 rfl) rfl)
set_option maxRecDepth 100000 in
theorem mlX5_36 : Cond.methodLink RX5 36 yX10_voteOfAll ∈ tblG := (gw_t (tb_3 115 rfl) rfl)
set_option maxRecDepth 100000 in
theorem mlX5_56 : Cond.methodLink RX5 56 yX10_alongBy ∈ tblG := (gw_t (tb_3 119 rfl) rfl)
set_option maxRecDepth 100000 in
theorem mlX5_60 : Cond.methodLink RX5 60 yX9_leave ∈ tblG := (gw_t (tb_3 123 rfl) rfl)
set_option maxRecDepth 100000 in
theorem mlX9_68 : Cond.methodLink RX9 68 yX9_shorten ∈ tblG := (gw_t (tb_3 127 rfl) rfl)
set_option maxRecDepth 100000 in
theorem mlX5_64 : Cond.methodLink RX5 64 yX9_letOut ∈ tblG := (gw_t (tb_3 132 rfl) rfl)
set_option maxRecDepth 100000 in
theorem mlX11_237 : Cond.methodLink RX11 237 yX1_add ∈ tblG := (gw_t (tb_3 133 rfl) rfl)
set_option maxRecDepth 100000 in
theorem mlX1_35 : Cond.methodLink RX1 35 yX9_copyFrom ∈ tblG := (gw_t (tb_3 137 rfl) rfl)
set_option maxRecDepth 100000 in
theorem mlX11_239 : Cond.methodLink RX11 239 yX3_clear ∈ tblG := (gw_t (tb_3 139 rfl) rfl)
set_option maxRecDepth 100000 in
theorem mlX11_243 : Cond.methodLink RX11 243 yX3_add ∈ tblG := (gw_t (tb_3 143 rfl) rfl)
set_option maxRecDepth 100000 in
theorem mlL_80 : Cond.methodLink RL 80 yX11_go ∈ tblG := (gw_t (tb_3 147 rfl) rfl)
set_option maxRecDepth 100000 in
theorem mlX11_251 : Cond.methodLink RX11 251 yX11_drive ∈ tblG := (gw_t (tb_3 151 rfl) rfl)
set_option maxRecDepth 100000 in
theorem mlX11_452 : Cond.methodLink RX11 452 yX9_leave ∈ tblG := (gw_t (tb_3 155 rfl) rfl)
set_option maxRecDepth 100000 in
theorem mlX11_254 : Cond.methodLink RX11 254 yX9_outBits ∈ tblG := (gw_t (tb_3 156 rfl) rfl)
set_option maxRecDepth 100000 in
theorem mlX9_51 : Cond.methodLink RX9 51 yX9_inside ∈ tblG := (gw_t (tb_3 160 rfl) rfl)
set_option maxRecDepth 100000 in
theorem mlX11_257 : Cond.methodLink RX11 257 yX11_noted ∈ tblG := (gw_t (tb_3 164 rfl) rfl)
set_option maxRecDepth 100000 in
theorem mlL_84 : Cond.methodLink RL 84 yX11_couple ∈ tblG := (gw_t (tb_3 168 rfl) rfl)
set_option maxRecDepth 100000 in
theorem mlX11_260 : Cond.methodLink RX11 260 yX11_takeStanding ∈ tblG := (gw_t (tb_3 172 rfl) rfl)
set_option maxRecDepth 100000 in
theorem mlX11_407 : Cond.methodLink RX11 407 yX9_takeStanding ∈ tblG := (gw_t (tb_3 176 rfl) rfl)
set_option maxRecDepth 100000 in
theorem mlX9_71 : Cond.methodLink RX9 71 yX9_standingAt ∈ tblG := (gw_t (tb_3 180 rfl) rfl)
set_option maxRecDepth 100000 in
theorem mlX9_74 : Cond.methodLink RX9 74 yJ6_bitCount_0f7a4 ∈ tblG := (gw_t (tb_3 184 rfl) rfl)
set_option maxRecDepth 100000 in
theorem mlL_88 : Cond.methodLink RL 88 yX11_cut ∈ tblG := (gw_t (tb_3 190 rfl) rfl)
set_option maxRecDepth 100000 in
theorem mlX11_263 : Cond.methodLink RX11 263 yX11_uncouple ∈ tblG := (gw_t (tb_3 194 rfl) rfl)
set_option maxRecDepth 100000 in
theorem mlX11_455 : Cond.methodLink RX11 455 yX9_shorten ∈ tblG := (gw_t (tb_3 198 rfl) rfl)
set_option maxRecDepth 100000 in
theorem mlL_92 : Cond.methodLink RL 92 yX11_walk ∈ tblG := (gw_t (tb_3 199 rfl) rfl)
set_option maxRecDepth 100000 in
theorem mlX11_266 : Cond.methodLink RX11 266 yX11_changeCoach ∈ tblG := (gw_t (tb_3 203 rfl) rfl)
set_option maxRecDepth 100000 in
theorem mlX11_202 : Cond.methodLink RX11 202 yX2_has ∈ tblG := (gw_t (tb_3 207 rfl) rfl)
set_option maxRecDepth 100000 in
theorem mlX11_174 : Cond.methodLink RX11 174 yX9_has ∈ tblG := (gw_t (tb_3 211 rfl) rfl)
set_option maxRecDepth 100000 in
theorem mlX11_458 : Cond.methodLink RX11 458 yX9_areNeighbours ∈ tblG := (gw_t (tb_3 215 rfl) rfl)
set_option maxRecDepth 100000 in
theorem mlL_96 : Cond.methodLink RL 96 yX11_stand ∈ tblG := (gw_t (tb_3 222 rfl) rfl)
set_option maxRecDepth 100000 in
theorem mlX11_269 : Cond.methodLink RX11 269 yX11_letPass ∈ tblG := (gw_t (tb_3 226 rfl) rfl)
set_option maxRecDepth 100000 in
theorem mlL_100 : Cond.methodLink RL 100 yX11_night ∈ tblG := (gw_t (tb_3 230 rfl) rfl)
set_option maxRecDepth 100000 in
theorem mlX11_272 : Cond.methodLink RX11 272 yX11_checkNight ∈ tblG := (gw_t (tb_3 234 rfl) rfl)
set_option maxRecDepth 100000 in
theorem mlX11_278 : Cond.methodLink RX11 278 yX11_actEnd ∈ tblG := (gw_t (tb_3 238 rfl) rfl)
set_option maxRecDepth 100000 in
theorem mlX11_445 : Cond.methodLink RX11 445 yX7_digitAt ∈ tblG := (gw_t (tb_4 2 rfl) rfl)
set_option maxRecDepth 100000 in
theorem mlX11_448 : Cond.methodLink RX11 448 yX11_actEndBehind ∈ tblG := (gw_t (tb_4 3 rfl) rfl)
set_option maxRecDepth 100000 in
theorem mlX11_275 : Cond.methodLink RX11 275 yX11_doAct ∈ tblG := (gw_t (tb_4 7 rfl) rfl)
set_option maxRecDepth 100000 in
theorem mlX11_281 : Cond.methodLink RX11 281 yX11_outMoreThan ∈ tblG := (gw_t (tb_4 11 rfl) rfl)
set_option maxRecDepth 100000 in
theorem mlX11_325 : Cond.methodLink RX11 325 yJ6_bitCount_0f7a4 ∈ tblG := (gw_t (tb_4 15 rfl) rfl)
set_option maxRecDepth 100000 in
theorem mlL_104 : Cond.methodLink RL 104 yX11_undo ∈ tblG := (gw_t (tb_4 16 rfl) rfl)
set_option maxRecDepth 100000 in
theorem mlX11_286 : Cond.methodLink RX11 286 yX1_back ∈ tblG := (gw_t (tb_4 20 rfl) rfl)
set_option maxRecDepth 100000 in
theorem mlL_108 : Cond.methodLink RL 108 yX11_way ∈ tblG := (gw_t (tb_4 25 rfl) rfl)
set_option maxRecDepth 100000 in
theorem mlX11_289 : Cond.methodLink RX11 289 yX0_has ∈ tblG := (gw_t (tb_4 29 rfl) rfl)
set_option maxRecDepth 100000 in
theorem mlX11_290 : Cond.methodLink RX11 290 yX0_between ∈ tblG := (gw_t (tb_4 33 rfl) rfl)
set_option maxRecDepth 100000 in
theorem mlX11_294 : Cond.methodLink RX11 294 yX0_nextOnWay ∈ tblG := (gw_t (tb_4 35 rfl) rfl)
set_option maxRecDepth 100000 in
theorem mlL_112 : Cond.methodLink RL 112 yX11_course ∈ tblG := (gw_t (tb_4 39 rfl) rfl)
set_option maxRecDepth 100000 in
theorem mlL_116 : Cond.methodLink RL 116 yX11_ahead ∈ tblG := (gw_t (tb_4 43 rfl) rfl)
set_option maxRecDepth 100000 in
theorem mlX11_308 : Cond.methodLink RX11 308 yX11_outMoreIn ∈ tblG := (gw_t (tb_4 47 rfl) rfl)
set_option maxRecDepth 100000 in
theorem mlX11_465 : Cond.methodLink RX11 465 yX5_often ∈ tblG := (gw_t (tb_4 51 rfl) rfl)
set_option maxRecDepth 100000 in
theorem mlX5_68 : Cond.methodLink RX5 68 yX5_once ∈ tblG := (gw_t (tb_4 55 rfl) rfl)
set_option maxRecDepth 100000 in
theorem mlX11_315 : Cond.methodLink RX11 315 yX9_trainBits ∈ tblG := (gw_t (tb_4 56 rfl) rfl)
set_option maxRecDepth 100000 in
theorem mlL_120 : Cond.methodLink RL 120 yX11_arrives ∈ tblG := (gw_t (tb_4 60 rfl) rfl)
set_option maxRecDepth 100000 in
theorem mlX11_318 : Cond.methodLink RX11 318 yX11_runsTillOut ∈ tblG := (gw_t (tb_4 64 rfl) rfl)
set_option maxRecDepth 100000 in
theorem mlL_124 : Cond.methodLink RL 124 yX11_tips ∈ tblG := (gw_t (tb_4 68 rfl) rfl)
set_option maxRecDepth 100000 in
theorem mlX11_190 : Cond.methodLink RX11 190 yX11_heldVote ∈ tblG := (gw_t (tb_4 72 rfl) rfl)
set_option maxRecDepth 100000 in
theorem mlX11_461 : Cond.methodLink RX11 461 yX10_hold ∈ tblG := (gw_t (tb_4 76 rfl) rfl)
set_option maxRecDepth 100000 in
theorem mlX11_321 : Cond.methodLink RX11 321 yX10_isTipping ∈ tblG := (gw_t (tb_4 77 rfl) rfl)
set_option maxRecDepth 100000 in
theorem mlX10_96 : Cond.methodLink RX10 96 yX10_voteIfWon ∈ tblG := (gw_t (tb_4 81 rfl) rfl)
set_option maxRecDepth 100000 in
theorem mlL_128 : Cond.methodLink RL 128 yX11_power ∈ tblG := (gw_t (tb_4 85 rfl) rfl)
set_option maxRecDepth 100000 in
theorem mlX11_330 : Cond.methodLink RX11 330 yX9_carries ∈ tblG := (gw_t (tb_4 89 rfl) rfl)
set_option maxRecDepth 100000 in
theorem mlX11_333 : Cond.methodLink RX11 333 yX9_carriedBits ∈ tblG := (gw_t (tb_4 93 rfl) rfl)
set_option maxRecDepth 100000 in
theorem mlX9_55 : Cond.methodLink RX9 55 yX9_carries ∈ tblG := (gw_t (tb_4 97 rfl) rfl)
set_option maxRecDepth 100000 in
theorem mlX11_336 : Cond.methodLink RX11 336 yX10_votesIn ∈ tblG := (gw_t (tb_4 98 rfl) rfl)
set_option maxRecDepth 100000 in
theorem mlX11_339 : Cond.methodLink RX11 339 yX11_tellFraction ∈ tblG := (gw_t (tb_4 102 rfl) rfl)
set_option maxRecDepth 100000 in
theorem mlL_132 : Cond.methodLink RL 132 yX11_lobby ∈ tblG := (gw_t (tb_4 106 rfl) rfl)
set_option maxRecDepth 100000 in
theorem mlX11_343 : Cond.methodLink RX11 343 yX10_othersThan ∈ tblG := (gw_t (tb_4 110 rfl) rfl)
set_option maxRecDepth 100000 in
theorem mlX11_186 : Cond.methodLink RX11 186 yX9_inside ∈ tblG := (gw_t (tb_4 114 rfl) rfl)
set_option maxRecDepth 100000 in
theorem mlX11_346 : Cond.methodLink RX11 346 yX10_voteIfWon ∈ tblG := (gw_t (tb_4 115 rfl) rfl)
set_option maxRecDepth 100000 in
theorem mlL_136 : Cond.methodLink RL 136 yX11_seat ∈ tblG := (gw_t (tb_4 116 rfl) rfl)
set_option maxRecDepth 100000 in
theorem mlL_140 : Cond.methodLink RL 140 yX11_reseat ∈ tblG := (gw_t (tb_4 120 rfl) rfl)
set_option maxRecDepth 100000 in
theorem mlX11_352 : Cond.methodLink RX11 352 yX11_canMove ∈ tblG := (gw_t (tb_4 124 rfl) rfl)
set_option maxRecDepth 100000 in
theorem mlL_144 : Cond.methodLink RL 144 yX11_close ∈ tblG := (gw_t (tb_4 128 rfl) rfl)
set_option maxRecDepth 100000 in
theorem mlX11_355 : Cond.methodLink RX11 355 yX0_shut ∈ tblG := (gw_t (tb_4 132 rfl) rfl)
set_option maxRecDepth 100000 in
theorem mlX0_48 : Cond.methodLink RX0 48 yX0_measure ∈ tblG := (gw_t (tb_4 136 rfl) rfl)
set_option maxRecDepth 100000 in
theorem mlL_148 : Cond.methodLink RL 148 yX11_fetch ∈ tblG := (gw_t (tb_4 137 rfl) rfl)
set_option maxRecDepth 100000 in
theorem mlX11_358 : Cond.methodLink RX11 358 yX8_plan ∈ tblG := (gw_t (tb_4 141 rfl) rfl)
set_option maxRecDepth 100000 in
theorem mlX8_27 : Cond.methodLink RX8 27 yX9_standingAt ∈ tblG := (gw_t (tb_4 145 rfl) rfl)
set_option maxRecDepth 100000 in
theorem mlX8_36 : Cond.methodLink RX8 36 yX0_between ∈ tblG := (gw_t (tb_4 146 rfl) rfl)
set_option maxRecDepth 100000 in
theorem mlX8_40 : Cond.methodLink RX8 40 yX8_fewestBy ∈ tblG := (gw_t (tb_4 147 rfl) rfl)
set_option maxRecDepth 100000 in
theorem mlX8_45 : Cond.methodLink RX8 45 yX8_minutesBy ∈ tblG := (gw_t (tb_4 152 rfl) rfl)
set_option maxRecDepth 100000 in
theorem mlX11_362 : Cond.methodLink RX11 362 yX8_minutesInAll ∈ tblG := (gw_t (tb_4 157 rfl) rfl)
set_option maxRecDepth 100000 in
theorem mlX11_365 : Cond.methodLink RX11 365 yX8_tellOrder ∈ tblG := (gw_t (tb_4 161 rfl) rfl)
set_option maxRecDepth 100000 in
theorem mlX8_54 : Cond.methodLink RX8 54 yX8_nextGoal ∈ tblG := (gw_t (tb_4 165 rfl) rfl)
set_option maxRecDepth 100000 in
theorem mlX8_57 : Cond.methodLink RX8 57 yX3_add ∈ tblG := (gw_t (tb_4 169 rfl) rfl)
set_option maxRecDepth 100000 in
theorem mlL_152 : Cond.methodLink RL 152 yX11_law ∈ tblG := (gw_t (tb_4 170 rfl) rfl)
set_option maxRecDepth 100000 in
theorem mlL_156 : Cond.methodLink RL 156 yX11_heads ∈ tblG := (gw_t (tb_4 174 rfl) rfl)
set_option maxRecDepth 100000 in
theorem mlL_160 : Cond.methodLink RL 160 yX11_seen ∈ tblG := (gw_t (tb_4 178 rfl) rfl)
set_option maxRecDepth 100000 in
theorem mlX11_370 : Cond.methodLink RX11 370 yX6_add ∈ tblG := (gw_t (tb_4 182 rfl) rfl)
set_option maxRecDepth 100000 in
theorem mlL_165 : Cond.methodLink RL 165 yX11_forget ∈ tblG := (gw_t (tb_4 187 rfl) rfl)
set_option maxRecDepth 100000 in
theorem mlL_169 : Cond.methodLink RL 169 yX11_rows ∈ tblG := (gw_t (tb_4 191 rfl) rfl)
set_option maxRecDepth 100000 in
theorem mlX11_373 : Cond.methodLink RX11 373 yX6_trace ∈ tblG := (gw_t (tb_4 195 rfl) rfl)
set_option maxRecDepth 100000 in
theorem mlX6_39 : Cond.methodLink RX6 39 yX6_waysOn ∈ tblG := (gw_t (tb_4 199 rfl) rfl)
set_option maxRecDepth 100000 in
theorem mlX6_43 : Cond.methodLink RX6 43 yX6_waysFrom ∈ tblG := (gw_t (tb_4 203 rfl) rfl)
set_option maxRecDepth 100000 in
theorem mlX6_46 : Cond.methodLink RX6 46 yX6_reachedFrom ∈ tblG := (gw_t (tb_4 207 rfl) rfl)
set_option maxRecDepth 100000 in
theorem mlX11_377 : Cond.methodLink RX11 377 yX6_waysFrom ∈ tblG := (gw_t (tb_4 211 rfl) rfl)
set_option maxRecDepth 100000 in
theorem mlX11_380 : Cond.methodLink RX11 380 yX6_tellLeast ∈ tblG := (gw_t (tb_4 212 rfl) rfl)
set_option maxRecDepth 100000 in
theorem mlX6_53 : Cond.methodLink RX6 53 yX3_add ∈ tblG := (gw_t (tb_4 216 rfl) rfl)
set_option maxRecDepth 100000 in
theorem mlL_173 : Cond.methodLink RL 173 yX11_been ∈ tblG := (gw_t (tb_4 217 rfl) rfl)
set_option maxRecDepth 100000 in
theorem mlX11_387 : Cond.methodLink RX11 387 yX6_haltsBehind ∈ tblG := (gw_t (tb_4 221 rfl) rfl)
set_option maxRecDepth 100000 in
theorem mlL_177 : Cond.methodLink RL 177 yX11_ask ∈ tblG := (gw_t (tb_4 225 rfl) rfl)
set_option maxRecDepth 100000 in
theorem mlL_181 : Cond.methodLink RL 181 yX11_odds ∈ tblG := (gw_t (tb_4 229 rfl) rfl)
set_option maxRecDepth 100000 in
theorem mlX11_390 : Cond.methodLink RX11 390 yX10_voteAmong ∈ tblG := (gw_t (tb_4 233 rfl) rfl)
set_option maxRecDepth 100000 in
theorem mlX11_393 : Cond.methodLink RX11 393 yX11_raised ∈ tblG := (gw_t (tb_4 237 rfl) rfl)
set_option maxRecDepth 100000 in
theorem mlL_185 : Cond.methodLink RL 185 yX11_bargain ∈ tblG := (gw_t (tb_5 0 rfl) rfl)
set_option maxRecDepth 100000 in
theorem mlX11_397 : Cond.methodLink RX11 397 yX11_isAtRest ∈ tblG := (gw_t (tb_5 4 rfl) rfl)
set_option maxRecDepth 100000 in
theorem mlL_189 : Cond.methodLink RL 189 yX11_nights ∈ tblG := (gw_t (tb_5 7 rfl) rfl)
set_option maxRecDepth 100000 in
theorem mlX11_404 : Cond.methodLink RX11 404 yX11_draw ∈ tblG := (gw_t (tb_5 11 rfl) rfl)
set_option maxRecDepth 100000 in
theorem mlX11_408 : Cond.methodLink RX11 408 yX11_drawMove ∈ tblG := (gw_t (tb_5 16 rfl) rfl)
set_option maxRecDepth 100000 in
theorem mlL_193 : Cond.methodLink RL 193 yX11_keep ∈ tblG := (gw_t (tb_5 20 rfl) rfl)
set_option maxRecDepth 100000 in
theorem mlX11_411 : Cond.methodLink RX11 411 yX1_keepUnder ∈ tblG := (gw_t (tb_5 24 rfl) rfl)
set_option maxRecDepth 100000 in
theorem mlL_197 : Cond.methodLink RL 197 yX11_again ∈ tblG := (gw_t (tb_5 28 rfl) rfl)
set_option maxRecDepth 100000 in
theorem mlX11_423 : Cond.methodLink RX11 423 yX1_forgetActs ∈ tblG := (gw_t (tb_5 32 rfl) rfl)
set_option maxRecDepth 100000 in
theorem mlL_201 : Cond.methodLink RL 201 yX11_count ∈ tblG := (gw_t (tb_5 33 rfl) rfl)
set_option maxRecDepth 100000 in
theorem mlX11_426 : Cond.methodLink RX11 426 yX9_standingBits ∈ tblG := (gw_t (tb_5 37 rfl) rfl)
set_option maxRecDepth 100000 in
theorem mlX9_47 : Cond.methodLink RX9 47 yX9_trainBits ∈ tblG := (gw_t (tb_5 41 rfl) rfl)
set_option maxRecDepth 100000 in
theorem mlL_56 : Cond.methodLink RL 56 yL_halt ∈ tblG := (gw_t (tb_5 42 rfl) rfl)
set_option maxRecDepth 100000 in
theorem mlL_7 : Cond.methodLink RL 7 yX11_halt ∈ tblG := (gw_t (tb_5 46 rfl) rfl)
set_option maxRecDepth 100000 in
theorem mlX11_167 : Cond.methodLink RX11 167 yX9_standingAt ∈ tblG := (gw_t (tb_5 116 rfl) rfl)
set_option maxRecDepth 100000 in
theorem mlL_65 : Cond.methodLink RL 65 yL_coach ∈ tblG := (gw_t (tb_5 117 rfl) rfl)
set_option maxRecDepth 100000 in
theorem mlL_15 : Cond.methodLink RL 15 yX11_coach ∈ tblG := (gw_t (tb_5 120 rfl) rfl)
set_option maxRecDepth 100000 in
theorem mlX11_180 : Cond.methodLink RX11 180 yX9_haltOf ∈ tblG := (gw_t (tb_5 125 rfl) rfl)
set_option maxRecDepth 100000 in
theorem mlX11_194 : Cond.methodLink RX11 194 yX10_voteOf ∈ tblG := (gw_t (tb_5 126 rfl) rfl)
set_option maxRecDepth 100000 in
theorem mlL_68 : Cond.methodLink RL 68 yL_passenger ∈ tblG := (gw_t (tb_5 127 rfl) rfl)
set_option maxRecDepth 100000 in
theorem mlL_18 : Cond.methodLink RL 18 yX11_passenger ∈ tblG := (gw_t (tb_5 130 rfl) rfl)
set_option maxRecDepth 100000 in
theorem mlL_205 : Cond.methodLink RL 205 yL_row ∈ tblG := (gw_t (tb_5 135 rfl) rfl)
set_option maxRecDepth 100000 in
theorem mlL_21 : Cond.methodLink RL 21 yX11_row ∈ tblG := (gw_t (tb_5 138 rfl) rfl)
set_option maxRecDepth 100000 in
theorem mlL_28 : Cond.methodLink RL 28 yX12_init ∈ tblG := (gw_t (tb_5 145 rfl) rfl)
set_option maxRecDepth 100000 in
theorem mlL_62 : Cond.methodLink RL 62 yX12_thrown ∈ tblG := (gw_t (tb_6 60 rfl) rfl)
set_option maxRecDepth 100000 in
theorem mlL_33 : Cond.methodLink RL 33 yX12_sign ∈ tblG := (gw_t (tb_6 64 rfl) rfl)
set_option maxRecDepth 100000 in
theorem mlL_38 : Cond.methodLink RL 38 yX12_end ∈ tblG := (gw_t (tb_6 68 rfl) rfl)
set_option maxRecDepth 100000 in
theorem mlX12_120 : Cond.methodLink RX12 120 yX12_in ∈ tblG := (gw_t (tb_6 72 rfl) rfl)
set_option maxRecDepth 100000 in
theorem mlL_43 : Cond.methodLink RL 43 yX12_net ∈ tblG := (gw_t (tb_6 75 rfl) rfl)
set_option maxRecDepth 100000 in
theorem mlX12_190 : Cond.methodLink RX12 190 yX12_begins ∈ tblG := (gw_t (tb_6 79 rfl) rfl)
set_option maxRecDepth 100000 in
theorem mlX12_186 : Cond.methodLink RX12 186 yX12_signIn ∈ tblG := (gw_t (tb_6 84 rfl) rfl)
set_option maxRecDepth 100000 in
theorem mlX12_182 : Cond.methodLink RX12 182 yX12_takes ∈ tblG := (gw_t (tb_6 88 rfl) rfl)
set_option maxRecDepth 100000 in
theorem mlX12_134 : Cond.methodLink RX12 134 yX12_flag ∈ tblG := (gw_t (tb_6 92 rfl) rfl)
set_option maxRecDepth 100000 in
theorem mlX12_194 : Cond.methodLink RX12 194 yX12_readsExit ∈ tblG := (gw_t (tb_6 95 rfl) rfl)
set_option maxRecDepth 100000 in
theorem mlX12_198 : Cond.methodLink RX12 198 yX12_faultOf ∈ tblG := (gw_t (tb_6 99 rfl) rfl)
set_option maxRecDepth 100000 in
theorem mlX12_202 : Cond.methodLink RX12 202 yX12_laysWays ∈ tblG := (gw_t (tb_6 103 rfl) rfl)
set_option maxRecDepth 100000 in
theorem mlL_47 : Cond.methodLink RL 47 yX12_coaches ∈ tblG := (gw_t (tb_6 108 rfl) rfl)
set_option maxRecDepth 100000 in
theorem mlX12_217 : Cond.methodLink RX12 217 yX12_trainLong ∈ tblG := (gw_t (tb_6 112 rfl) rfl)
set_option maxRecDepth 100000 in
theorem mlX12_130 : Cond.methodLink RX12 130 yX12_placeOf ∈ tblG := (gw_t (tb_6 116 rfl) rfl)
set_option maxRecDepth 100000 in
theorem mlX12_221 : Cond.methodLink RX12 221 yX12_came ∈ tblG := (gw_t (tb_6 119 rfl) rfl)
set_option maxRecDepth 100000 in
theorem mlL_51 : Cond.methodLink RL 51 yX12_passengers ∈ tblG := (gw_t (tb_6 123 rfl) rfl)
set_option maxRecDepth 100000 in
theorem mlX12_224 : Cond.methodLink RX12 224 yX12_readsPassenger ∈ tblG := (gw_t (tb_6 127 rfl) rfl)
set_option maxRecDepth 100000 in
theorem mlX12_227 : Cond.methodLink RX12 227 yX12_haltOf ∈ tblG := (gw_t (tb_6 131 rfl) rfl)
set_option maxRecDepth 100000 in
theorem mlL_55 : Cond.methodLink RL 55 yX12_rule ∈ tblG := (gw_t (tb_6 134 rfl) rfl)
set_option maxRecDepth 100000 in
theorem mlX12_260 : Cond.methodLink RX12 260 yX12_readsRule ∈ tblG := (gw_t (tb_6 138 rfl) rfl)
set_option maxRecDepth 100000 in
theorem mlX12_248 : Cond.methodLink RX12 248 yX12_readsRank ∈ tblG := (gw_t (tb_6 142 rfl) rfl)
set_option maxRecDepth 100000 in
theorem mlX12_233 : Cond.methodLink RX12 233 yX12_readsThing ∈ tblG := (gw_t (tb_6 146 rfl) rfl)
set_option maxRecDepth 100000 in
theorem mlX12_236 : Cond.methodLink RX12 236 yX12_codes ∈ tblG := (gw_t (tb_6 150 rfl) rfl)
set_option maxRecDepth 100000 in
theorem mlX12_178 : Cond.methodLink RX12 178 yX12_isDigit ∈ tblG := (gw_t (tb_6 154 rfl) rfl)
set_option maxRecDepth 100000 in
theorem mlX12_240 : Cond.methodLink RX12 240 yX12_number ∈ tblG := (gw_t (tb_6 160 rfl) rfl)
set_option maxRecDepth 100000 in
theorem mlX12_245 : Cond.methodLink RX12 245 yX12_takesOf ∈ tblG := (gw_t (tb_6 165 rfl) rfl)
set_option maxRecDepth 100000 in
theorem mlX12_174 : Cond.methodLink RX12 174 yX12_among ∈ tblG := (gw_t (tb_6 169 rfl) rfl)
set_option maxRecDepth 100000 in
theorem mlX12_263 : Cond.methodLink RX12 263 yX12_laysCode ∈ tblG := (gw_t (tb_6 224 rfl) rfl)
set_option maxRecDepth 100000 in
theorem mlL_61 : Cond.methodLink RL 61 yX12_halt ∈ tblG := (gw_t (tb_6 228 rfl) rfl)
set_option maxRecDepth 100000 in
theorem mlX12_306 : Cond.methodLink RX12 306 yX12_isHalt ∈ tblG := (gw_t (tb_6 232 rfl) rfl)
set_option maxRecDepth 100000 in
theorem mlX12_311 : Cond.methodLink RX12 311 yX12_refuse ∈ tblG := (gw_t (tb_6 237 rfl) rfl)
set_option maxRecDepth 100000 in
theorem mlX12_314 : Cond.methodLink RX12 314 yX12_standingAt ∈ tblG := (gw_t (tb_7 1 rfl) rfl)
set_option maxRecDepth 100000 in
theorem mlL_67 : Cond.methodLink RL 67 yX12_coach ∈ tblG := (gw_t (tb_7 5 rfl) rfl)
set_option maxRecDepth 100000 in
theorem mlX12_317 : Cond.methodLink RX12 317 yX12_isCoach ∈ tblG := (gw_t (tb_7 9 rfl) rfl)
set_option maxRecDepth 100000 in
theorem mlX12_322 : Cond.methodLink RX12 322 yX12_voteOf ∈ tblG := (gw_t (tb_7 14 rfl) rfl)
set_option maxRecDepth 100000 in
theorem mlX12_270 : Cond.methodLink RX12 270 yX12_sitting ∈ tblG := (gw_t (tb_7 18 rfl) rfl)
set_option maxRecDepth 100000 in
theorem mlX12_297 : Cond.methodLink RX12 297 yX12_polls ∈ tblG := (gw_t (tb_7 22 rfl) rfl)
set_option maxRecDepth 100000 in
theorem mlX12_288 : Cond.methodLink RX12 288 yX12_has ∈ tblG := (gw_t (tb_7 26 rfl) rfl)
set_option maxRecDepth 100000 in
theorem mlX12_291 : Cond.methodLink RX12 291 yX12_wishOf ∈ tblG := (gw_t (tb_7 29 rfl) rfl)
set_option maxRecDepth 100000 in
theorem mlX12_145 : Cond.methodLink RX12 145 yX12_farOf ∈ tblG := (gw_t (tb_7 33 rfl) rfl)
set_option maxRecDepth 100000 in
theorem mlX12_284 : Cond.methodLink RX12 284 yX12_beginsWay ∈ tblG := (gw_t (tb_7 37 rfl) rfl)
set_option maxRecDepth 100000 in
theorem mlX12_294 : Cond.methodLink RX12 294 yX12_votesOf ∈ tblG := (gw_t (tb_7 41 rfl) rfl)
set_option maxRecDepth 100000 in
theorem mlX12_273 : Cond.methodLink RX12 273 yJ6_bitCount_0f7a4 ∈ tblG := (gw_t (tb_7 45 rfl) rfl)
set_option maxRecDepth 100000 in
theorem mlX12_278 : Cond.methodLink RX12 278 yX12_ruled ∈ tblG := (gw_t (tb_7 46 rfl) rfl)
set_option maxRecDepth 100000 in
theorem mlX12_267 : Cond.methodLink RX12 267 yX12_worked ∈ tblG := (gw_t (tb_7 50 rfl) rfl)
set_option maxRecDepth 100000 in
theorem mlX12_300 : Cond.methodLink RX12 300 yX12_polled ∈ tblG := (gw_t (tb_7 54 rfl) rfl)
set_option maxRecDepth 100000 in
theorem mlL_70 : Cond.methodLink RL 70 yX12_passenger ∈ tblG := (gw_t (tb_7 58 rfl) rfl)
set_option maxRecDepth 100000 in
theorem mlX12_325 : Cond.methodLink RX12 325 yX12_isPassenger ∈ tblG := (gw_t (tb_7 62 rfl) rfl)
set_option maxRecDepth 100000 in
theorem mlL_75 : Cond.methodLink RL 75 yX12_sheet ∈ tblG := (gw_t (tb_7 67 rfl) rfl)
set_option maxRecDepth 100000 in
theorem mlL_107 : Cond.methodLink RL 107 yX12_undo ∈ tblG := (gw_t (tb_7 72 rfl) rfl)
set_option maxRecDepth 100000 in
theorem mlL_79 : Cond.methodLink RL 79 yX12_run ∈ tblG := (gw_t (tb_7 76 rfl) rfl)
set_option maxRecDepth 100000 in
theorem mlX12_367 : Cond.methodLink RX12 367 yX12_putsBy ∈ tblG := (gw_t (tb_7 80 rfl) rfl)
set_option maxRecDepth 100000 in
theorem mlX12_370 : Cond.methodLink RX12 370 yX12_outs ∈ tblG := (gw_t (tb_7 84 rfl) rfl)
set_option maxRecDepth 100000 in
theorem mlX12_373 : Cond.methodLink RX12 373 yX12_runs ∈ tblG := (gw_t (tb_7 88 rfl) rfl)
set_option maxRecDepth 100000 in
theorem mlX12_358 : Cond.methodLink RX12 358 yX12_trainVote ∈ tblG := (gw_t (tb_7 92 rfl) rfl)
set_option maxRecDepth 100000 in
theorem mlX12_303 : Cond.methodLink RX12 303 yX12_riding ∈ tblG := (gw_t (tb_7 96 rfl) rfl)
set_option maxRecDepth 100000 in
theorem mlX12_361 : Cond.methodLink RX12 361 yX12_runsBy ∈ tblG := (gw_t (tb_7 100 rfl) rfl)
set_option maxRecDepth 100000 in
theorem mlX12_345 : Cond.methodLink RX12 345 yX12_isCourse ∈ tblG := (gw_t (tb_7 104 rfl) rfl)
set_option maxRecDepth 100000 in
theorem mlX12_349 : Cond.methodLink RX12 349 yX12_goingAlong ∈ tblG := (gw_t (tb_7 107 rfl) rfl)
set_option maxRecDepth 100000 in
theorem mlX12_342 : Cond.methodLink RX12 342 yX12_coachAt ∈ tblG := (gw_t (tb_7 111 rfl) rfl)
set_option maxRecDepth 100000 in
theorem mlX12_352 : Cond.methodLink RX12 352 yX12_leavesFrom ∈ tblG := (gw_t (tb_7 115 rfl) rfl)
set_option maxRecDepth 100000 in
theorem mlX12_355 : Cond.methodLink RX12 355 yX12_goesBy ∈ tblG := (gw_t (tb_7 119 rfl) rfl)
set_option maxRecDepth 100000 in
theorem mlX12_338 : Cond.methodLink RX12 338 yX12_getOut ∈ tblG := (gw_t (tb_7 123 rfl) rfl)
set_option maxRecDepth 100000 in
theorem mlX12_116 : Cond.methodLink RX12 116 yX12_enters ∈ tblG := (gw_t (tb_7 127 rfl) rfl)
set_option maxRecDepth 100000 in
theorem mlX12_332 : Cond.methodLink RX12 332 yX12_adds ∈ tblG := (gw_t (tb_7 131 rfl) rfl)
set_option maxRecDepth 100000 in
theorem mlL_83 : Cond.methodLink RL 83 yX12_go ∈ tblG := (gw_t (tb_7 135 rfl) rfl)
set_option maxRecDepth 100000 in
theorem mlX12_376 : Cond.methodLink RX12 376 yX12_goes ∈ tblG := (gw_t (tb_7 139 rfl) rfl)
set_option maxRecDepth 100000 in
theorem mlL_87 : Cond.methodLink RL 87 yX12_couple ∈ tblG := (gw_t (tb_7 143 rfl) rfl)
set_option maxRecDepth 100000 in
theorem mlX12_380 : Cond.methodLink RX12 380 yX12_couples ∈ tblG := (gw_t (tb_7 147 rfl) rfl)
set_option maxRecDepth 100000 in
theorem mlX12_383 : Cond.methodLink RX12 383 yX12_counts ∈ tblG := (gw_t (tb_7 151 rfl) rfl)
set_option maxRecDepth 100000 in
theorem mlL_91 : Cond.methodLink RL 91 yX12_cut ∈ tblG := (gw_t (tb_7 155 rfl) rfl)
set_option maxRecDepth 100000 in
theorem mlX12_386 : Cond.methodLink RX12 386 yX12_cuts ∈ tblG := (gw_t (tb_7 159 rfl) rfl)
set_option maxRecDepth 100000 in
theorem mlL_95 : Cond.methodLink RL 95 yX12_walk ∈ tblG := (gw_t (tb_7 163 rfl) rfl)
set_option maxRecDepth 100000 in
theorem mlX12_389 : Cond.methodLink RX12 389 yX12_walks ∈ tblG := (gw_t (tb_7 167 rfl) rfl)
set_option maxRecDepth 100000 in
theorem mlL_99 : Cond.methodLink RL 99 yX12_stand ∈ tblG := (gw_t (tb_7 172 rfl) rfl)
set_option maxRecDepth 100000 in
theorem mlL_103 : Cond.methodLink RL 103 yX12_night ∈ tblG := (gw_t (tb_7 177 rfl) rfl)
set_option maxRecDepth 100000 in
theorem mlX12_401 : Cond.methodLink RX12 401 yX12_readsAct ∈ tblG := (gw_t (tb_7 181 rfl) rfl)
set_option maxRecDepth 100000 in
theorem mlX12_404 : Cond.methodLink RX12 404 yX12_does ∈ tblG := (gw_t (tb_7 187 rfl) rfl)
set_option maxRecDepth 100000 in
theorem mlL_111 : Cond.methodLink RL 111 yX12_way ∈ tblG := (gw_t (tb_7 191 rfl) rfl)
set_option maxRecDepth 100000 in
theorem mlL_115 : Cond.methodLink RL 115 yX12_course ∈ tblG := (gw_t (tb_7 195 rfl) rfl)
set_option maxRecDepth 100000 in
theorem mlX12_407 : Cond.methodLink RX12 407 yX12_puts ∈ tblG := (gw_t (tb_7 199 rfl) rfl)
set_option maxRecDepth 100000 in
theorem mlL_119 : Cond.methodLink RL 119 yX12_ahead ∈ tblG := (gw_t (tb_7 203 rfl) rfl)
set_option maxRecDepth 100000 in
theorem mlX12_415 : Cond.methodLink RX12 415 yX12_outIn ∈ tblG := (gw_t (tb_7 208 rfl) rfl)
set_option maxRecDepth 100000 in
theorem mlX12_410 : Cond.methodLink RX12 410 yX12_outMany ∈ tblG := (gw_t (tb_7 212 rfl) rfl)
set_option maxRecDepth 100000 in
theorem mlX12_418 : Cond.methodLink RX12 418 yX12_train ∈ tblG := (gw_t (tb_7 216 rfl) rfl)
set_option maxRecDepth 100000 in
theorem mlL_123 : Cond.methodLink RL 123 yX12_arrives ∈ tblG := (gw_t (tb_7 220 rfl) rfl)
set_option maxRecDepth 100000 in
theorem mlX12_421 : Cond.methodLink RX12 421 yX12_outAfter ∈ tblG := (gw_t (tb_7 224 rfl) rfl)
set_option maxRecDepth 100000 in
theorem mlL_127 : Cond.methodLink RL 127 yX12_tips ∈ tblG := (gw_t (tb_7 228 rfl) rfl)
set_option maxRecDepth 100000 in
theorem mlL_131 : Cond.methodLink RL 131 yX12_power ∈ tblG := (gw_t (tb_7 232 rfl) rfl)
set_option maxRecDepth 100000 in
theorem mlX12_424 : Cond.methodLink RX12 424 yX12_tellsFraction ∈ tblG := (gw_t (tb_7 236 rfl) rfl)
set_option maxRecDepth 100000 in
theorem mlX12_109 : Cond.methodLink RX12 109 yX12_common ∈ tblG := (gw_t (tb_8 0 rfl) rfl)
set_option maxRecDepth 100000 in
theorem mlL_135 : Cond.methodLink RL 135 yX12_lobby ∈ tblG := (gw_t (tb_8 3 rfl) rfl)
set_option maxRecDepth 100000 in
theorem mlL_139 : Cond.methodLink RL 139 yX12_seat ∈ tblG := (gw_t (tb_8 8 rfl) rfl)
set_option maxRecDepth 100000 in
theorem mlL_143 : Cond.methodLink RL 143 yX12_reseat ∈ tblG := (gw_t (tb_8 12 rfl) rfl)
set_option maxRecDepth 100000 in
theorem mlL_147 : Cond.methodLink RL 147 yX12_close ∈ tblG := (gw_t (tb_8 17 rfl) rfl)
set_option maxRecDepth 100000 in
theorem mlL_151 : Cond.methodLink RL 151 yX12_fetch ∈ tblG := (gw_t (tb_8 21 rfl) rfl)
set_option maxRecDepth 100000 in
theorem mlX12_438 : Cond.methodLink RX12 438 yX12_fetches ∈ tblG := (gw_t (tb_8 25 rfl) rfl)
set_option maxRecDepth 100000 in
theorem mlL_155 : Cond.methodLink RL 155 yX12_law ∈ tblG := (gw_t (tb_8 29 rfl) rfl)
set_option maxRecDepth 100000 in
theorem mlL_159 : Cond.methodLink RL 159 yX12_heads ∈ tblG := (gw_t (tb_8 33 rfl) rfl)
set_option maxRecDepth 100000 in
theorem mlX12_442 : Cond.methodLink RX12 442 yX12_byHeads ∈ tblG := (gw_t (tb_8 37 rfl) rfl)
set_option maxRecDepth 100000 in
theorem mlL_164 : Cond.methodLink RL 164 yX12_seen ∈ tblG := (gw_t (tb_8 41 rfl) rfl)
set_option maxRecDepth 100000 in
theorem mlL_168 : Cond.methodLink RL 168 yX12_forget ∈ tblG := (gw_t (tb_8 45 rfl) rfl)
set_option maxRecDepth 100000 in
theorem mlL_172 : Cond.methodLink RL 172 yX12_rows ∈ tblG := (gw_t (tb_8 49 rfl) rfl)
set_option maxRecDepth 100000 in
theorem mlX12_451 : Cond.methodLink RX12 451 yX12_lastSeen ∈ tblG := (gw_t (tb_8 53 rfl) rfl)
set_option maxRecDepth 100000 in
theorem mlX12_454 : Cond.methodLink RX12 454 yX12_laysRows ∈ tblG := (gw_t (tb_8 57 rfl) rfl)
set_option maxRecDepth 100000 in
theorem mlX12_445 : Cond.methodLink RX12 445 yX12_rowsBy ∈ tblG := (gw_t (tb_8 61 rfl) rfl)
set_option maxRecDepth 100000 in
theorem mlX12_448 : Cond.methodLink RX12 448 yX12_fits ∈ tblG := (gw_t (tb_8 65 rfl) rfl)
set_option maxRecDepth 100000 in
theorem mlL_176 : Cond.methodLink RL 176 yX12_been ∈ tblG := (gw_t (tb_8 69 rfl) rfl)
set_option maxRecDepth 100000 in
theorem mlX12_457 : Cond.methodLink RX12 457 yX12_beenBehind ∈ tblG := (gw_t (tb_8 73 rfl) rfl)
set_option maxRecDepth 100000 in
theorem mlL_180 : Cond.methodLink RL 180 yX12_ask ∈ tblG := (gw_t (tb_8 77 rfl) rfl)
set_option maxRecDepth 100000 in
theorem mlL_184 : Cond.methodLink RL 184 yX12_odds ∈ tblG := (gw_t (tb_8 81 rfl) rfl)
set_option maxRecDepth 100000 in
theorem mlL_188 : Cond.methodLink RL 188 yX12_bargain ∈ tblG := (gw_t (tb_8 86 rfl) rfl)
set_option maxRecDepth 100000 in
theorem mlX12_467 : Cond.methodLink RX12 467 yX12_isRest ∈ tblG := (gw_t (tb_8 91 rfl) rfl)
set_option maxRecDepth 100000 in
theorem mlX12_462 : Cond.methodLink RX12 462 yX12_gets ∈ tblG := (gw_t (tb_8 94 rfl) rfl)
set_option maxRecDepth 100000 in
theorem mlL_192 : Cond.methodLink RL 192 yX12_nights ∈ tblG := (gw_t (tb_8 97 rfl) rfl)
set_option maxRecDepth 100000 in
theorem mlX12_476 : Cond.methodLink RX12 476 yX12_draws ∈ tblG := (gw_t (tb_8 102 rfl) rfl)
set_option maxRecDepth 100000 in
theorem mlL_196 : Cond.methodLink RL 196 yX12_keep ∈ tblG := (gw_t (tb_8 107 rfl) rfl)
set_option maxRecDepth 100000 in
theorem mlL_200 : Cond.methodLink RL 200 yX12_again ∈ tblG := (gw_t (tb_8 111 rfl) rfl)
set_option maxRecDepth 100000 in
theorem mlL_204 : Cond.methodLink RL 204 yX12_count ∈ tblG := (gw_t (tb_8 115 rfl) rfl)
set_option maxRecDepth 100000 in
theorem mlL_208 : Cond.methodLink RL 208 yX12_row ∈ tblG := (gw_t (tb_8 119 rfl) rfl)
set_option maxRecDepth 100000 in
theorem kwX0_51 : Cond.constant RX0 51 (Int32.ofInt (100000)) ∈ tblG := (gw_t (tb_2 171 rfl) rfl)
set_option maxRecDepth 100000 in
theorem kwX10_64 : Cond.constant RX10 64 (Int32.ofInt (100000)) ∈ tblG := (gw_t (tb_3 81 rfl) rfl)
set_option maxRecDepth 100000 in
theorem kwJ6_265 : Cond.constant RJ6 265 (Int32.ofInt (1431655765)) ∈ tblG := (gw_t (tb_3 187 rfl) rfl)
set_option maxRecDepth 100000 in
theorem kwJ6_266 : Cond.constant RJ6 266 (Int32.ofInt (858993459)) ∈ tblG := (gw_t (tb_3 188 rfl) rfl)
set_option maxRecDepth 100000 in
theorem kwJ6_267 : Cond.constant RJ6 267 (Int32.ofInt (252645135)) ∈ tblG := (gw_t (tb_3 189 rfl) rfl)
set_option maxRecDepth 100000 in
theorem kwX11_293 : Cond.constant RX11 293 (Int32.ofInt (100000)) ∈ tblG := (gw_t (tb_4 34 rfl) rfl)
set_option maxRecDepth 100000 in
theorem kwX8_44 : Cond.constant RX8 44 (Int32.ofInt (100000)) ∈ tblG := (gw_t (tb_4 151 rfl) rfl)
set_option maxRecDepth 100000 in
theorem kwX11_473 : Cond.constant RX11 473 (Int32.ofInt (1103515245)) ∈ tblG := (gw_t (tb_5 15 rfl) rfl)
set_option maxRecDepth 100000 in
theorem kwX12_138 : Cond.constant RX12 138 (Int32.ofInt (1000000)) ∈ tblG := (gw_t (tb_6 107 rfl) rfl)
set_option maxRecDepth 100000 in
theorem kwX12_473 : Cond.constant RX12 473 (Int32.ofInt (1103515245)) ∈ tblG := (gw_t (tb_8 106 rfl) rfl)
set_option maxRecDepth 100000 in
theorem klX12_160 : Cond.constantLong RX12 160 (Int64.ofInt (48)) ∈ tblG := (gw_t (tb_6 158 rfl) rfl)
set_option maxRecDepth 100000 in
theorem klX12_162 : Cond.constantLong RX12 162 (Int64.ofInt (57)) ∈ tblG := (gw_t (tb_6 159 rfl) rfl)
set_option maxRecDepth 100000 in
theorem klX12_309 : Cond.constantLong RX12 309 (Int64.ofInt (5)) ∈ tblG := (gw_t (tb_6 236 rfl) rfl)
set_option maxRecDepth 100000 in
theorem klX12_320 : Cond.constantLong RX12 320 (Int64.ofInt (6)) ∈ tblG := (gw_t (tb_7 13 rfl) rfl)
set_option maxRecDepth 100000 in
theorem klX12_328 : Cond.constantLong RX12 328 (Int64.ofInt (4)) ∈ tblG := (gw_t (tb_7 66 rfl) rfl)
set_option maxRecDepth 100000 in
theorem klX12_330 : Cond.constantLong RX12 330 (Int64.ofInt (3)) ∈ tblG := (gw_t (tb_7 71 rfl) rfl)
set_option maxRecDepth 100000 in
theorem klX12_392 : Cond.constantLong RX12 392 (Int64.ofInt (99)) ∈ tblG := (gw_t (tb_7 176 rfl) rfl)
set_option maxRecDepth 100000 in
theorem klX12_413 : Cond.constantLong RX12 413 (Int64.ofInt (30)) ∈ tblG := (gw_t (tb_7 207 rfl) rfl)
set_option maxRecDepth 100000 in
theorem klX12_428 : Cond.constantLong RX12 428 (Int64.ofInt (2)) ∈ tblG := (gw_t (tb_8 7 rfl) rfl)
set_option maxRecDepth 100000 in
theorem klX12_430 : Cond.constantLong RX12 430 (Int64.ofInt (12)) ∈ tblG := (gw_t (tb_8 16 rfl) rfl)
set_option maxRecDepth 100000 in
theorem klX12_460 : Cond.constantLong RX12 460 (Int64.ofInt (10)) ∈ tblG := (gw_t (tb_8 85 rfl) rfl)
set_option maxRecDepth 100000 in
theorem klX12_465 : Cond.constantLong RX12 465 (Int64.ofInt (20)) ∈ tblG := (gw_t (tb_8 90 rfl) rfl)
set_option maxRecDepth 100000 in
theorem klX12_474 : Cond.constantLong RX12 474 (Int64.ofInt (60)) ∈ tblG := (gw_t (tb_8 101 rfl) rfl)
