/-! ===== printed by wip/gen_names.py: the classes' fields ===== -/
theorem mm_fw_0 : ∀ w ∈ u_ws RX0 TX0 3, w ∈ mm_gw := by
  have h : (List.range 3).all (fun k => mm_wg ([2139, 2141, 2143].getD k 0) (u_lay RX0 TX0 k)) = true := by decide +kernel
  intro w hw
  obtain ⟨k, hk, rfl⟩ := List.mem_map.mp hw
  exact mm_wg_in (List.all_eq_true.mp h k hk)
theorem mm_fw_1 : ∀ w ∈ u_ws RX1 TX1 9, w ∈ mm_gw := by
  have h : (List.range 9).all (fun k => mm_wg ([1077, 1079, 1081, 1083, 1085, 1087, 1089, 1091, 1093].getD k 0) (u_lay RX1 TX1 k)) = true := by decide +kernel
  intro w hw
  obtain ⟨k, hk, rfl⟩ := List.mem_map.mp hw
  exact mm_wg_in (List.all_eq_true.mp h k hk)
theorem mm_fw_2 : ∀ w ∈ u_ws RX2 TX2 6, w ∈ mm_gw := by
  have h : (List.range 6).all (fun k => mm_wg ([2117, 2119, 2121, 2123, 2125, 2127].getD k 0) (u_lay RX2 TX2 k)) = true := by decide +kernel
  intro w hw
  obtain ⟨k, hk, rfl⟩ := List.mem_map.mp hw
  exact mm_wg_in (List.all_eq_true.mp h k hk)
theorem mm_fw_3 : ∀ w ∈ u_ws RX3 TX3 7, w ∈ mm_gw := by
  have h : (List.range 7).all (fun k => mm_wg ([1165, 1167, 1169, 1171, 1173, 1175, 1177].getD k 0) (u_lay RX3 TX3 k)) = true := by decide +kernel
  intro w hw
  obtain ⟨k, hk, rfl⟩ := List.mem_map.mp hw
  exact mm_wg_in (List.all_eq_true.mp h k hk)
theorem mm_fw_4 : ∀ w ∈ u_ws RX4 TX4 7, w ∈ mm_gw := by
  have h : (List.range 7).all (fun k => mm_wg ([1124, 1126, 1128, 1130, 1132, 1134, 1136].getD k 0) (u_lay RX4 TX4 k)) = true := by decide +kernel
  intro w hw
  obtain ⟨k, hk, rfl⟩ := List.mem_map.mp hw
  exact mm_wg_in (List.all_eq_true.mp h k hk)
theorem mm_fw_5 : ∀ w ∈ u_ws RX5 TX5 8, w ∈ mm_gw := by
  have h : (List.range 8).all (fun k => mm_wg ([1209, 1211, 1213, 1215, 1217, 1219, 1221, 1223].getD k 0) (u_lay RX5 TX5 k)) = true := by decide +kernel
  intro w hw
  obtain ⟨k, hk, rfl⟩ := List.mem_map.mp hw
  exact mm_wg_in (List.all_eq_true.mp h k hk)
theorem mm_fw_6 : ∀ w ∈ u_ws RX6 TX6 3, w ∈ mm_gw := by
  have h : (List.range 3).all (fun k => mm_wg ([1045, 1047, 1049].getD k 0) (u_lay RX6 TX6 k)) = true := by decide +kernel
  intro w hw
  obtain ⟨k, hk, rfl⟩ := List.mem_map.mp hw
  exact mm_wg_in (List.all_eq_true.mp h k hk)
theorem mm_fw_7 : ∀ w ∈ u_ws RX7 TX7 3, w ∈ mm_gw := by
  have h : (List.range 3).all (fun k => mm_wg ([2064, 2066, 2068].getD k 0) (u_lay RX7 TX7 k)) = true := by decide +kernel
  intro w hw
  obtain ⟨k, hk, rfl⟩ := List.mem_map.mp hw
  exact mm_wg_in (List.all_eq_true.mp h k hk)
theorem mm_fw_8 : ∀ w ∈ u_ws RX8 TX8 7, w ∈ mm_gw := by
  have h : (List.range 7).all (fun k => mm_wg ([2087, 2089, 2091, 2093, 2095, 2097, 2099].getD k 0) (u_lay RX8 TX8 k)) = true := by decide +kernel
  intro w hw
  obtain ⟨k, hk, rfl⟩ := List.mem_map.mp hw
  exact mm_wg_in (List.all_eq_true.mp h k hk)
theorem mm_fw_9 : ∀ w ∈ u_ws RX9 TX9 4, w ∈ mm_gw := by
  have h : (List.range 4).all (fun k => mm_wg ([1237, 1239, 2001, 2003].getD k 0) (u_lay RX9 TX9 k)) = true := by decide +kernel
  intro w hw
  obtain ⟨k, hk, rfl⟩ := List.mem_map.mp hw
  exact mm_wg_in (List.all_eq_true.mp h k hk)
theorem mm_fw_10 : ∀ w ∈ u_ws RX10 TX10 12, w ∈ mm_gw := by
  have h : (List.range 12).all (fun k => mm_wg ([2026, 2028, 2030, 2032, 2034, 2036, 2038, 2040, 2042, 2044, 2046, 2048].getD k 0) (u_lay RX10 TX10 k)) = true := by decide +kernel
  intro w hw
  obtain ⟨k, hk, rfl⟩ := List.mem_map.mp hw
  exact mm_wg_in (List.all_eq_true.mp h k hk)
theorem mm_fw_11 : ∀ w ∈ u_ws RX11 TX11 8, w ∈ mm_gw := by
  have h : (List.range 8).all (fun k => mm_wg ([2154, 2156, 2158, 2160, 2162, 2164, 2166, 2168].getD k 0) (u_lay RX11 TX11 k)) = true := by decide +kernel
  intro w hw
  obtain ⟨k, hk, rfl⟩ := List.mem_map.mp hw
  exact mm_wg_in (List.all_eq_true.mp h k hk)
theorem mm_fw_12 : ∀ w ∈ u_ws RX12 TX12 26, w ∈ mm_gw := by
  have h : (List.range 26).all (fun k => mm_wg ([6169, 6171, 6173, 6175, 6177, 6179, 6181, 6183, 6185, 6187, 6189, 6191, 6193, 6195, 6197, 6199, 6201, 6203, 6205, 6207, 6209, 6211, 6213, 6215, 6217, 6219].getD k 0) (u_lay RX12 TX12 k)) = true := by decide +kernel
  intro w hw
  obtain ⟨k, hk, rfl⟩ := List.mem_map.mp hw
  exact mm_wg_in (List.all_eq_true.mp h k hk)
theorem mm_cls : ∀ (ci : Nat) (r : vw_C), vwCl[ci]? = some r → (∀ w ∈ u_ws r.1 r.2.1 r.2.2, w ∈ mm_gw) ∧ (∀ k, k < r.2.2 → parseFieldDescriptor (r.2.1 k).2.2.1 = some (mm_ty ci k)) ∧ (∀ a, a < r.2.2 → ∀ b, b < r.2.2 → a ≠ b → (r.2.1 a).2.1 ≠ (r.2.1 b).2.1) := by
  intro ci r h
  match ci, h with
  | 0, h => cases h; exact ⟨mm_fw_0, tyX0_ok, nmX0⟩
  | 1, h => cases h; exact ⟨mm_fw_1, tyX1_ok, nmX1⟩
  | 2, h => cases h; exact ⟨mm_fw_2, tyX2_ok, nmX2⟩
  | 3, h => cases h; exact ⟨mm_fw_3, tyX3_ok, nmX3⟩
  | 4, h => cases h; exact ⟨mm_fw_4, tyX4_ok, nmX4⟩
  | 5, h => cases h; exact ⟨mm_fw_5, tyX5_ok, nmX5⟩
  | 6, h => cases h; exact ⟨mm_fw_6, tyX6_ok, nmX6⟩
  | 7, h => cases h; exact ⟨mm_fw_7, tyX7_ok, nmX7⟩
  | 8, h => cases h; exact ⟨mm_fw_8, tyX8_ok, nmX8⟩
  | 9, h => cases h; exact ⟨mm_fw_9, tyX9_ok, nmX9⟩
  | 10, h => cases h; exact ⟨mm_fw_10, tyX10_ok, nmX10⟩
  | 11, h => cases h; exact ⟨mm_fw_11, tyX11_ok, nmX11⟩
  | 12, h => cases h; exact ⟨mm_fw_12, tyX12_ok, nmX12⟩
  | ci + 13, h => simp [vwCl] at h
/-- what a method may make: cells, slots -/
def mm_bud (y : Nat) : Nat × Nat := match y with
  | 0 => (156, 3430)
  | 1 => (66, 1444)
  | 2 => (3, 108)
  | 3 => (6, 184)
  | 7 => (2, 163)
  | 8 => (1, 20)
  | 9 => (4, 327)
  | 10 => (4, 46)
  | 11 => (2, 33)
  | 218 => (17, 11365)
  | _ => (0, 0)
