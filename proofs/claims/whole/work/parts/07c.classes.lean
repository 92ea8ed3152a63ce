theorem zq_cf0 : ∀ w ∈ u_ws RX0 TX0 3, w ∈ zq_tb := by
  intro w hw
  have h : (u_ws RX0 TX0 3).all (fun w => decide (w ∈ lw_tbl) && goodWord w) = true := by decide +kernel
  have h1 := List.all_eq_true.mp h w hw
  rw [Bool.and_eq_true] at h1
  exact List.mem_filter.mpr ⟨of_decide_eq_true h1.1, h1.2⟩
theorem zq_cd0 : ∀ fs, zq_df[0]? = some fs → (∀ j, j < 3 → defaultValue (tyX0 j) = vp_V fs j) ∧ ∀ g : zq_G, fs.map (zq_c g) = fs := by
  intro fs hfs
  cases hfs
  exact ⟨by decide +kernel, fun g => rfl⟩
theorem zq_cf1 : ∀ w ∈ u_ws RX1 TX1 4, w ∈ zq_tb := by
  intro w hw
  have h : (u_ws RX1 TX1 4).all (fun w => decide (w ∈ lw_tbl) && goodWord w) = true := by decide +kernel
  have h1 := List.all_eq_true.mp h w hw
  rw [Bool.and_eq_true] at h1
  exact List.mem_filter.mpr ⟨of_decide_eq_true h1.1, h1.2⟩
theorem zq_cd1 : ∀ fs, zq_df[1]? = some fs → (∀ j, j < 4 → defaultValue (tyX1 j) = vp_V fs j) ∧ ∀ g : zq_G, fs.map (zq_c g) = fs := by
  intro fs hfs
  cases hfs
  exact ⟨by decide +kernel, fun g => rfl⟩
theorem zq_cf2 : ∀ w ∈ u_ws RX2 TX2 5, w ∈ zq_tb := by
  intro w hw
  have h : (u_ws RX2 TX2 5).all (fun w => decide (w ∈ lw_tbl) && goodWord w) = true := by decide +kernel
  have h1 := List.all_eq_true.mp h w hw
  rw [Bool.and_eq_true] at h1
  exact List.mem_filter.mpr ⟨of_decide_eq_true h1.1, h1.2⟩
theorem zq_cd2 : ∀ fs, zq_df[2]? = some fs → (∀ j, j < 5 → defaultValue (tyX2 j) = vp_V fs j) ∧ ∀ g : zq_G, fs.map (zq_c g) = fs := by
  intro fs hfs
  cases hfs
  exact ⟨by decide +kernel, fun g => rfl⟩
theorem zq_cf3 : ∀ w ∈ u_ws RX3 TX3 4, w ∈ zq_tb := by
  intro w hw
  have h : (u_ws RX3 TX3 4).all (fun w => decide (w ∈ lw_tbl) && goodWord w) = true := by decide +kernel
  have h1 := List.all_eq_true.mp h w hw
  rw [Bool.and_eq_true] at h1
  exact List.mem_filter.mpr ⟨of_decide_eq_true h1.1, h1.2⟩
theorem zq_cd3 : ∀ fs, zq_df[3]? = some fs → (∀ j, j < 4 → defaultValue (tyX3 j) = vp_V fs j) ∧ ∀ g : zq_G, fs.map (zq_c g) = fs := by
  intro fs hfs
  cases hfs
  exact ⟨by decide +kernel, fun g => rfl⟩
theorem zq_cf4 : ∀ w ∈ u_ws RX4 TX4 4, w ∈ zq_tb := by
  intro w hw
  have h : (u_ws RX4 TX4 4).all (fun w => decide (w ∈ lw_tbl) && goodWord w) = true := by decide +kernel
  have h1 := List.all_eq_true.mp h w hw
  rw [Bool.and_eq_true] at h1
  exact List.mem_filter.mpr ⟨of_decide_eq_true h1.1, h1.2⟩
theorem zq_cd4 : ∀ fs, zq_df[4]? = some fs → (∀ j, j < 4 → defaultValue (tyX4 j) = vp_V fs j) ∧ ∀ g : zq_G, fs.map (zq_c g) = fs := by
  intro fs hfs
  cases hfs
  exact ⟨by decide +kernel, fun g => rfl⟩
theorem zq_cf5 : ∀ w ∈ u_ws RX5 TX5 8, w ∈ zq_tb := by
  intro w hw
  have h : (u_ws RX5 TX5 8).all (fun w => decide (w ∈ lw_tbl) && goodWord w) = true := by decide +kernel
  have h1 := List.all_eq_true.mp h w hw
  rw [Bool.and_eq_true] at h1
  exact List.mem_filter.mpr ⟨of_decide_eq_true h1.1, h1.2⟩
theorem zq_cd5 : ∀ fs, zq_df[5]? = some fs → (∀ j, j < 8 → defaultValue (tyX5 j) = vp_V fs j) ∧ ∀ g : zq_G, fs.map (zq_c g) = fs := by
  intro fs hfs
  cases hfs
  exact ⟨by decide +kernel, fun g => rfl⟩
theorem zq_cf6 : ∀ w ∈ u_ws RX6 TX6 3, w ∈ zq_tb := by
  intro w hw
  have h : (u_ws RX6 TX6 3).all (fun w => decide (w ∈ lw_tbl) && goodWord w) = true := by decide +kernel
  have h1 := List.all_eq_true.mp h w hw
  rw [Bool.and_eq_true] at h1
  exact List.mem_filter.mpr ⟨of_decide_eq_true h1.1, h1.2⟩
theorem zq_cd6 : ∀ fs, zq_df[6]? = some fs → (∀ j, j < 3 → defaultValue (tyX6 j) = vp_V fs j) ∧ ∀ g : zq_G, fs.map (zq_c g) = fs := by
  intro fs hfs
  cases hfs
  exact ⟨by decide +kernel, fun g => rfl⟩
theorem zq_cf7 : ∀ w ∈ u_ws RX7 TX7 5, w ∈ zq_tb := by
  intro w hw
  have h : (u_ws RX7 TX7 5).all (fun w => decide (w ∈ lw_tbl) && goodWord w) = true := by decide +kernel
  have h1 := List.all_eq_true.mp h w hw
  rw [Bool.and_eq_true] at h1
  exact List.mem_filter.mpr ⟨of_decide_eq_true h1.1, h1.2⟩
theorem zq_cd7 : ∀ fs, zq_df[7]? = some fs → (∀ j, j < 5 → defaultValue (tyX7 j) = vp_V fs j) ∧ ∀ g : zq_G, fs.map (zq_c g) = fs := by
  intro fs hfs
  cases hfs
  exact ⟨by decide +kernel, fun g => rfl⟩
theorem zq_cf8 : ∀ w ∈ u_ws RX8 TX8 7, w ∈ zq_tb := by
  intro w hw
  have h : (u_ws RX8 TX8 7).all (fun w => decide (w ∈ lw_tbl) && goodWord w) = true := by decide +kernel
  have h1 := List.all_eq_true.mp h w hw
  rw [Bool.and_eq_true] at h1
  exact List.mem_filter.mpr ⟨of_decide_eq_true h1.1, h1.2⟩
theorem zq_cd8 : ∀ fs, zq_df[8]? = some fs → (∀ j, j < 7 → defaultValue (tyX8 j) = vp_V fs j) ∧ ∀ g : zq_G, fs.map (zq_c g) = fs := by
  intro fs hfs
  cases hfs
  exact ⟨by decide +kernel, fun g => rfl⟩
theorem zq_cf9 : ∀ w ∈ u_ws RX9 TX9 11, w ∈ zq_tb := by
  intro w hw
  have h : (u_ws RX9 TX9 11).all (fun w => decide (w ∈ lw_tbl) && goodWord w) = true := by decide +kernel
  have h1 := List.all_eq_true.mp h w hw
  rw [Bool.and_eq_true] at h1
  exact List.mem_filter.mpr ⟨of_decide_eq_true h1.1, h1.2⟩
theorem zq_cd9 : ∀ fs, zq_df[9]? = some fs → (∀ j, j < 11 → defaultValue (tyX9 j) = vp_V fs j) ∧ ∀ g : zq_G, fs.map (zq_c g) = fs := by
  intro fs hfs
  cases hfs
  exact ⟨by decide +kernel, fun g => rfl⟩
theorem zq_cf10 : ∀ w ∈ u_ws RX10 TX10 8, w ∈ zq_tb := by
  intro w hw
  have h : (u_ws RX10 TX10 8).all (fun w => decide (w ∈ lw_tbl) && goodWord w) = true := by decide +kernel
  have h1 := List.all_eq_true.mp h w hw
  rw [Bool.and_eq_true] at h1
  exact List.mem_filter.mpr ⟨of_decide_eq_true h1.1, h1.2⟩
theorem zq_cd10 : ∀ fs, zq_df[10]? = some fs → (∀ j, j < 8 → defaultValue (tyX10 j) = vp_V fs j) ∧ ∀ g : zq_G, fs.map (zq_c g) = fs := by
  intro fs hfs
  cases hfs
  exact ⟨by decide +kernel, fun g => rfl⟩
theorem zq_cf11 : ∀ w ∈ u_ws RX11 TX11 12, w ∈ zq_tb := by
  intro w hw
  have h : (u_ws RX11 TX11 12).all (fun w => decide (w ∈ lw_tbl) && goodWord w) = true := by decide +kernel
  have h1 := List.all_eq_true.mp h w hw
  rw [Bool.and_eq_true] at h1
  exact List.mem_filter.mpr ⟨of_decide_eq_true h1.1, h1.2⟩
theorem zq_cd11 : ∀ fs, zq_df[11]? = some fs → (∀ j, j < 12 → defaultValue (tyX11 j) = vp_V fs j) ∧ ∀ g : zq_G, fs.map (zq_c g) = fs := by
  intro fs hfs
  cases hfs
  exact ⟨by decide +kernel, fun g => rfl⟩
theorem zq_cf12 : ∀ w ∈ u_ws RX12 TX12 54, w ∈ zq_tb := by
  intro w hw
  have h : (u_ws RX12 TX12 54).all (fun w => decide (w ∈ lw_tbl) && goodWord w) = true := by decide +kernel
  have h1 := List.all_eq_true.mp h w hw
  rw [Bool.and_eq_true] at h1
  exact List.mem_filter.mpr ⟨of_decide_eq_true h1.1, h1.2⟩
theorem zq_cd12 : ∀ fs, zq_df[12]? = some fs → (∀ j, j < 54 → defaultValue (tyX12 j) = vp_V fs j) ∧ ∀ g : zq_G, fs.map (zq_c g) = fs := by
  intro fs hfs
  cases hfs
  exact ⟨by decide +kernel, fun g => rfl⟩
theorem zq_cf : ∀ (ci : Nat) (q : vw_C), vwCl[ci]? = some q → ∃ ty : Nat → FieldType, (∀ w ∈ u_ws q.1 q.2.1 q.2.2, w ∈ zq_tb) ∧ (∀ k, k < q.2.2 → parseFieldDescriptor (q.2.1 k).2.2.1 = some (ty k)) ∧ (∀ a, a < q.2.2 → ∀ b, b < q.2.2 → a ≠ b → (q.2.1 a).2.1 ≠ (q.2.1 b).2.1) ∧ ∀ fs, zq_df[ci]? = some fs → (∀ j, j < q.2.2 → defaultValue (ty j) = vp_V fs j) ∧ ∀ g : zq_G, fs.map (zq_c g) = fs := by
  intro ci q hq
  match ci, hq with
  | 0, hq => cases hq; exact ⟨tyX0, zq_cf0, tyX0_ok, nmX0, zq_cd0⟩
  | 1, hq => cases hq; exact ⟨tyX1, zq_cf1, tyX1_ok, nmX1, zq_cd1⟩
  | 2, hq => cases hq; exact ⟨tyX2, zq_cf2, tyX2_ok, nmX2, zq_cd2⟩
  | 3, hq => cases hq; exact ⟨tyX3, zq_cf3, tyX3_ok, nmX3, zq_cd3⟩
  | 4, hq => cases hq; exact ⟨tyX4, zq_cf4, tyX4_ok, nmX4, zq_cd4⟩
  | 5, hq => cases hq; exact ⟨tyX5, zq_cf5, tyX5_ok, nmX5, zq_cd5⟩
  | 6, hq => cases hq; exact ⟨tyX6, zq_cf6, tyX6_ok, nmX6, zq_cd6⟩
  | 7, hq => cases hq; exact ⟨tyX7, zq_cf7, tyX7_ok, nmX7, zq_cd7⟩
  | 8, hq => cases hq; exact ⟨tyX8, zq_cf8, tyX8_ok, nmX8, zq_cd8⟩
  | 9, hq => cases hq; exact ⟨tyX9, zq_cf9, tyX9_ok, nmX9, zq_cd9⟩
  | 10, hq => cases hq; exact ⟨tyX10, zq_cf10, tyX10_ok, nmX10, zq_cd10⟩
  | 11, hq => cases hq; exact ⟨tyX11, zq_cf11, tyX11_ok, nmX11, zq_cd11⟩
  | 12, hq => cases hq; exact ⟨tyX12, zq_cf12, tyX12_ok, nmX12, zq_cd12⟩
  | n + 13, hq => simp [vwCl] at hq
