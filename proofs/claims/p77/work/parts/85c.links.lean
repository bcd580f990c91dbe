theorem m_uw_0 : ∀ w ∈ u_ws RX0 TX0 2, w ∈ m_G := by
  have h : (u_ws RX0 TX0 2) = [2120, 2122].filterMap (fun i => m_wd i) := by decide +kernel
  have g : (u_ws RX0 TX0 2).all goodWord = true := by decide +kernel
  intro w hw
  have g1 := List.all_eq_true.mp g w hw
  rw [h] at hw
  obtain ⟨i, -, hi⟩ := List.mem_filterMap.mp hw
  exact m_inG hi g1
theorem m_ui_0 : Jvm.Cond.instantiable RX0 2 ∈ m_G ∧ Jvm.Cond.initialized RX0 ∈ m_G := ⟨m_inG (i := 2110) (by decide +kernel) rfl, m_inG (i := 1010) (by decide +kernel) rfl⟩
theorem m_uw_1 : ∀ w ∈ u_ws RX1 TX1 17, w ∈ m_G := by
  have h : (u_ws RX1 TX1 17) = [1111, 1113, 1115, 1117, 1119, 1121, 1123, 1125, 1127, 1129, 1131, 1133, 1135, 1137, 1139, 1141, 1143].filterMap (fun i => m_wd i) := by decide +kernel
  have g : (u_ws RX1 TX1 17).all goodWord = true := by decide +kernel
  intro w hw
  have g1 := List.all_eq_true.mp g w hw
  rw [h] at hw
  obtain ⟨i, -, hi⟩ := List.mem_filterMap.mp hw
  exact m_inG hi g1
theorem m_ui_1 : Jvm.Cond.instantiable RX1 17 ∈ m_G ∧ Jvm.Cond.initialized RX1 ∈ m_G := ⟨m_inG (i := 1035) (by decide +kernel) rfl, m_inG (i := 1003) (by decide +kernel) rfl⟩
theorem m_uw_2 : ∀ w ∈ u_ws RX2 TX2 19, w ∈ m_G := by
  have h : (u_ws RX2 TX2 19) = [1209, 1211, 1213, 1215, 1217, 1219, 1221, 1223, 1225, 1227, 1229, 1231, 1233, 1235, 1237, 1239, 2001, 2003, 2005].filterMap (fun i => m_wd i) := by decide +kernel
  have g : (u_ws RX2 TX2 19).all goodWord = true := by decide +kernel
  intro w hw
  have g1 := List.all_eq_true.mp g w hw
  rw [h] at hw
  obtain ⟨i, -, hi⟩ := List.mem_filterMap.mp hw
  exact m_inG hi g1
theorem m_ui_2 : Jvm.Cond.instantiable RX2 19 ∈ m_G ∧ Jvm.Cond.initialized RX2 ∈ m_G := ⟨m_inG (i := 1183) (by decide +kernel) rfl, m_inG (i := 1004) (by decide +kernel) rfl⟩
theorem m_uw_3 : ∀ w ∈ u_ws RX3 TX3 2, w ∈ m_G := by
  have h : (u_ws RX3 TX3 2) = [2039, 2041].filterMap (fun i => m_wd i) := by decide +kernel
  have g : (u_ws RX3 TX3 2).all goodWord = true := by decide +kernel
  intro w hw
  have g1 := List.all_eq_true.mp g w hw
  rw [h] at hw
  obtain ⟨i, -, hi⟩ := List.mem_filterMap.mp hw
  exact m_inG hi g1
theorem m_ui_3 : Jvm.Cond.instantiable RX3 2 ∈ m_G ∧ Jvm.Cond.initialized RX3 ∈ m_G := ⟨m_inG (i := 2032) (by decide +kernel) rfl, m_inG (i := 1007) (by decide +kernel) rfl⟩
theorem m_uw_4 : ∀ w ∈ u_ws RX4 TX4 2, w ∈ m_G := by
  have h : (u_ws RX4 TX4 2) = [2016, 2018].filterMap (fun i => m_wd i) := by decide +kernel
  have g : (u_ws RX4 TX4 2).all goodWord = true := by decide +kernel
  intro w hw
  have g1 := List.all_eq_true.mp g w hw
  rw [h] at hw
  obtain ⟨i, -, hi⟩ := List.mem_filterMap.mp hw
  exact m_inG hi g1
theorem m_ui_4 : Jvm.Cond.instantiable RX4 2 ∈ m_G ∧ Jvm.Cond.initialized RX4 ∈ m_G := ⟨m_inG (i := 2009) (by decide +kernel) rfl, m_inG (i := 1005) (by decide +kernel) rfl⟩
theorem m_uw_5 : ∀ w ∈ u_ws RX5 TX5 9, w ∈ m_G := by
  have h : (u_ws RX5 TX5 9) = [1161, 1163, 1165, 1167, 1169, 1171, 1173, 1175, 1177].filterMap (fun i => m_wd i) := by decide +kernel
  have g : (u_ws RX5 TX5 9).all goodWord = true := by decide +kernel
  intro w hw
  have g1 := List.all_eq_true.mp g w hw
  rw [h] at hw
  obtain ⟨i, -, hi⟩ := List.mem_filterMap.mp hw
  exact m_inG hi g1
theorem m_ui_5 : Jvm.Cond.instantiable RX5 9 ∈ m_G ∧ Jvm.Cond.initialized RX5 ∈ m_G := ⟨m_inG (i := 1029) (by decide +kernel) rfl, m_inG (i := 1002) (by decide +kernel) rfl⟩
theorem m_uw_6 : ∀ w ∈ u_ws RX6 TX6 3, w ∈ m_G := by
  have h : (u_ws RX6 TX6 3) = [2078, 2080, 2082].filterMap (fun i => m_wd i) := by decide +kernel
  have g : (u_ws RX6 TX6 3).all goodWord = true := by decide +kernel
  intro w hw
  have g1 := List.all_eq_true.mp g w hw
  rw [h] at hw
  obtain ⟨i, -, hi⟩ := List.mem_filterMap.mp hw
  exact m_inG hi g1
theorem m_ui_6 : Jvm.Cond.instantiable RX6 3 ∈ m_G ∧ Jvm.Cond.initialized RX6 ∈ m_G := ⟨m_inG (i := 2070) (by decide +kernel) rfl, m_inG (i := 1008) (by decide +kernel) rfl⟩
theorem m_uw_7 : ∀ w ∈ u_ws RX7 TX7 5, w ∈ m_G := by
  have h : (u_ws RX7 TX7 5) = [2098, 2100, 2102, 2104, 2106].filterMap (fun i => m_wd i) := by decide +kernel
  have g : (u_ws RX7 TX7 5).all goodWord = true := by decide +kernel
  intro w hw
  have g1 := List.all_eq_true.mp g w hw
  rw [h] at hw
  obtain ⟨i, -, hi⟩ := List.mem_filterMap.mp hw
  exact m_inG hi g1
theorem m_ui_7 : Jvm.Cond.instantiable RX7 5 ∈ m_G ∧ Jvm.Cond.initialized RX7 ∈ m_G := ⟨m_inG (i := 2087) (by decide +kernel) rfl, m_inG (i := 1009) (by decide +kernel) rfl⟩
theorem m_uw_8 : ∀ w ∈ u_ws RX8 TX8 6, w ∈ m_G := by
  have h : (u_ws RX8 TX8 6) = [2056, 2058, 2060, 2062, 2064, 2066].filterMap (fun i => m_wd i) := by decide +kernel
  have g : (u_ws RX8 TX8 6).all goodWord = true := by decide +kernel
  intro w hw
  have g1 := List.all_eq_true.mp g w hw
  rw [h] at hw
  obtain ⟨i, -, hi⟩ := List.mem_filterMap.mp hw
  exact m_inG hi g1
theorem m_ui_8 : Jvm.Cond.instantiable RX8 6 ∈ m_G ∧ Jvm.Cond.initialized RX8 ∈ m_G := ⟨m_inG (i := 2022) (by decide +kernel) rfl, m_inG (i := 1006) (by decide +kernel) rfl⟩
theorem m_uw_9 : ∀ w ∈ u_ws RX9 TX9 10, w ∈ m_G := by
  have h : (u_ws RX9 TX9 10) = [2136, 2138, 2140, 2142, 2144, 2146, 2148, 2150, 2152, 2154].filterMap (fun i => m_wd i) := by decide +kernel
  have g : (u_ws RX9 TX9 10).all goodWord = true := by decide +kernel
  intro w hw
  have g1 := List.all_eq_true.mp g w hw
  rw [h] at hw
  obtain ⟨i, -, hi⟩ := List.mem_filterMap.mp hw
  exact m_inG hi g1
theorem m_ui_9 : Jvm.Cond.instantiable RX9 10 ∈ m_G ∧ Jvm.Cond.initialized RX9 ∈ m_G := ⟨m_inG (i := 1021) (by decide +kernel) rfl, m_inG (i := 1001) (by decide +kernel) rfl⟩
theorem m_uw_10 : ∀ w ∈ u_ws RX10 TX10 43, w ∈ m_G := by
  have h : (u_ws RX10 TX10 43) = [6158, 6160, 6162, 6164, 6166, 6168, 6170, 6172, 6174, 6176, 6178, 6180, 6182, 6184, 6186, 6188, 6190, 6192, 6194, 6196, 6198, 6200, 6202, 6204, 6206, 6208, 6210, 6212, 6214, 6216, 6218, 6220, 6222, 6224, 6226, 6228, 6230, 6232, 6234, 6236, 6238, 7000, 7002].filterMap (fun i => m_wd i) := by decide +kernel
  have g : (u_ws RX10 TX10 43).all goodWord = true := by decide +kernel
  intro w hw
  have g1 := List.all_eq_true.mp g w hw
  rw [h] at hw
  obtain ⟨i, -, hi⟩ := List.mem_filterMap.mp hw
  exact m_inG hi g1
theorem m_ui_10 : Jvm.Cond.instantiable RX10 43 ∈ m_G ∧ Jvm.Cond.initialized RX10 ∈ m_G := ⟨m_inG (i := 6110) (by decide +kernel) rfl, m_inG (i := 1011) (by decide +kernel) rfl⟩
theorem m_cls_ok : m_clsOk := by
  intro a C T N h
  match a, h with
  | 0, h => cases h; exact ⟨m_uw_0, tyX0_ok, nmX0, rfl, m_ui_0⟩
  | 1, h => cases h; exact ⟨m_uw_1, tyX1_ok, nmX1, rfl, m_ui_1⟩
  | 2, h => cases h; exact ⟨m_uw_2, tyX2_ok, nmX2, rfl, m_ui_2⟩
  | 3, h => cases h; exact ⟨m_uw_3, tyX3_ok, nmX3, rfl, m_ui_3⟩
  | 4, h => cases h; exact ⟨m_uw_4, tyX4_ok, nmX4, rfl, m_ui_4⟩
  | 5, h => cases h; exact ⟨m_uw_5, tyX5_ok, nmX5, rfl, m_ui_5⟩
  | 6, h => cases h; exact ⟨m_uw_6, tyX6_ok, nmX6, rfl, m_ui_6⟩
  | 7, h => cases h; exact ⟨m_uw_7, tyX7_ok, nmX7, rfl, m_ui_7⟩
  | 8, h => cases h; exact ⟨m_uw_8, tyX8_ok, nmX8, rfl, m_ui_8⟩
  | 9, h => cases h; exact ⟨m_uw_9, tyX9_ok, nmX9, rfl, m_ui_9⟩
  | 10, h => cases h; exact ⟨m_uw_10, tyX10_ok, nmX10, rfl, m_ui_10⟩
  | k + 11, h => simp [vwCl] at h
theorem m_glob_ok : m_glob := by
  refine ⟨fun t ht => ?_, m_inG (i := 1026) (by decide +kernel) rfl, m_inG (i := 1027) (by decide +kernel) rfl, m_inG (i := 3077) (by decide +kernel) rfl, m_inG (i := 3076) (by decide +kernel) rfl, m_inG (i := 1018) (by decide +kernel) rfl⟩
  match t, ht with
  | 0, _ => exact m_inG (i := 1147) (by decide +kernel) rfl
  | 1, _ => exact m_inG (i := 1146) (by decide +kernel) rfl
  | 2, _ => exact m_inG (i := 7005) (by decide +kernel) rfl
  | 3, _ => exact m_inG (i := 2085) (by decide +kernel) rfl
  | _ + 4, h => omega
theorem m_1000 : ∀ k y b n r, m_cw k = some (y, b, n, r) → k ≠ 1000 := by
  intro k y b n r h e
  subst e
  have h1 : m_pos[1000]? = none := by decide +kernel
  unfold m_cw at h
  rw [h1] at h
  cases h
theorem m_ao : Jvm.Cond.arrayOver (.object "MotherBench$Circuit") ∈ lw_tbl := m_wd_in (q := 2125) (by decide +kernel)
