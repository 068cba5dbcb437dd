theorem mm_max_s : Cond.static Lib.Math.max.name ∈ TBL := tm 1014 (by decide +kernel) (by decide +kernel)
theorem mm_max_c : Cond.code Lib.Math.max.name Lib.Math.max.code 2 (some .int) ∈ TBL := tm 1015 (by decide +kernel) (by decide +kernel)
theorem mm_min_s : Cond.static Lib.Math.min.name ∈ TBL := tm 454 (by decide +kernel) (by decide +kernel)
theorem mm_min_c : Cond.code Lib.Math.min.name Lib.Math.min.code 2 (some .int) ∈ TBL := tm 455 (by decide +kernel) (by decide +kernel)
theorem mm_i : Cond.initialized "java/lang/Math" ∈ TBL := tm 131 (by decide +kernel) (by decide +kernel)
theorem ac_n : Cond.native arraycopyName ∈ TBL := tm 618 (by decide +kernel) (by decide +kernel)
theorem ac_s : Cond.static arraycopyName ∈ TBL := tm 617 (by decide +kernel) (by decide +kernel)
theorem ac_i : Cond.initialized "java/lang/System" ∈ TBL := tm 137 (by decide +kernel) (by decide +kernel)
theorem wi0 : ∀ w ∈ u_ws RX0 TX0 1, w ∈ TBL := by
  intro w hw
  have key : u_ws RX0 TX0 1 = [380].filterMap (fun i => lw_tbl[i]?) := by decide +kernel
  have hg : (u_ws RX0 TX0 1).all goodWord = true := by decide +kernel
  refine List.mem_filter.mpr ⟨?_, List.all_eq_true.mp hg w hw⟩
  rw [key] at hw
  obtain ⟨i, -, hi⟩ := List.mem_filterMap.mp hw
  exact List.mem_of_getElem? hi
theorem wi1 : ∀ w ∈ u_ws RX1 TX1 7, w ∈ TBL := by
  intro w hw
  have key : u_ws RX1 TX1 7 = [358, 360, 362, 364, 366, 368, 370].filterMap (fun i => lw_tbl[i]?) := by decide +kernel
  have hg : (u_ws RX1 TX1 7).all goodWord = true := by decide +kernel
  refine List.mem_filter.mpr ⟨?_, List.all_eq_true.mp hg w hw⟩
  rw [key] at hw
  obtain ⟨i, -, hi⟩ := List.mem_filterMap.mp hw
  exact List.mem_of_getElem? hi
theorem wi2 : ∀ w ∈ u_ws RX2 TX2 8, w ∈ TBL := by
  intro w hw
  have key : u_ws RX2 TX2 8 = [163, 165, 167, 169, 171, 173, 175, 177].filterMap (fun i => lw_tbl[i]?) := by decide +kernel
  have hg : (u_ws RX2 TX2 8).all goodWord = true := by decide +kernel
  refine List.mem_filter.mpr ⟨?_, List.all_eq_true.mp hg w hw⟩
  rw [key] at hw
  obtain ⟨i, -, hi⟩ := List.mem_filterMap.mp hw
  exact List.mem_of_getElem? hi
theorem wi3 : ∀ w ∈ u_ws RX3 TX3 4, w ∈ TBL := by
  intro w hw
  have key : u_ws RX3 TX3 4 = [329, 331, 333, 335].filterMap (fun i => lw_tbl[i]?) := by decide +kernel
  have hg : (u_ws RX3 TX3 4).all goodWord = true := by decide +kernel
  refine List.mem_filter.mpr ⟨?_, List.all_eq_true.mp hg w hw⟩
  rw [key] at hw
  obtain ⟨i, -, hi⟩ := List.mem_filterMap.mp hw
  exact List.mem_of_getElem? hi
theorem wi4 : ∀ w ∈ u_ws RX4 TX4 4, w ∈ TBL := by
  intro w hw
  have key : u_ws RX4 TX4 4 = [293, 295, 297, 299].filterMap (fun i => lw_tbl[i]?) := by decide +kernel
  have hg : (u_ws RX4 TX4 4).all goodWord = true := by decide +kernel
  refine List.mem_filter.mpr ⟨?_, List.all_eq_true.mp hg w hw⟩
  rw [key] at hw
  obtain ⟨i, -, hi⟩ := List.mem_filterMap.mp hw
  exact List.mem_of_getElem? hi
theorem wi5 : ∀ w ∈ u_ws RX5 TX5 1, w ∈ TBL := by
  intro w hw
  have key : u_ws RX5 TX5 1 = [312].filterMap (fun i => lw_tbl[i]?) := by decide +kernel
  have hg : (u_ws RX5 TX5 1).all goodWord = true := by decide +kernel
  refine List.mem_filter.mpr ⟨?_, List.all_eq_true.mp hg w hw⟩
  rw [key] at hw
  obtain ⟨i, -, hi⟩ := List.mem_filterMap.mp hw
  exact List.mem_of_getElem? hi
theorem wi6 : ∀ w ∈ u_ws RX6 TX6 14, w ∈ TBL := by
  intro w hw
  have key : u_ws RX6 TX6 14 = [243, 245, 247, 249, 251, 253, 255, 257, 259, 261, 263, 265, 267, 269].filterMap (fun i => lw_tbl[i]?) := by decide +kernel
  have hg : (u_ws RX6 TX6 14).all goodWord = true := by decide +kernel
  refine List.mem_filter.mpr ⟨?_, List.all_eq_true.mp hg w hw⟩
  rw [key] at hw
  obtain ⟨i, -, hi⟩ := List.mem_filterMap.mp hw
  exact List.mem_of_getElem? hi
theorem wi7 : ∀ w ∈ u_ws RX7 TX7 12, w ∈ TBL := by
  intro w hw
  have key : u_ws RX7 TX7 12 = [395, 397, 399, 401, 403, 405, 407, 409, 411, 413, 415, 417].filterMap (fun i => lw_tbl[i]?) := by decide +kernel
  have hg : (u_ws RX7 TX7 12).all goodWord = true := by decide +kernel
  refine List.mem_filter.mpr ⟨?_, List.all_eq_true.mp hg w hw⟩
  rw [key] at hw
  obtain ⟨i, -, hi⟩ := List.mem_filterMap.mp hw
  exact List.mem_of_getElem? hi
theorem wi8 : ∀ w ∈ u_ws RX8 TX8 34, w ∈ TBL := by
  intro w hw
  have key : u_ws RX8 TX8 34 = [1266, 1268, 1270, 1272, 1274, 1276, 1278, 1280, 1282, 1284, 1286, 1288, 1290, 1292, 1294, 1296, 1298, 1300, 1302, 1304, 1306, 1308, 1310, 1312, 1314, 1316, 1318, 1320, 1322, 1324, 1326, 1328, 1330, 1332].filterMap (fun i => lw_tbl[i]?) := by decide +kernel
  have hg : (u_ws RX8 TX8 34).all goodWord = true := by decide +kernel
  refine List.mem_filter.mpr ⟨?_, List.all_eq_true.mp hg w hw⟩
  rw [key] at hw
  obtain ⟨i, -, hi⟩ := List.mem_filterMap.mp hw
  exact List.mem_of_getElem? hi
