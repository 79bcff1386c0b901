/-! CLASSES: what the tables say of each (by program) -/
theorem tw_0 : ∀ w ∈ k2_sels lw_privs, w ∈ lw_tbl := fun w h => List.mem_append_left _ h
theorem tw_1 : ∀ w ∈ tables_1_1, w ∈ lw_tbl := fun w h => List.mem_append_right _ (List.mem_append_left _ h)
theorem tw_2 : ∀ w ∈ tables_1_2, w ∈ lw_tbl := fun w h => List.mem_append_right _ (List.mem_append_right _ (List.mem_append_left _ h))
theorem tw_3 : ∀ w ∈ tables_1_3, w ∈ lw_tbl := fun w h => List.mem_append_right _ (List.mem_append_right _ (List.mem_append_right _ (List.mem_append_left _ h)))
theorem tw_4 : ∀ w ∈ tables_1_4, w ∈ lw_tbl := fun w h => List.mem_append_right _ (List.mem_append_right _ (List.mem_append_right _ (List.mem_append_right _ (List.mem_append_left _ h))))
theorem tw_5 : ∀ w ∈ tables_1_5, w ∈ lw_tbl := fun w h => List.mem_append_right _ (List.mem_append_right _ (List.mem_append_right _ (List.mem_append_right _ (List.mem_append_right _ (List.mem_append_left _ h)))))
theorem tw_6 : ∀ w ∈ tables_1_6, w ∈ lw_tbl := fun w h => List.mem_append_right _ (List.mem_append_right _ (List.mem_append_right _ (List.mem_append_right _ (List.mem_append_right _ (List.mem_append_right _ (List.mem_append_left _ h))))))
theorem tw_7 : ∀ w ∈ tables_1_7, w ∈ lw_tbl := fun w h => List.mem_append_right _ (List.mem_append_right _ (List.mem_append_right _ (List.mem_append_right _ (List.mem_append_right _ (List.mem_append_right _ (List.mem_append_right _ (List.mem_append_left _ h)))))))
theorem tw_8 : ∀ w ∈ tables_1_8, w ∈ lw_tbl := fun w h => List.mem_append_right _ (List.mem_append_right _ (List.mem_append_right _ (List.mem_append_right _ (List.mem_append_right _ (List.mem_append_right _ (List.mem_append_right _ (List.mem_append_right _ (List.mem_append_left _ h))))))))
theorem tw_9 : ∀ w ∈ tables_1_9, w ∈ lw_tbl := fun w h => List.mem_append_right _ (List.mem_append_right _ (List.mem_append_right _ (List.mem_append_right _ (List.mem_append_right _ (List.mem_append_right _ (List.mem_append_right _ (List.mem_append_right _ (List.mem_append_right _ (h)))))))))
theorem cls_1 : zCls 1 RJ6 TJ6 1 tyJ6 := by
  refine ⟨rfl, fun w hw => ?_, tyJ6_ok, nmJ6⟩
  obtain ⟨k, hk, rfl⟩ := List.mem_map.mp hw
  have hk := List.mem_range.mp hk
  match k, hk with
  | 0, _ => exact ⟨tw_7 _ (List.mem_of_getElem? (i := 110) (by decide +kernel)), by decide +kernel⟩
  | k + 1, hk => omega
theorem cls_3 : zCls 3 RJx35411 TJx35411 4 tyJx35411 := by
  refine ⟨rfl, fun w hw => ?_, tyJx35411_ok, nmJx35411⟩
  obtain ⟨k, hk, rfl⟩ := List.mem_map.mp hw
  have hk := List.mem_range.mp hk
  match k, hk with
  | 0, _ => exact ⟨tw_6 _ (List.mem_of_getElem? (i := 141) (by decide +kernel)), by decide +kernel⟩
  | 1, _ => exact ⟨tw_6 _ (List.mem_of_getElem? (i := 143) (by decide +kernel)), by decide +kernel⟩
  | 2, _ => exact ⟨tw_6 _ (List.mem_of_getElem? (i := 145) (by decide +kernel)), by decide +kernel⟩
  | 3, _ => exact ⟨tw_6 _ (List.mem_of_getElem? (i := 147) (by decide +kernel)), by decide +kernel⟩
  | k + 4, hk => omega
theorem cls_4 : zCls 4 RJx4a65c TJx4a65c 3 tyJx4a65c := by
  refine ⟨rfl, fun w hw => ?_, tyJx4a65c_ok, nmJx4a65c⟩
  obtain ⟨k, hk, rfl⟩ := List.mem_map.mp hw
  have hk := List.mem_range.mp hk
  match k, hk with
  | 0, _ => exact ⟨tw_1 _ (List.mem_of_getElem? (i := 85) (by decide +kernel)), by decide +kernel⟩
  | 1, _ => exact ⟨tw_1 _ (List.mem_of_getElem? (i := 81) (by decide +kernel)), by decide +kernel⟩
  | 2, _ => exact ⟨tw_1 _ (List.mem_of_getElem? (i := 83) (by decide +kernel)), by decide +kernel⟩
  | k + 3, hk => omega
theorem cls_5 : zCls 5 RX0 TX0 9 tyX0 := by
  refine ⟨rfl, fun w hw => ?_, tyX0_ok, nmX0⟩
  obtain ⟨k, hk, rfl⟩ := List.mem_map.mp hw
  have hk := List.mem_range.mp hk
  match k, hk with
  | 0, _ => exact ⟨tw_3 _ (List.mem_of_getElem? (i := 213) (by decide +kernel)), by decide +kernel⟩
  | 1, _ => exact ⟨tw_3 _ (List.mem_of_getElem? (i := 215) (by decide +kernel)), by decide +kernel⟩
  | 2, _ => exact ⟨tw_3 _ (List.mem_of_getElem? (i := 217) (by decide +kernel)), by decide +kernel⟩
  | 3, _ => exact ⟨tw_3 _ (List.mem_of_getElem? (i := 219) (by decide +kernel)), by decide +kernel⟩
  | 4, _ => exact ⟨tw_3 _ (List.mem_of_getElem? (i := 221) (by decide +kernel)), by decide +kernel⟩
  | 5, _ => exact ⟨tw_3 _ (List.mem_of_getElem? (i := 223) (by decide +kernel)), by decide +kernel⟩
  | 6, _ => exact ⟨tw_3 _ (List.mem_of_getElem? (i := 225) (by decide +kernel)), by decide +kernel⟩
  | 7, _ => exact ⟨tw_3 _ (List.mem_of_getElem? (i := 227) (by decide +kernel)), by decide +kernel⟩
  | 8, _ => exact ⟨tw_3 _ (List.mem_of_getElem? (i := 229) (by decide +kernel)), by decide +kernel⟩
  | k + 9, hk => omega
theorem cls_6 : zCls 6 RX1 TX1 2 tyX1 := by
  refine ⟨rfl, fun w hw => ?_, tyX1_ok, nmX1⟩
  obtain ⟨k, hk, rfl⟩ := List.mem_map.mp hw
  have hk := List.mem_range.mp hk
  match k, hk with
  | 0, _ => exact ⟨tw_1 _ (List.mem_of_getElem? (i := 108) (by decide +kernel)), by decide +kernel⟩
  | 1, _ => exact ⟨tw_1 _ (List.mem_of_getElem? (i := 110) (by decide +kernel)), by decide +kernel⟩
  | k + 2, hk => omega
theorem cls_7 : zCls 7 RX2 TX2 9 tyX2 := by
  refine ⟨rfl, fun w hw => ?_, tyX2_ok, nmX2⟩
  obtain ⟨k, hk, rfl⟩ := List.mem_map.mp hw
  have hk := List.mem_range.mp hk
  match k, hk with
  | 0, _ => exact ⟨tw_1 _ (List.mem_of_getElem? (i := 201) (by decide +kernel)), by decide +kernel⟩
  | 1, _ => exact ⟨tw_1 _ (List.mem_of_getElem? (i := 203) (by decide +kernel)), by decide +kernel⟩
  | 2, _ => exact ⟨tw_1 _ (List.mem_of_getElem? (i := 205) (by decide +kernel)), by decide +kernel⟩
  | 3, _ => exact ⟨tw_1 _ (List.mem_of_getElem? (i := 207) (by decide +kernel)), by decide +kernel⟩
  | 4, _ => exact ⟨tw_1 _ (List.mem_of_getElem? (i := 209) (by decide +kernel)), by decide +kernel⟩
  | 5, _ => exact ⟨tw_1 _ (List.mem_of_getElem? (i := 211) (by decide +kernel)), by decide +kernel⟩
  | 6, _ => exact ⟨tw_1 _ (List.mem_of_getElem? (i := 213) (by decide +kernel)), by decide +kernel⟩
  | 7, _ => exact ⟨tw_1 _ (List.mem_of_getElem? (i := 215) (by decide +kernel)), by decide +kernel⟩
  | 8, _ => exact ⟨tw_1 _ (List.mem_of_getElem? (i := 217) (by decide +kernel)), by decide +kernel⟩
  | k + 9, hk => omega
theorem cls_8 : zCls 8 RX3 TX3 2 tyX3 := by
  refine ⟨rfl, fun w hw => ?_, tyX3_ok, nmX3⟩
  obtain ⟨k, hk, rfl⟩ := List.mem_map.mp hw
  have hk := List.mem_range.mp hk
  match k, hk with
  | 0, _ => exact ⟨tw_1 _ (List.mem_of_getElem? (i := 230) (by decide +kernel)), by decide +kernel⟩
  | 1, _ => exact ⟨tw_1 _ (List.mem_of_getElem? (i := 232) (by decide +kernel)), by decide +kernel⟩
  | k + 2, hk => omega
theorem cls_9 : zCls 9 RX4 TX4 2 tyX4 := by
  refine ⟨rfl, fun w hw => ?_, tyX4_ok, nmX4⟩
  obtain ⟨k, hk, rfl⟩ := List.mem_map.mp hw
  have hk := List.mem_range.mp hk
  match k, hk with
  | 0, _ => exact ⟨tw_1 _ (List.mem_of_getElem? (i := 173) (by decide +kernel)), by decide +kernel⟩
  | 1, _ => exact ⟨tw_1 _ (List.mem_of_getElem? (i := 175) (by decide +kernel)), by decide +kernel⟩
  | k + 2, hk => omega
theorem cls_10 : zCls 10 RX5 TX5 6 tyX5 := by
  refine ⟨rfl, fun w hw => ?_, tyX5_ok, nmX5⟩
  obtain ⟨k, hk, rfl⟩ := List.mem_map.mp hw
  have hk := List.mem_range.mp hk
  match k, hk with
  | 0, _ => exact ⟨tw_1 _ (List.mem_of_getElem? (i := 130) (by decide +kernel)), by decide +kernel⟩
  | 1, _ => exact ⟨tw_1 _ (List.mem_of_getElem? (i := 132) (by decide +kernel)), by decide +kernel⟩
  | 2, _ => exact ⟨tw_1 _ (List.mem_of_getElem? (i := 134) (by decide +kernel)), by decide +kernel⟩
  | 3, _ => exact ⟨tw_1 _ (List.mem_of_getElem? (i := 136) (by decide +kernel)), by decide +kernel⟩
  | 4, _ => exact ⟨tw_1 _ (List.mem_of_getElem? (i := 138) (by decide +kernel)), by decide +kernel⟩
  | 5, _ => exact ⟨tw_1 _ (List.mem_of_getElem? (i := 140) (by decide +kernel)), by decide +kernel⟩
  | k + 6, hk => omega
theorem cls_11 : zCls 11 RX6 TX6 8 tyX6 := by
  refine ⟨rfl, fun w hw => ?_, tyX6_ok, nmX6⟩
  obtain ⟨k, hk, rfl⟩ := List.mem_map.mp hw
  have hk := List.mem_range.mp hk
  match k, hk with
  | 0, _ => exact ⟨tw_3 _ (List.mem_of_getElem? (i := 27) (by decide +kernel)), by decide +kernel⟩
  | 1, _ => exact ⟨tw_3 _ (List.mem_of_getElem? (i := 29) (by decide +kernel)), by decide +kernel⟩
  | 2, _ => exact ⟨tw_3 _ (List.mem_of_getElem? (i := 31) (by decide +kernel)), by decide +kernel⟩
  | 3, _ => exact ⟨tw_3 _ (List.mem_of_getElem? (i := 33) (by decide +kernel)), by decide +kernel⟩
  | 4, _ => exact ⟨tw_3 _ (List.mem_of_getElem? (i := 35) (by decide +kernel)), by decide +kernel⟩
  | 5, _ => exact ⟨tw_3 _ (List.mem_of_getElem? (i := 37) (by decide +kernel)), by decide +kernel⟩
  | 6, _ => exact ⟨tw_3 _ (List.mem_of_getElem? (i := 39) (by decide +kernel)), by decide +kernel⟩
  | 7, _ => exact ⟨tw_3 _ (List.mem_of_getElem? (i := 41) (by decide +kernel)), by decide +kernel⟩
  | k + 8, hk => omega
theorem cls_12 : zCls 12 RX7 TX7 2 tyX7 := by
  refine ⟨rfl, fun w hw => ?_, tyX7_ok, nmX7⟩
  obtain ⟨k, hk, rfl⟩ := List.mem_map.mp hw
  have hk := List.mem_range.mp hk
  match k, hk with
  | 0, _ => exact ⟨tw_1 _ (List.mem_of_getElem? (i := 93) (by decide +kernel)), by decide +kernel⟩
  | 1, _ => exact ⟨tw_1 _ (List.mem_of_getElem? (i := 95) (by decide +kernel)), by decide +kernel⟩
  | k + 2, hk => omega
theorem cls_13 : zCls 13 RX8 TX8 9 tyX8 := by
  refine ⟨rfl, fun w hw => ?_, tyX8_ok, nmX8⟩
  obtain ⟨k, hk, rfl⟩ := List.mem_map.mp hw
  have hk := List.mem_range.mp hk
  match k, hk with
  | 0, _ => exact ⟨tw_4 _ (List.mem_of_getElem? (i := 137) (by decide +kernel)), by decide +kernel⟩
  | 1, _ => exact ⟨tw_4 _ (List.mem_of_getElem? (i := 139) (by decide +kernel)), by decide +kernel⟩
  | 2, _ => exact ⟨tw_4 _ (List.mem_of_getElem? (i := 141) (by decide +kernel)), by decide +kernel⟩
  | 3, _ => exact ⟨tw_4 _ (List.mem_of_getElem? (i := 143) (by decide +kernel)), by decide +kernel⟩
  | 4, _ => exact ⟨tw_4 _ (List.mem_of_getElem? (i := 145) (by decide +kernel)), by decide +kernel⟩
  | 5, _ => exact ⟨tw_4 _ (List.mem_of_getElem? (i := 147) (by decide +kernel)), by decide +kernel⟩
  | 6, _ => exact ⟨tw_4 _ (List.mem_of_getElem? (i := 149) (by decide +kernel)), by decide +kernel⟩
  | 7, _ => exact ⟨tw_4 _ (List.mem_of_getElem? (i := 151) (by decide +kernel)), by decide +kernel⟩
  | 8, _ => exact ⟨tw_4 _ (List.mem_of_getElem? (i := 153) (by decide +kernel)), by decide +kernel⟩
  | k + 9, hk => omega
theorem cls_14 : zCls 14 RX9 TX9 4 tyX9 := by
  refine ⟨rfl, fun w hw => ?_, tyX9_ok, nmX9⟩
  obtain ⟨k, hk, rfl⟩ := List.mem_map.mp hw
  have hk := List.mem_range.mp hk
  match k, hk with
  | 0, _ => exact ⟨tw_5 _ (List.mem_of_getElem? (i := 7) (by decide +kernel)), by decide +kernel⟩
  | 1, _ => exact ⟨tw_5 _ (List.mem_of_getElem? (i := 9) (by decide +kernel)), by decide +kernel⟩
  | 2, _ => exact ⟨tw_5 _ (List.mem_of_getElem? (i := 11) (by decide +kernel)), by decide +kernel⟩
  | 3, _ => exact ⟨tw_5 _ (List.mem_of_getElem? (i := 13) (by decide +kernel)), by decide +kernel⟩
  | k + 4, hk => omega
theorem cls_15 : zCls 15 RX10 TX10 3 tyX10 := by
  refine ⟨rfl, fun w hw => ?_, tyX10_ok, nmX10⟩
  obtain ⟨k, hk, rfl⟩ := List.mem_map.mp hw
  have hk := List.mem_range.mp hk
  match k, hk with
  | 0, _ => exact ⟨tw_1 _ (List.mem_of_getElem? (i := 155) (by decide +kernel)), by decide +kernel⟩
  | 1, _ => exact ⟨tw_1 _ (List.mem_of_getElem? (i := 157) (by decide +kernel)), by decide +kernel⟩
  | 2, _ => exact ⟨tw_1 _ (List.mem_of_getElem? (i := 159) (by decide +kernel)), by decide +kernel⟩
  | k + 3, hk => omega
theorem cls_16 : zCls 16 RX11 TX11 7 tyX11 := by
  refine ⟨rfl, fun w hw => ?_, tyX11_ok, nmX11⟩
  obtain ⟨k, hk, rfl⟩ := List.mem_map.mp hw
  have hk := List.mem_range.mp hk
  match k, hk with
  | 0, _ => exact ⟨tw_2 _ (List.mem_of_getElem? (i := 2) (by decide +kernel)), by decide +kernel⟩
  | 1, _ => exact ⟨tw_2 _ (List.mem_of_getElem? (i := 4) (by decide +kernel)), by decide +kernel⟩
  | 2, _ => exact ⟨tw_2 _ (List.mem_of_getElem? (i := 6) (by decide +kernel)), by decide +kernel⟩
  | 3, _ => exact ⟨tw_2 _ (List.mem_of_getElem? (i := 8) (by decide +kernel)), by decide +kernel⟩
  | 4, _ => exact ⟨tw_2 _ (List.mem_of_getElem? (i := 10) (by decide +kernel)), by decide +kernel⟩
  | 5, _ => exact ⟨tw_2 _ (List.mem_of_getElem? (i := 12) (by decide +kernel)), by decide +kernel⟩
  | 6, _ => exact ⟨tw_2 _ (List.mem_of_getElem? (i := 14) (by decide +kernel)), by decide +kernel⟩
  | k + 7, hk => omega
theorem cls_17 : zCls 17 RX12 TX12 8 tyX12 := by
  refine ⟨rfl, fun w hw => ?_, tyX12_ok, nmX12⟩
  obtain ⟨k, hk, rfl⟩ := List.mem_map.mp hw
  have hk := List.mem_range.mp hk
  match k, hk with
  | 0, _ => exact ⟨tw_7 _ (List.mem_of_getElem? (i := 27) (by decide +kernel)), by decide +kernel⟩
  | 1, _ => exact ⟨tw_7 _ (List.mem_of_getElem? (i := 29) (by decide +kernel)), by decide +kernel⟩
  | 2, _ => exact ⟨tw_7 _ (List.mem_of_getElem? (i := 31) (by decide +kernel)), by decide +kernel⟩
  | 3, _ => exact ⟨tw_7 _ (List.mem_of_getElem? (i := 33) (by decide +kernel)), by decide +kernel⟩
  | 4, _ => exact ⟨tw_7 _ (List.mem_of_getElem? (i := 35) (by decide +kernel)), by decide +kernel⟩
  | 5, _ => exact ⟨tw_7 _ (List.mem_of_getElem? (i := 37) (by decide +kernel)), by decide +kernel⟩
  | 6, _ => exact ⟨tw_7 _ (List.mem_of_getElem? (i := 39) (by decide +kernel)), by decide +kernel⟩
  | 7, _ => exact ⟨tw_7 _ (List.mem_of_getElem? (i := 41) (by decide +kernel)), by decide +kernel⟩
  | k + 8, hk => omega
theorem cls_18 : zCls 18 RX13 TX13 5 tyX13 := by
  refine ⟨rfl, fun w hw => ?_, tyX13_ok, nmX13⟩
  obtain ⟨k, hk, rfl⟩ := List.mem_map.mp hw
  have hk := List.mem_range.mp hk
  match k, hk with
  | 0, _ => exact ⟨tw_6 _ (List.mem_of_getElem? (i := 208) (by decide +kernel)), by decide +kernel⟩
  | 1, _ => exact ⟨tw_6 _ (List.mem_of_getElem? (i := 210) (by decide +kernel)), by decide +kernel⟩
  | 2, _ => exact ⟨tw_6 _ (List.mem_of_getElem? (i := 212) (by decide +kernel)), by decide +kernel⟩
  | 3, _ => exact ⟨tw_6 _ (List.mem_of_getElem? (i := 214) (by decide +kernel)), by decide +kernel⟩
  | 4, _ => exact ⟨tw_6 _ (List.mem_of_getElem? (i := 216) (by decide +kernel)), by decide +kernel⟩
  | k + 5, hk => omega
theorem cls_19 : zCls 19 RX14 TX14 8 tyX14 := by
  refine ⟨rfl, fun w hw => ?_, tyX14_ok, nmX14⟩
  obtain ⟨k, hk, rfl⟩ := List.mem_map.mp hw
  have hk := List.mem_range.mp hk
  match k, hk with
  | 0, _ => exact ⟨tw_7 _ (List.mem_of_getElem? (i := 151) (by decide +kernel)), by decide +kernel⟩
  | 1, _ => exact ⟨tw_7 _ (List.mem_of_getElem? (i := 153) (by decide +kernel)), by decide +kernel⟩
  | 2, _ => exact ⟨tw_7 _ (List.mem_of_getElem? (i := 155) (by decide +kernel)), by decide +kernel⟩
  | 3, _ => exact ⟨tw_7 _ (List.mem_of_getElem? (i := 157) (by decide +kernel)), by decide +kernel⟩
  | 4, _ => exact ⟨tw_7 _ (List.mem_of_getElem? (i := 159) (by decide +kernel)), by decide +kernel⟩
  | 5, _ => exact ⟨tw_7 _ (List.mem_of_getElem? (i := 161) (by decide +kernel)), by decide +kernel⟩
  | 6, _ => exact ⟨tw_7 _ (List.mem_of_getElem? (i := 163) (by decide +kernel)), by decide +kernel⟩
  | 7, _ => exact ⟨tw_7 _ (List.mem_of_getElem? (i := 165) (by decide +kernel)), by decide +kernel⟩
  | k + 8, hk => omega
theorem cls_20 : zCls 20 RX15 TX15 4 tyX15 := by
  refine ⟨rfl, fun w hw => ?_, tyX15_ok, nmX15⟩
  obtain ⟨k, hk, rfl⟩ := List.mem_map.mp hw
  have hk := List.mem_range.mp hk
  match k, hk with
  | 0, _ => exact ⟨tw_8 _ (List.mem_of_getElem? (i := 4) (by decide +kernel)), by decide +kernel⟩
  | 1, _ => exact ⟨tw_8 _ (List.mem_of_getElem? (i := 6) (by decide +kernel)), by decide +kernel⟩
  | 2, _ => exact ⟨tw_8 _ (List.mem_of_getElem? (i := 8) (by decide +kernel)), by decide +kernel⟩
  | 3, _ => exact ⟨tw_8 _ (List.mem_of_getElem? (i := 10) (by decide +kernel)), by decide +kernel⟩
  | k + 4, hk => omega
theorem cls_21 : zCls 21 RX16 TX16 18 tyX16 := by
  refine ⟨rfl, fun w hw => ?_, tyX16_ok, nmX16⟩
  obtain ⟨k, hk, rfl⟩ := List.mem_map.mp hw
  have hk := List.mem_range.mp hk
  match k, hk with
  | 0, _ => exact ⟨tw_6 _ (List.mem_of_getElem? (i := 81) (by decide +kernel)), by decide +kernel⟩
  | 1, _ => exact ⟨tw_6 _ (List.mem_of_getElem? (i := 83) (by decide +kernel)), by decide +kernel⟩
  | 2, _ => exact ⟨tw_6 _ (List.mem_of_getElem? (i := 85) (by decide +kernel)), by decide +kernel⟩
  | 3, _ => exact ⟨tw_6 _ (List.mem_of_getElem? (i := 87) (by decide +kernel)), by decide +kernel⟩
  | 4, _ => exact ⟨tw_6 _ (List.mem_of_getElem? (i := 89) (by decide +kernel)), by decide +kernel⟩
  | 5, _ => exact ⟨tw_6 _ (List.mem_of_getElem? (i := 91) (by decide +kernel)), by decide +kernel⟩
  | 6, _ => exact ⟨tw_6 _ (List.mem_of_getElem? (i := 93) (by decide +kernel)), by decide +kernel⟩
  | 7, _ => exact ⟨tw_6 _ (List.mem_of_getElem? (i := 95) (by decide +kernel)), by decide +kernel⟩
  | 8, _ => exact ⟨tw_6 _ (List.mem_of_getElem? (i := 97) (by decide +kernel)), by decide +kernel⟩
  | 9, _ => exact ⟨tw_6 _ (List.mem_of_getElem? (i := 99) (by decide +kernel)), by decide +kernel⟩
  | 10, _ => exact ⟨tw_6 _ (List.mem_of_getElem? (i := 101) (by decide +kernel)), by decide +kernel⟩
  | 11, _ => exact ⟨tw_6 _ (List.mem_of_getElem? (i := 103) (by decide +kernel)), by decide +kernel⟩
  | 12, _ => exact ⟨tw_6 _ (List.mem_of_getElem? (i := 105) (by decide +kernel)), by decide +kernel⟩
  | 13, _ => exact ⟨tw_6 _ (List.mem_of_getElem? (i := 107) (by decide +kernel)), by decide +kernel⟩
  | 14, _ => exact ⟨tw_6 _ (List.mem_of_getElem? (i := 109) (by decide +kernel)), by decide +kernel⟩
  | 15, _ => exact ⟨tw_6 _ (List.mem_of_getElem? (i := 111) (by decide +kernel)), by decide +kernel⟩
  | 16, _ => exact ⟨tw_6 _ (List.mem_of_getElem? (i := 113) (by decide +kernel)), by decide +kernel⟩
  | 17, _ => exact ⟨tw_6 _ (List.mem_of_getElem? (i := 115) (by decide +kernel)), by decide +kernel⟩
  | k + 18, hk => omega
