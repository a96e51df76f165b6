/-! THE CLASSES AND THE METHODS -/
theorem uX0_in : ∀ w ∈ u_ws RX0 TX0 5, w ∈ lw_tbl ∧ goodWord w = true := by decide +kernel
theorem cX0_ok : c_OK 0 "WreckSky$Foresight" TX0 5 := ⟨by decide, rfl, fun w hw => List.mem_filter.mpr (uX0_in w hw), tyX0_ok, nmX0, by decide +kernel⟩
theorem dX0_ok : ∀ j, j < 5 → defaultValue (ty_ 0 j) = if fr_ 0 j then .null else .int 0 := by decide +kernel
theorem uX1_in : ∀ w ∈ u_ws RX1 TX1 10, w ∈ lw_tbl ∧ goodWord w = true := by decide +kernel
theorem cX1_ok : c_OK 1 "WreckSky$Reader" TX1 10 := ⟨by decide, rfl, fun w hw => List.mem_filter.mpr (uX1_in w hw), tyX1_ok, nmX1, by decide +kernel⟩
theorem dX1_ok : ∀ j, j < 10 → defaultValue (ty_ 1 j) = if fr_ 1 j then .null else .int 0 := by decide +kernel
theorem uX2_in : ∀ w ∈ u_ws RX2 TX2 3, w ∈ lw_tbl ∧ goodWord w = true := by decide +kernel
theorem cX2_ok : c_OK 2 "WreckSky$Sheet" TX2 3 := ⟨by decide, rfl, fun w hw => List.mem_filter.mpr (uX2_in w hw), tyX2_ok, nmX2, by decide +kernel⟩
theorem dX2_ok : ∀ j, j < 3 → defaultValue (ty_ 2 j) = if fr_ 2 j then .null else .int 0 := by decide +kernel
theorem uX3_in : ∀ w ∈ u_ws RX3 TX3 11, w ∈ lw_tbl ∧ goodWord w = true := by decide +kernel
theorem cX3_ok : c_OK 3 "WreckSky$Sky" TX3 11 := ⟨by decide, rfl, fun w hw => List.mem_filter.mpr (uX3_in w hw), tyX3_ok, nmX3, by decide +kernel⟩
theorem dX3_ok : ∀ j, j < 11 → defaultValue (ty_ 3 j) = if fr_ 3 j then .null else .int 0 := by decide +kernel
theorem uX4_in : ∀ w ∈ u_ws RX4 TX4 4, w ∈ lw_tbl ∧ goodWord w = true := by decide +kernel
theorem cX4_ok : c_OK 4 "WreckSky$Slot" TX4 4 := ⟨by decide, rfl, fun w hw => List.mem_filter.mpr (uX4_in w hw), tyX4_ok, nmX4, by decide +kernel⟩
theorem dX4_ok : ∀ j, j < 4 → defaultValue (ty_ 4 j) = if fr_ 4 j then .null else .int 0 := by decide +kernel
theorem uX5_in : ∀ w ∈ u_ws RX5 TX5 2, w ∈ lw_tbl ∧ goodWord w = true := by decide +kernel
theorem cX5_ok : c_OK 5 "WreckSky$Tape" TX5 2 := ⟨by decide, rfl, fun w hw => List.mem_filter.mpr (uX5_in w hw), tyX5_ok, nmX5, by decide +kernel⟩
theorem dX5_ok : ∀ j, j < 2 → defaultValue (ty_ 5 j) = if fr_ 5 j then .null else .int 0 := by decide +kernel
theorem uX6_in : ∀ w ∈ u_ws RX6 TX6 3, w ∈ lw_tbl ∧ goodWord w = true := by decide +kernel
theorem cX6_ok : c_OK 6 "WreckSky$Text" TX6 3 := ⟨by decide, rfl, fun w hw => List.mem_filter.mpr (uX6_in w hw), tyX6_ok, nmX6, by decide +kernel⟩
theorem dX6_ok : ∀ j, j < 3 → defaultValue (ty_ 6 j) = if fr_ 6 j then .null else .int 0 := by decide +kernel
theorem uX7_in : ∀ w ∈ u_ws RX7 TX7 6, w ∈ lw_tbl ∧ goodWord w = true := by decide +kernel
theorem cX7_ok : c_OK 7 "WreckSky$Wreck" TX7 6 := ⟨by decide, rfl, fun w hw => List.mem_filter.mpr (uX7_in w hw), tyX7_ok, nmX7, by decide +kernel⟩
theorem dX7_ok : ∀ j, j < 6 → defaultValue (ty_ 7 j) = if fr_ 7 j then .null else .int 0 := by decide +kernel
theorem uX8_in : ∀ w ∈ u_ws RX8 TX8 10, w ∈ lw_tbl ∧ goodWord w = true := by decide +kernel
theorem cX8_ok : c_OK 8 "WreckSky" TX8 10 := ⟨by decide, rfl, fun w hw => List.mem_filter.mpr (uX8_in w hw), tyX8_ok, nmX8, by decide +kernel⟩
theorem dX8_ok : ∀ j, j < 10 → defaultValue (ty_ 8 j) = if fr_ 8 j then .null else .int 0 := by decide +kernel
theorem uX9_in : ∀ w ∈ u_ws RX9 TX9 36, w ∈ lw_tbl ∧ goodWord w = true := by decide +kernel
theorem cX9_ok : c_OK 9 "WreckSkyModel" TX9 36 := ⟨by decide, rfl, fun w hw => List.mem_filter.mpr (uX9_in w hw), tyX9_ok, nmX9, by decide +kernel⟩
theorem dX9_ok : ∀ j, j < 36 → defaultValue (ty_ 9 j) = if fr_ 9 j then .null else .int 0 := by decide +kernel
theorem c_W_init : Cond.code ⟨"WreckSky", "<init>", "()V"⟩ prog_1_method_1_code 2 (Option.none : Option Jvm.ClassFile.FieldType) ∈ gtb := gtb_at 79 (by decide +kernel) (by decide +kernel)
theorem m_W_init : c_M ⟨"WreckSky", "<init>", "()V"⟩ prog_1_method_1_code 2 (Option.none : Option Jvm.ClassFile.FieldType) 0 := ⟨c_W_init, w_56, ⟨by decide +kernel, by decide +kernel, by decide +kernel⟩, by decide, plainFor_of_name (by decide +kernel)⟩
theorem c_M_init : Cond.code ⟨"WreckSkyModel", "<init>", "()V"⟩ prog_11_method_1_code 1 (Option.none : Option Jvm.ClassFile.FieldType) ∈ gtb := gtb_at 989 (by decide +kernel) (by decide +kernel)
theorem m_M_init : c_M ⟨"WreckSkyModel", "<init>", "()V"⟩ prog_11_method_1_code 1 (Option.none : Option Jvm.ClassFile.FieldType) 0 := ⟨c_M_init, w_64, ⟨by decide +kernel, by decide +kernel, by decide +kernel⟩, by decide, plainFor_of_name (by decide +kernel)⟩
theorem c_W_wreck : Cond.code ⟨"WreckSky", "wreck", "(IIIII)I"⟩ prog_1_method_2_code 6 (Option.some Jvm.ClassFile.FieldType.int) ∈ gtb := gtb_at 347 (by decide +kernel) (by decide +kernel)
theorem m_W_wreck : c_M ⟨"WreckSky", "wreck", "(IIIII)I"⟩ prog_1_method_2_code 6 (Option.some Jvm.ClassFile.FieldType.int) 5 := ⟨c_W_wreck, w_56, ⟨by decide +kernel, by decide +kernel, by decide +kernel⟩, by decide, plainFor_of_name (by decide +kernel)⟩
theorem c_M_wreck : Cond.code ⟨"WreckSkyModel", "wreck", "(IIIII)I"⟩ prog_11_method_13_code 6 (Option.some Jvm.ClassFile.FieldType.int) ∈ gtb := gtb_at 1105 (by decide +kernel) (by decide +kernel)
theorem m_M_wreck : c_M ⟨"WreckSkyModel", "wreck", "(IIIII)I"⟩ prog_11_method_13_code 6 (Option.some Jvm.ClassFile.FieldType.int) 5 := ⟨c_M_wreck, w_64, ⟨by decide +kernel, by decide +kernel, by decide +kernel⟩, by decide, plainFor_of_name (by decide +kernel)⟩
theorem c_W_told : Cond.code ⟨"WreckSky", "told", "(II)I"⟩ prog_1_method_3_code 4 (Option.some Jvm.ClassFile.FieldType.int) ∈ gtb := gtb_at 366 (by decide +kernel) (by decide +kernel)
theorem m_W_told : c_M ⟨"WreckSky", "told", "(II)I"⟩ prog_1_method_3_code 4 (Option.some Jvm.ClassFile.FieldType.int) 2 := ⟨c_W_told, w_56, ⟨by decide +kernel, by decide +kernel, by decide +kernel⟩, by decide, plainFor_of_name (by decide +kernel)⟩
theorem c_M_told : Cond.code ⟨"WreckSkyModel", "told", "(II)I"⟩ prog_11_method_17_code 3 (Option.some Jvm.ClassFile.FieldType.int) ∈ gtb := gtb_at 1125 (by decide +kernel) (by decide +kernel)
theorem m_M_told : c_M ⟨"WreckSkyModel", "told", "(II)I"⟩ prog_11_method_17_code 3 (Option.some Jvm.ClassFile.FieldType.int) 2 := ⟨c_M_told, w_64, ⟨by decide +kernel, by decide +kernel, by decide +kernel⟩, by decide, plainFor_of_name (by decide +kernel)⟩
theorem c_W_as : Cond.code ⟨"WreckSky", "as", "(II)I"⟩ prog_1_method_4_code 4 (Option.some Jvm.ClassFile.FieldType.int) ∈ gtb := gtb_at 415 (by decide +kernel) (by decide +kernel)
theorem m_W_as : c_M ⟨"WreckSky", "as", "(II)I"⟩ prog_1_method_4_code 4 (Option.some Jvm.ClassFile.FieldType.int) 2 := ⟨c_W_as, w_56, ⟨by decide +kernel, by decide +kernel, by decide +kernel⟩, by decide, plainFor_of_name (by decide +kernel)⟩
theorem c_M_as : Cond.code ⟨"WreckSkyModel", "as", "(II)I"⟩ prog_11_method_19_code 3 (Option.some Jvm.ClassFile.FieldType.int) ∈ gtb := gtb_at 1163 (by decide +kernel) (by decide +kernel)
theorem m_M_as : c_M ⟨"WreckSkyModel", "as", "(II)I"⟩ prog_11_method_19_code 3 (Option.some Jvm.ClassFile.FieldType.int) 2 := ⟨c_M_as, w_64, ⟨by decide +kernel, by decide +kernel, by decide +kernel⟩, by decide, plainFor_of_name (by decide +kernel)⟩
theorem c_W_turns : Cond.code ⟨"WreckSky", "turns", "(II)I"⟩ prog_1_method_5_code 5 (Option.some Jvm.ClassFile.FieldType.int) ∈ gtb := gtb_at 426 (by decide +kernel) (by decide +kernel)
theorem m_W_turns : c_M ⟨"WreckSky", "turns", "(II)I"⟩ prog_1_method_5_code 5 (Option.some Jvm.ClassFile.FieldType.int) 2 := ⟨c_W_turns, w_56, ⟨by decide +kernel, by decide +kernel, by decide +kernel⟩, by decide, plainFor_of_name (by decide +kernel)⟩
theorem c_M_turns : Cond.code ⟨"WreckSkyModel", "turns", "(II)I"⟩ prog_11_method_20_code 3 (Option.some Jvm.ClassFile.FieldType.int) ∈ gtb := gtb_at 1171 (by decide +kernel) (by decide +kernel)
theorem m_M_turns : c_M ⟨"WreckSkyModel", "turns", "(II)I"⟩ prog_11_method_20_code 3 (Option.some Jvm.ClassFile.FieldType.int) 2 := ⟨c_M_turns, w_64, ⟨by decide +kernel, by decide +kernel, by decide +kernel⟩, by decide, plainFor_of_name (by decide +kernel)⟩
theorem c_W_set : Cond.code ⟨"WreckSky", "set", "(III)I"⟩ prog_1_method_6_code 6 (Option.some Jvm.ClassFile.FieldType.int) ∈ gtb := gtb_at 430 (by decide +kernel) (by decide +kernel)
theorem m_W_set : c_M ⟨"WreckSky", "set", "(III)I"⟩ prog_1_method_6_code 6 (Option.some Jvm.ClassFile.FieldType.int) 3 := ⟨c_W_set, w_56, ⟨by decide +kernel, by decide +kernel, by decide +kernel⟩, by decide, plainFor_of_name (by decide +kernel)⟩
theorem c_M_set : Cond.code ⟨"WreckSkyModel", "set", "(III)I"⟩ prog_11_method_21_code 4 (Option.some Jvm.ClassFile.FieldType.int) ∈ gtb := gtb_at 1179 (by decide +kernel) (by decide +kernel)
theorem m_M_set : c_M ⟨"WreckSkyModel", "set", "(III)I"⟩ prog_11_method_21_code 4 (Option.some Jvm.ClassFile.FieldType.int) 3 := ⟨c_M_set, w_64, ⟨by decide +kernel, by decide +kernel, by decide +kernel⟩, by decide, plainFor_of_name (by decide +kernel)⟩
theorem c_W_sweep : Cond.code ⟨"WreckSky", "sweep", "(I)I"⟩ prog_1_method_7_code 3 (Option.some Jvm.ClassFile.FieldType.int) ∈ gtb := gtb_at 438 (by decide +kernel) (by decide +kernel)
theorem m_W_sweep : c_M ⟨"WreckSky", "sweep", "(I)I"⟩ prog_1_method_7_code 3 (Option.some Jvm.ClassFile.FieldType.int) 1 := ⟨c_W_sweep, w_56, ⟨by decide +kernel, by decide +kernel, by decide +kernel⟩, by decide, plainFor_of_name (by decide +kernel)⟩
theorem c_M_sweep : Cond.code ⟨"WreckSkyModel", "sweep", "(I)I"⟩ prog_11_method_22_code 2 (Option.some Jvm.ClassFile.FieldType.int) ∈ gtb := gtb_at 1183 (by decide +kernel) (by decide +kernel)
theorem m_M_sweep : c_M ⟨"WreckSkyModel", "sweep", "(I)I"⟩ prog_11_method_22_code 2 (Option.some Jvm.ClassFile.FieldType.int) 1 := ⟨c_M_sweep, w_64, ⟨by decide +kernel, by decide +kernel, by decide +kernel⟩, by decide, plainFor_of_name (by decide +kernel)⟩
theorem c_W_drag : Cond.code ⟨"WreckSky", "drag", "(I)I"⟩ prog_1_method_8_code 3 (Option.some Jvm.ClassFile.FieldType.int) ∈ gtb := gtb_at 443 (by decide +kernel) (by decide +kernel)
theorem m_W_drag : c_M ⟨"WreckSky", "drag", "(I)I"⟩ prog_1_method_8_code 3 (Option.some Jvm.ClassFile.FieldType.int) 1 := ⟨c_W_drag, w_56, ⟨by decide +kernel, by decide +kernel, by decide +kernel⟩, by decide, plainFor_of_name (by decide +kernel)⟩
theorem c_M_drag : Cond.code ⟨"WreckSkyModel", "drag", "(I)I"⟩ prog_11_method_23_code 2 (Option.some Jvm.ClassFile.FieldType.int) ∈ gtb := gtb_at 1192 (by decide +kernel) (by decide +kernel)
theorem m_M_drag : c_M ⟨"WreckSkyModel", "drag", "(I)I"⟩ prog_11_method_23_code 2 (Option.some Jvm.ClassFile.FieldType.int) 1 := ⟨c_M_drag, w_64, ⟨by decide +kernel, by decide +kernel, by decide +kernel⟩, by decide, plainFor_of_name (by decide +kernel)⟩
theorem c_W_at : Cond.code ⟨"WreckSky", "at", "(II)I"⟩ prog_1_method_9_code 6 (Option.some Jvm.ClassFile.FieldType.int) ∈ gtb := gtb_at 447 (by decide +kernel) (by decide +kernel)
theorem m_W_at : c_M ⟨"WreckSky", "at", "(II)I"⟩ prog_1_method_9_code 6 (Option.some Jvm.ClassFile.FieldType.int) 2 := ⟨c_W_at, w_56, ⟨by decide +kernel, by decide +kernel, by decide +kernel⟩, by decide, plainFor_of_name (by decide +kernel)⟩
theorem c_M_at : Cond.code ⟨"WreckSkyModel", "at", "(II)I"⟩ prog_11_method_25_code 3 (Option.some Jvm.ClassFile.FieldType.int) ∈ gtb := gtb_at 1196 (by decide +kernel) (by decide +kernel)
theorem m_M_at : c_M ⟨"WreckSkyModel", "at", "(II)I"⟩ prog_11_method_25_code 3 (Option.some Jvm.ClassFile.FieldType.int) 2 := ⟨c_M_at, w_64, ⟨by decide +kernel, by decide +kernel, by decide +kernel⟩, by decide, plainFor_of_name (by decide +kernel)⟩
theorem c_W_deal : Cond.code ⟨"WreckSky", "deal", "(I)I"⟩ prog_1_method_10_code 4 (Option.some Jvm.ClassFile.FieldType.int) ∈ gtb := gtb_at 451 (by decide +kernel) (by decide +kernel)
theorem m_W_deal : c_M ⟨"WreckSky", "deal", "(I)I"⟩ prog_1_method_10_code 4 (Option.some Jvm.ClassFile.FieldType.int) 1 := ⟨c_W_deal, w_56, ⟨by decide +kernel, by decide +kernel, by decide +kernel⟩, by decide, plainFor_of_name (by decide +kernel)⟩
theorem c_M_deal : Cond.code ⟨"WreckSkyModel", "deal", "(I)I"⟩ prog_11_method_27_code 8 (Option.some Jvm.ClassFile.FieldType.int) ∈ gtb := gtb_at 1204 (by decide +kernel) (by decide +kernel)
theorem m_M_deal : c_M ⟨"WreckSkyModel", "deal", "(I)I"⟩ prog_11_method_27_code 8 (Option.some Jvm.ClassFile.FieldType.int) 1 := ⟨c_M_deal, w_64, ⟨by decide +kernel, by decide +kernel, by decide +kernel⟩, by decide, plainFor_of_name (by decide +kernel)⟩
theorem c_W_seed : Cond.code ⟨"WreckSky", "seed", "(I)I"⟩ prog_1_method_11_code 3 (Option.some Jvm.ClassFile.FieldType.int) ∈ gtb := gtb_at 465 (by decide +kernel) (by decide +kernel)
theorem m_W_seed : c_M ⟨"WreckSky", "seed", "(I)I"⟩ prog_1_method_11_code 3 (Option.some Jvm.ClassFile.FieldType.int) 1 := ⟨c_W_seed, w_56, ⟨by decide +kernel, by decide +kernel, by decide +kernel⟩, by decide, plainFor_of_name (by decide +kernel)⟩
theorem c_M_seed : Cond.code ⟨"WreckSkyModel", "seed", "(I)I"⟩ prog_11_method_28_code 2 (Option.some Jvm.ClassFile.FieldType.int) ∈ gtb := gtb_at 1213 (by decide +kernel) (by decide +kernel)
theorem m_M_seed : c_M ⟨"WreckSkyModel", "seed", "(I)I"⟩ prog_11_method_28_code 2 (Option.some Jvm.ClassFile.FieldType.int) 1 := ⟨c_M_seed, w_64, ⟨by decide +kernel, by decide +kernel, by decide +kernel⟩, by decide, plainFor_of_name (by decide +kernel)⟩
theorem c_W_hours : Cond.code ⟨"WreckSky", "hours", "(I)I"⟩ prog_1_method_12_code 3 (Option.some Jvm.ClassFile.FieldType.int) ∈ gtb := gtb_at 469 (by decide +kernel) (by decide +kernel)
theorem m_W_hours : c_M ⟨"WreckSky", "hours", "(I)I"⟩ prog_1_method_12_code 3 (Option.some Jvm.ClassFile.FieldType.int) 1 := ⟨c_W_hours, w_56, ⟨by decide +kernel, by decide +kernel, by decide +kernel⟩, by decide, plainFor_of_name (by decide +kernel)⟩
theorem c_M_hours : Cond.code ⟨"WreckSkyModel", "hours", "(I)I"⟩ prog_11_method_34_code 3 (Option.some Jvm.ClassFile.FieldType.int) ∈ gtb := gtb_at 1217 (by decide +kernel) (by decide +kernel)
theorem m_M_hours : c_M ⟨"WreckSkyModel", "hours", "(I)I"⟩ prog_11_method_34_code 3 (Option.some Jvm.ClassFile.FieldType.int) 1 := ⟨c_M_hours, w_64, ⟨by decide +kernel, by decide +kernel, by decide +kernel⟩, by decide, plainFor_of_name (by decide +kernel)⟩
theorem c_W_sky : Cond.code ⟨"WreckSky", "sky", "(I)I"⟩ prog_1_method_13_code 2 (Option.some Jvm.ClassFile.FieldType.int) ∈ gtb := gtb_at 499 (by decide +kernel) (by decide +kernel)
theorem m_W_sky : c_M ⟨"WreckSky", "sky", "(I)I"⟩ prog_1_method_13_code 2 (Option.some Jvm.ClassFile.FieldType.int) 1 := ⟨c_W_sky, w_56, ⟨by decide +kernel, by decide +kernel, by decide +kernel⟩, by decide, plainFor_of_name (by decide +kernel)⟩
theorem c_M_sky : Cond.code ⟨"WreckSkyModel", "sky", "(I)I"⟩ prog_11_method_36_code 2 (Option.some Jvm.ClassFile.FieldType.int) ∈ gtb := gtb_at 1244 (by decide +kernel) (by decide +kernel)
theorem m_M_sky : c_M ⟨"WreckSkyModel", "sky", "(I)I"⟩ prog_11_method_36_code 2 (Option.some Jvm.ClassFile.FieldType.int) 1 := ⟨c_M_sky, w_64, ⟨by decide +kernel, by decide +kernel, by decide +kernel⟩, by decide, plainFor_of_name (by decide +kernel)⟩
theorem c_W_behind : Cond.code ⟨"WreckSky", "behind", "(II)I"⟩ prog_1_method_14_code 4 (Option.some Jvm.ClassFile.FieldType.int) ∈ gtb := gtb_at 515 (by decide +kernel) (by decide +kernel)
theorem m_W_behind : c_M ⟨"WreckSky", "behind", "(II)I"⟩ prog_1_method_14_code 4 (Option.some Jvm.ClassFile.FieldType.int) 2 := ⟨c_W_behind, w_56, ⟨by decide +kernel, by decide +kernel, by decide +kernel⟩, by decide, plainFor_of_name (by decide +kernel)⟩
theorem c_M_behind : Cond.code ⟨"WreckSkyModel", "behind", "(II)I"⟩ prog_11_method_39_code 4 (Option.some Jvm.ClassFile.FieldType.int) ∈ gtb := gtb_at 1252 (by decide +kernel) (by decide +kernel)
theorem m_M_behind : c_M ⟨"WreckSkyModel", "behind", "(II)I"⟩ prog_11_method_39_code 4 (Option.some Jvm.ClassFile.FieldType.int) 2 := ⟨c_M_behind, w_64, ⟨by decide +kernel, by decide +kernel, by decide +kernel⟩, by decide, plainFor_of_name (by decide +kernel)⟩
theorem c_W_first : Cond.code ⟨"WreckSky", "first", "()I"⟩ prog_1_method_15_code 1 (Option.some Jvm.ClassFile.FieldType.int) ∈ gtb := gtb_at 538 (by decide +kernel) (by decide +kernel)
theorem m_W_first : c_M ⟨"WreckSky", "first", "()I"⟩ prog_1_method_15_code 1 (Option.some Jvm.ClassFile.FieldType.int) 0 := ⟨c_W_first, w_56, ⟨by decide +kernel, by decide +kernel, by decide +kernel⟩, by decide, plainFor_of_name (by decide +kernel)⟩
theorem c_M_first : Cond.code ⟨"WreckSkyModel", "first", "()I"⟩ prog_11_method_40_code 2 (Option.some Jvm.ClassFile.FieldType.int) ∈ gtb := gtb_at 1264 (by decide +kernel) (by decide +kernel)
theorem m_M_first : c_M ⟨"WreckSkyModel", "first", "()I"⟩ prog_11_method_40_code 2 (Option.some Jvm.ClassFile.FieldType.int) 0 := ⟨c_M_first, w_64, ⟨by decide +kernel, by decide +kernel, by decide +kernel⟩, by decide, plainFor_of_name (by decide +kernel)⟩
theorem c_W_hole : Cond.code ⟨"WreckSky", "hole", "(I)I"⟩ prog_1_method_16_code 2 (Option.some Jvm.ClassFile.FieldType.int) ∈ gtb := gtb_at 546 (by decide +kernel) (by decide +kernel)
theorem m_W_hole : c_M ⟨"WreckSky", "hole", "(I)I"⟩ prog_1_method_16_code 2 (Option.some Jvm.ClassFile.FieldType.int) 1 := ⟨c_W_hole, w_56, ⟨by decide +kernel, by decide +kernel, by decide +kernel⟩, by decide, plainFor_of_name (by decide +kernel)⟩
theorem c_M_hole : Cond.code ⟨"WreckSkyModel", "hole", "(I)I"⟩ prog_11_method_43_code 2 (Option.some Jvm.ClassFile.FieldType.int) ∈ gtb := gtb_at 1269 (by decide +kernel) (by decide +kernel)
theorem m_M_hole : c_M ⟨"WreckSkyModel", "hole", "(I)I"⟩ prog_11_method_43_code 2 (Option.some Jvm.ClassFile.FieldType.int) 1 := ⟨c_M_hole, w_64, ⟨by decide +kernel, by decide +kernel, by decide +kernel⟩, by decide, plainFor_of_name (by decide +kernel)⟩
theorem c_W_open : Cond.code ⟨"WreckSky", "open", "(I)I"⟩ prog_1_method_17_code 4 (Option.some Jvm.ClassFile.FieldType.int) ∈ gtb := gtb_at 566 (by decide +kernel) (by decide +kernel)
theorem m_W_open : c_M ⟨"WreckSky", "open", "(I)I"⟩ prog_1_method_17_code 4 (Option.some Jvm.ClassFile.FieldType.int) 1 := ⟨c_W_open, w_56, ⟨by decide +kernel, by decide +kernel, by decide +kernel⟩, by decide, plainFor_of_name (by decide +kernel)⟩
theorem c_M_open : Cond.code ⟨"WreckSkyModel", "open", "(I)I"⟩ prog_11_method_44_code 4 (Option.some Jvm.ClassFile.FieldType.int) ∈ gtb := gtb_at 1281 (by decide +kernel) (by decide +kernel)
theorem m_M_open : c_M ⟨"WreckSkyModel", "open", "(I)I"⟩ prog_11_method_44_code 4 (Option.some Jvm.ClassFile.FieldType.int) 1 := ⟨c_M_open, w_64, ⟨by decide +kernel, by decide +kernel, by decide +kernel⟩, by decide, plainFor_of_name (by decide +kernel)⟩
theorem c_W_best : Cond.code ⟨"WreckSky", "best", "(II)I"⟩ prog_1_method_18_code 3 (Option.some Jvm.ClassFile.FieldType.int) ∈ gtb := gtb_at 570 (by decide +kernel) (by decide +kernel)
theorem m_W_best : c_M ⟨"WreckSky", "best", "(II)I"⟩ prog_1_method_18_code 3 (Option.some Jvm.ClassFile.FieldType.int) 2 := ⟨c_W_best, w_56, ⟨by decide +kernel, by decide +kernel, by decide +kernel⟩, by decide, plainFor_of_name (by decide +kernel)⟩
theorem c_M_best : Cond.code ⟨"WreckSkyModel", "best", "(II)I"⟩ prog_11_method_46_code 7 (Option.some Jvm.ClassFile.FieldType.int) ∈ gtb := gtb_at 1285 (by decide +kernel) (by decide +kernel)
theorem m_M_best : c_M ⟨"WreckSkyModel", "best", "(II)I"⟩ prog_11_method_46_code 7 (Option.some Jvm.ClassFile.FieldType.int) 2 := ⟨c_M_best, w_64, ⟨by decide +kernel, by decide +kernel, by decide +kernel⟩, by decide, plainFor_of_name (by decide +kernel)⟩
theorem c_W_push : Cond.code ⟨"WreckSky", "push", "(III)I"⟩ prog_1_method_19_code 4 (Option.some Jvm.ClassFile.FieldType.int) ∈ gtb := gtb_at 590 (by decide +kernel) (by decide +kernel)
theorem m_W_push : c_M ⟨"WreckSky", "push", "(III)I"⟩ prog_1_method_19_code 4 (Option.some Jvm.ClassFile.FieldType.int) 3 := ⟨c_W_push, w_56, ⟨by decide +kernel, by decide +kernel, by decide +kernel⟩, by decide, plainFor_of_name (by decide +kernel)⟩
theorem c_M_push : Cond.code ⟨"WreckSkyModel", "push", "(III)I"⟩ prog_11_method_47_code 8 (Option.some Jvm.ClassFile.FieldType.int) ∈ gtb := gtb_at 1293 (by decide +kernel) (by decide +kernel)
theorem m_M_push : c_M ⟨"WreckSkyModel", "push", "(III)I"⟩ prog_11_method_47_code 8 (Option.some Jvm.ClassFile.FieldType.int) 3 := ⟨c_M_push, w_64, ⟨by decide +kernel, by decide +kernel, by decide +kernel⟩, by decide, plainFor_of_name (by decide +kernel)⟩
theorem c_W_under : Cond.code ⟨"WreckSky", "under", "(II)I"⟩ prog_1_method_20_code 3 (Option.some Jvm.ClassFile.FieldType.int) ∈ gtb := gtb_at 598 (by decide +kernel) (by decide +kernel)
theorem m_W_under : c_M ⟨"WreckSky", "under", "(II)I"⟩ prog_1_method_20_code 3 (Option.some Jvm.ClassFile.FieldType.int) 2 := ⟨c_W_under, w_56, ⟨by decide +kernel, by decide +kernel, by decide +kernel⟩, by decide, plainFor_of_name (by decide +kernel)⟩
theorem c_M_under : Cond.code ⟨"WreckSkyModel", "under", "(II)I"⟩ prog_11_method_48_code 6 (Option.some Jvm.ClassFile.FieldType.int) ∈ gtb := gtb_at 1297 (by decide +kernel) (by decide +kernel)
theorem m_M_under : c_M ⟨"WreckSkyModel", "under", "(II)I"⟩ prog_11_method_48_code 6 (Option.some Jvm.ClassFile.FieldType.int) 2 := ⟨c_M_under, w_64, ⟨by decide +kernel, by decide +kernel, by decide +kernel⟩, by decide, plainFor_of_name (by decide +kernel)⟩
theorem c_W_nearest : Cond.code ⟨"WreckSky", "nearest", "(II)I"⟩ prog_1_method_21_code 3 (Option.some Jvm.ClassFile.FieldType.int) ∈ gtb := gtb_at 610 (by decide +kernel) (by decide +kernel)
theorem m_W_nearest : c_M ⟨"WreckSky", "nearest", "(II)I"⟩ prog_1_method_21_code 3 (Option.some Jvm.ClassFile.FieldType.int) 2 := ⟨c_W_nearest, w_56, ⟨by decide +kernel, by decide +kernel, by decide +kernel⟩, by decide, plainFor_of_name (by decide +kernel)⟩
theorem c_M_nearest : Cond.code ⟨"WreckSkyModel", "nearest", "(II)I"⟩ prog_11_method_51_code 5 (Option.some Jvm.ClassFile.FieldType.int) ∈ gtb := gtb_at 1301 (by decide +kernel) (by decide +kernel)
theorem m_M_nearest : c_M ⟨"WreckSkyModel", "nearest", "(II)I"⟩ prog_11_method_51_code 5 (Option.some Jvm.ClassFile.FieldType.int) 2 := ⟨c_M_nearest, w_64, ⟨by decide +kernel, by decide +kernel, by decide +kernel⟩, by decide, plainFor_of_name (by decide +kernel)⟩
theorem c_W_seen : Cond.code ⟨"WreckSky", "seen", "(II)I"⟩ prog_1_method_22_code 3 (Option.some Jvm.ClassFile.FieldType.int) ∈ gtb := gtb_at 629 (by decide +kernel) (by decide +kernel)
theorem m_W_seen : c_M ⟨"WreckSky", "seen", "(II)I"⟩ prog_1_method_22_code 3 (Option.some Jvm.ClassFile.FieldType.int) 2 := ⟨c_W_seen, w_56, ⟨by decide +kernel, by decide +kernel, by decide +kernel⟩, by decide, plainFor_of_name (by decide +kernel)⟩
theorem c_M_seen : Cond.code ⟨"WreckSkyModel", "seen", "(II)I"⟩ prog_11_method_52_code 7 (Option.some Jvm.ClassFile.FieldType.int) ∈ gtb := gtb_at 1312 (by decide +kernel) (by decide +kernel)
theorem m_M_seen : c_M ⟨"WreckSkyModel", "seen", "(II)I"⟩ prog_11_method_52_code 7 (Option.some Jvm.ClassFile.FieldType.int) 2 := ⟨c_M_seen, w_64, ⟨by decide +kernel, by decide +kernel, by decide +kernel⟩, by decide, plainFor_of_name (by decide +kernel)⟩
theorem c_W_fee : Cond.code ⟨"WreckSky", "fee", "()I"⟩ prog_1_method_23_code 2 (Option.some Jvm.ClassFile.FieldType.int) ∈ gtb := gtb_at 656 (by decide +kernel) (by decide +kernel)
theorem m_W_fee : c_M ⟨"WreckSky", "fee", "()I"⟩ prog_1_method_23_code 2 (Option.some Jvm.ClassFile.FieldType.int) 0 := ⟨c_W_fee, w_56, ⟨by decide +kernel, by decide +kernel, by decide +kernel⟩, by decide, plainFor_of_name (by decide +kernel)⟩
theorem c_M_fee : Cond.code ⟨"WreckSkyModel", "fee", "()I"⟩ prog_11_method_53_code 2 (Option.some Jvm.ClassFile.FieldType.int) ∈ gtb := gtb_at 1320 (by decide +kernel) (by decide +kernel)
theorem m_M_fee : c_M ⟨"WreckSkyModel", "fee", "()I"⟩ prog_11_method_53_code 2 (Option.some Jvm.ClassFile.FieldType.int) 0 := ⟨c_M_fee, w_64, ⟨by decide +kernel, by decide +kernel, by decide +kernel⟩, by decide, plainFor_of_name (by decide +kernel)⟩
theorem c_W_fine : Cond.code ⟨"WreckSky", "fine", "(I)I"⟩ prog_1_method_24_code 4 (Option.some Jvm.ClassFile.FieldType.int) ∈ gtb := gtb_at 662 (by decide +kernel) (by decide +kernel)
theorem m_W_fine : c_M ⟨"WreckSky", "fine", "(I)I"⟩ prog_1_method_24_code 4 (Option.some Jvm.ClassFile.FieldType.int) 1 := ⟨c_W_fine, w_56, ⟨by decide +kernel, by decide +kernel, by decide +kernel⟩, by decide, plainFor_of_name (by decide +kernel)⟩
theorem c_M_fine : Cond.code ⟨"WreckSkyModel", "fine", "(I)I"⟩ prog_11_method_54_code 3 (Option.some Jvm.ClassFile.FieldType.int) ∈ gtb := gtb_at 1324 (by decide +kernel) (by decide +kernel)
theorem m_M_fine : c_M ⟨"WreckSkyModel", "fine", "(I)I"⟩ prog_11_method_54_code 3 (Option.some Jvm.ClassFile.FieldType.int) 1 := ⟨c_M_fine, w_64, ⟨by decide +kernel, by decide +kernel, by decide +kernel⟩, by decide, plainFor_of_name (by decide +kernel)⟩
theorem c_W_feed : Cond.code ⟨"WreckSky", "feed", "(III)I"⟩ prog_1_method_25_code 4 (Option.some Jvm.ClassFile.FieldType.int) ∈ gtb := gtb_at 666 (by decide +kernel) (by decide +kernel)
theorem m_W_feed : c_M ⟨"WreckSky", "feed", "(III)I"⟩ prog_1_method_25_code 4 (Option.some Jvm.ClassFile.FieldType.int) 3 := ⟨c_W_feed, w_56, ⟨by decide +kernel, by decide +kernel, by decide +kernel⟩, by decide, plainFor_of_name (by decide +kernel)⟩
theorem c_M_feed : Cond.code ⟨"WreckSkyModel", "feed", "(III)I"⟩ prog_11_method_55_code 6 (Option.some Jvm.ClassFile.FieldType.int) ∈ gtb := gtb_at 1328 (by decide +kernel) (by decide +kernel)
theorem m_M_feed : c_M ⟨"WreckSkyModel", "feed", "(III)I"⟩ prog_11_method_55_code 6 (Option.some Jvm.ClassFile.FieldType.int) 3 := ⟨c_M_feed, w_64, ⟨by decide +kernel, by decide +kernel, by decide +kernel⟩, by decide, plainFor_of_name (by decide +kernel)⟩
theorem c_W_trim : Cond.code ⟨"WreckSky", "trim", "(I)I"⟩ prog_1_method_26_code 2 (Option.some Jvm.ClassFile.FieldType.int) ∈ gtb := gtb_at 678 (by decide +kernel) (by decide +kernel)
theorem m_W_trim : c_M ⟨"WreckSky", "trim", "(I)I"⟩ prog_1_method_26_code 2 (Option.some Jvm.ClassFile.FieldType.int) 1 := ⟨c_W_trim, w_56, ⟨by decide +kernel, by decide +kernel, by decide +kernel⟩, by decide, plainFor_of_name (by decide +kernel)⟩
theorem c_M_trim : Cond.code ⟨"WreckSkyModel", "trim", "(I)I"⟩ prog_11_method_56_code 2 (Option.some Jvm.ClassFile.FieldType.int) ∈ gtb := gtb_at 1332 (by decide +kernel) (by decide +kernel)
theorem m_M_trim : c_M ⟨"WreckSkyModel", "trim", "(I)I"⟩ prog_11_method_56_code 2 (Option.some Jvm.ClassFile.FieldType.int) 1 := ⟨c_M_trim, w_64, ⟨by decide +kernel, by decide +kernel, by decide +kernel⟩, by decide, plainFor_of_name (by decide +kernel)⟩
theorem c_W_text : Cond.code ⟨"WreckSky", "text", "()I"⟩ prog_1_method_27_code 2 (Option.some Jvm.ClassFile.FieldType.int) ∈ gtb := gtb_at 682 (by decide +kernel) (by decide +kernel)
theorem m_W_text : c_M ⟨"WreckSky", "text", "()I"⟩ prog_1_method_27_code 2 (Option.some Jvm.ClassFile.FieldType.int) 0 := ⟨c_W_text, w_56, ⟨by decide +kernel, by decide +kernel, by decide +kernel⟩, by decide, plainFor_of_name (by decide +kernel)⟩
theorem c_M_text : Cond.code ⟨"WreckSkyModel", "text", "()I"⟩ prog_11_method_68_code 4 (Option.some Jvm.ClassFile.FieldType.int) ∈ gtb := gtb_at 1336 (by decide +kernel) (by decide +kernel)
theorem m_M_text : c_M ⟨"WreckSkyModel", "text", "()I"⟩ prog_11_method_68_code 4 (Option.some Jvm.ClassFile.FieldType.int) 0 := ⟨c_M_text, w_64, ⟨by decide +kernel, by decide +kernel, by decide +kernel⟩, by decide, plainFor_of_name (by decide +kernel)⟩
theorem c_W_textTold : Cond.code ⟨"WreckSky", "textTold", "(II)I"⟩ prog_1_method_28_code 3 (Option.some Jvm.ClassFile.FieldType.int) ∈ gtb := gtb_at 884 (by decide +kernel) (by decide +kernel)
theorem m_W_textTold : c_M ⟨"WreckSky", "textTold", "(II)I"⟩ prog_1_method_28_code 3 (Option.some Jvm.ClassFile.FieldType.int) 2 := ⟨c_W_textTold, w_56, ⟨by decide +kernel, by decide +kernel, by decide +kernel⟩, by decide, plainFor_of_name (by decide +kernel)⟩
theorem c_M_textTold : Cond.code ⟨"WreckSkyModel", "textTold", "(II)I"⟩ prog_11_method_69_code 3 (Option.some Jvm.ClassFile.FieldType.int) ∈ gtb := gtb_at 1383 (by decide +kernel) (by decide +kernel)
theorem m_M_textTold : c_M ⟨"WreckSkyModel", "textTold", "(II)I"⟩ prog_11_method_69_code 3 (Option.some Jvm.ClassFile.FieldType.int) 2 := ⟨c_M_textTold, w_64, ⟨by decide +kernel, by decide +kernel, by decide +kernel⟩, by decide, plainFor_of_name (by decide +kernel)⟩
theorem c_W_why : Cond.code ⟨"WreckSky", "why", "(I)I"⟩ prog_1_method_29_code 3 (Option.some Jvm.ClassFile.FieldType.int) ∈ gtb := gtb_at 888 (by decide +kernel) (by decide +kernel)
theorem m_W_why : c_M ⟨"WreckSky", "why", "(I)I"⟩ prog_1_method_29_code 3 (Option.some Jvm.ClassFile.FieldType.int) 1 := ⟨c_W_why, w_56, ⟨by decide +kernel, by decide +kernel, by decide +kernel⟩, by decide, plainFor_of_name (by decide +kernel)⟩
theorem c_M_why : Cond.code ⟨"WreckSkyModel", "why", "(I)I"⟩ prog_11_method_71_code 3 (Option.some Jvm.ClassFile.FieldType.int) ∈ gtb := gtb_at 1387 (by decide +kernel) (by decide +kernel)
theorem m_M_why : c_M ⟨"WreckSkyModel", "why", "(I)I"⟩ prog_11_method_71_code 3 (Option.some Jvm.ClassFile.FieldType.int) 1 := ⟨c_M_why, w_64, ⟨by decide +kernel, by decide +kernel, by decide +kernel⟩, by decide, plainFor_of_name (by decide +kernel)⟩
theorem c_W_sheet : Cond.code ⟨"WreckSky", "sheet", "(III)I"⟩ prog_1_method_30_code 5 (Option.some Jvm.ClassFile.FieldType.int) ∈ gtb := gtb_at 893 (by decide +kernel) (by decide +kernel)
theorem m_W_sheet : c_M ⟨"WreckSky", "sheet", "(III)I"⟩ prog_1_method_30_code 5 (Option.some Jvm.ClassFile.FieldType.int) 3 := ⟨c_W_sheet, w_56, ⟨by decide +kernel, by decide +kernel, by decide +kernel⟩, by decide, plainFor_of_name (by decide +kernel)⟩
theorem c_M_sheet : Cond.code ⟨"WreckSkyModel", "sheet", "(III)I"⟩ prog_11_method_76_code 5 (Option.some Jvm.ClassFile.FieldType.int) ∈ gtb := gtb_at 1391 (by decide +kernel) (by decide +kernel)
theorem m_M_sheet : c_M ⟨"WreckSkyModel", "sheet", "(III)I"⟩ prog_11_method_76_code 5 (Option.some Jvm.ClassFile.FieldType.int) 3 := ⟨c_M_sheet, w_64, ⟨by decide +kernel, by decide +kernel, by decide +kernel⟩, by decide, plainFor_of_name (by decide +kernel)⟩
theorem c_W_mark : Cond.code ⟨"WreckSky", "mark", "(III)I"⟩ prog_1_method_31_code 5 (Option.some Jvm.ClassFile.FieldType.int) ∈ gtb := gtb_at 903 (by decide +kernel) (by decide +kernel)
theorem m_W_mark : c_M ⟨"WreckSky", "mark", "(III)I"⟩ prog_1_method_31_code 5 (Option.some Jvm.ClassFile.FieldType.int) 3 := ⟨c_W_mark, w_56, ⟨by decide +kernel, by decide +kernel, by decide +kernel⟩, by decide, plainFor_of_name (by decide +kernel)⟩
theorem c_M_mark : Cond.code ⟨"WreckSkyModel", "mark", "(III)I"⟩ prog_11_method_77_code 4 (Option.some Jvm.ClassFile.FieldType.int) ∈ gtb := gtb_at 1396 (by decide +kernel) (by decide +kernel)
theorem m_M_mark : c_M ⟨"WreckSkyModel", "mark", "(III)I"⟩ prog_11_method_77_code 4 (Option.some Jvm.ClassFile.FieldType.int) 3 := ⟨c_M_mark, w_64, ⟨by decide +kernel, by decide +kernel, by decide +kernel⟩, by decide, plainFor_of_name (by decide +kernel)⟩
theorem c_W_pour : Cond.code ⟨"WreckSky", "pour", "(I)I"⟩ prog_1_method_32_code 6 (Option.some Jvm.ClassFile.FieldType.int) ∈ gtb := gtb_at 911 (by decide +kernel) (by decide +kernel)
theorem m_W_pour : c_M ⟨"WreckSky", "pour", "(I)I"⟩ prog_1_method_32_code 6 (Option.some Jvm.ClassFile.FieldType.int) 1 := ⟨c_W_pour, w_56, ⟨by decide +kernel, by decide +kernel, by decide +kernel⟩, by decide, plainFor_of_name (by decide +kernel)⟩
theorem c_M_pour : Cond.code ⟨"WreckSkyModel", "pour", "(I)I"⟩ prog_11_method_78_code 6 (Option.some Jvm.ClassFile.FieldType.int) ∈ gtb := gtb_at 1403 (by decide +kernel) (by decide +kernel)
theorem m_M_pour : c_M ⟨"WreckSkyModel", "pour", "(I)I"⟩ prog_11_method_78_code 6 (Option.some Jvm.ClassFile.FieldType.int) 1 := ⟨c_M_pour, w_64, ⟨by decide +kernel, by decide +kernel, by decide +kernel⟩, by decide, plainFor_of_name (by decide +kernel)⟩
theorem c_W_reads : Cond.code ⟨"WreckSky", "reads", "(I)I"⟩ prog_1_method_33_code 4 (Option.some Jvm.ClassFile.FieldType.int) ∈ gtb := gtb_at 917 (by decide +kernel) (by decide +kernel)
theorem m_W_reads : c_M ⟨"WreckSky", "reads", "(I)I"⟩ prog_1_method_33_code 4 (Option.some Jvm.ClassFile.FieldType.int) 1 := ⟨c_W_reads, w_56, ⟨by decide +kernel, by decide +kernel, by decide +kernel⟩, by decide, plainFor_of_name (by decide +kernel)⟩
theorem c_M_reads : Cond.code ⟨"WreckSkyModel", "reads", "(I)I"⟩ prog_11_method_79_code 4 (Option.some Jvm.ClassFile.FieldType.int) ∈ gtb := gtb_at 1407 (by decide +kernel) (by decide +kernel)
theorem m_M_reads : c_M ⟨"WreckSkyModel", "reads", "(I)I"⟩ prog_11_method_79_code 4 (Option.some Jvm.ClassFile.FieldType.int) 1 := ⟨c_M_reads, w_64, ⟨by decide +kernel, by decide +kernel, by decide +kernel⟩, by decide, plainFor_of_name (by decide +kernel)⟩
theorem c_W_copy : Cond.code ⟨"WreckSky", "copy", "(IIIII)I"⟩ prog_1_method_34_code 8 (Option.some Jvm.ClassFile.FieldType.int) ∈ gtb := gtb_at 921 (by decide +kernel) (by decide +kernel)
theorem m_W_copy : c_M ⟨"WreckSky", "copy", "(IIIII)I"⟩ prog_1_method_34_code 8 (Option.some Jvm.ClassFile.FieldType.int) 5 := ⟨c_W_copy, w_56, ⟨by decide +kernel, by decide +kernel, by decide +kernel⟩, by decide, plainFor_of_name (by decide +kernel)⟩
theorem c_M_copy : Cond.code ⟨"WreckSkyModel", "copy", "(IIIII)I"⟩ prog_11_method_80_code 7 (Option.some Jvm.ClassFile.FieldType.int) ∈ gtb := gtb_at 1411 (by decide +kernel) (by decide +kernel)
theorem m_M_copy : c_M ⟨"WreckSkyModel", "copy", "(IIIII)I"⟩ prog_11_method_80_code 7 (Option.some Jvm.ClassFile.FieldType.int) 5 := ⟨c_M_copy, w_64, ⟨by decide +kernel, by decide +kernel, by decide +kernel⟩, by decide, plainFor_of_name (by decide +kernel)⟩
theorem c_W_lay : Cond.code ⟨"WreckSky", "lay", "(III)I"⟩ prog_1_method_35_code 6 (Option.some Jvm.ClassFile.FieldType.int) ∈ gtb := gtb_at 930 (by decide +kernel) (by decide +kernel)
theorem m_W_lay : c_M ⟨"WreckSky", "lay", "(III)I"⟩ prog_1_method_35_code 6 (Option.some Jvm.ClassFile.FieldType.int) 3 := ⟨c_W_lay, w_56, ⟨by decide +kernel, by decide +kernel, by decide +kernel⟩, by decide, plainFor_of_name (by decide +kernel)⟩
theorem c_M_lay : Cond.code ⟨"WreckSkyModel", "lay", "(III)I"⟩ prog_11_method_81_code 6 (Option.some Jvm.ClassFile.FieldType.int) ∈ gtb := gtb_at 1415 (by decide +kernel) (by decide +kernel)
theorem m_M_lay : c_M ⟨"WreckSkyModel", "lay", "(III)I"⟩ prog_11_method_81_code 6 (Option.some Jvm.ClassFile.FieldType.int) 3 := ⟨c_M_lay, w_64, ⟨by decide +kernel, by decide +kernel, by decide +kernel⟩, by decide, plainFor_of_name (by decide +kernel)⟩
theorem c_W_ask : Cond.code ⟨"WreckSky", "ask", "(II)I"⟩ prog_1_method_36_code 5 (Option.some Jvm.ClassFile.FieldType.int) ∈ gtb := gtb_at 943 (by decide +kernel) (by decide +kernel)
theorem m_W_ask : c_M ⟨"WreckSky", "ask", "(II)I"⟩ prog_1_method_36_code 5 (Option.some Jvm.ClassFile.FieldType.int) 2 := ⟨c_W_ask, w_56, ⟨by decide +kernel, by decide +kernel, by decide +kernel⟩, by decide, plainFor_of_name (by decide +kernel)⟩
theorem c_M_ask : Cond.code ⟨"WreckSkyModel", "ask", "(II)I"⟩ prog_11_method_82_code 3 (Option.some Jvm.ClassFile.FieldType.int) ∈ gtb := gtb_at 1422 (by decide +kernel) (by decide +kernel)
theorem m_M_ask : c_M ⟨"WreckSkyModel", "ask", "(II)I"⟩ prog_11_method_82_code 3 (Option.some Jvm.ClassFile.FieldType.int) 2 := ⟨c_M_ask, w_64, ⟨by decide +kernel, by decide +kernel, by decide +kernel⟩, by decide, plainFor_of_name (by decide +kernel)⟩
theorem c_W_item : Cond.code ⟨"WreckSky", "item", "(II)I"⟩ prog_1_method_37_code 5 (Option.some Jvm.ClassFile.FieldType.int) ∈ gtb := gtb_at 951 (by decide +kernel) (by decide +kernel)
theorem m_W_item : c_M ⟨"WreckSky", "item", "(II)I"⟩ prog_1_method_37_code 5 (Option.some Jvm.ClassFile.FieldType.int) 2 := ⟨c_W_item, w_56, ⟨by decide +kernel, by decide +kernel, by decide +kernel⟩, by decide, plainFor_of_name (by decide +kernel)⟩
theorem c_M_item : Cond.code ⟨"WreckSkyModel", "item", "(II)I"⟩ prog_11_method_83_code 4 (Option.some Jvm.ClassFile.FieldType.int) ∈ gtb := gtb_at 1426 (by decide +kernel) (by decide +kernel)
theorem m_M_item : c_M ⟨"WreckSkyModel", "item", "(II)I"⟩ prog_11_method_83_code 4 (Option.some Jvm.ClassFile.FieldType.int) 2 := ⟨c_M_item, w_64, ⟨by decide +kernel, by decide +kernel, by decide +kernel⟩, by decide, plainFor_of_name (by decide +kernel)⟩
theorem c_W_rest : Cond.code ⟨"WreckSky", "rest", "(II)I"⟩ prog_1_method_38_code 4 (Option.some Jvm.ClassFile.FieldType.int) ∈ gtb := gtb_at 955 (by decide +kernel) (by decide +kernel)
theorem m_W_rest : c_M ⟨"WreckSky", "rest", "(II)I"⟩ prog_1_method_38_code 4 (Option.some Jvm.ClassFile.FieldType.int) 2 := ⟨c_W_rest, w_56, ⟨by decide +kernel, by decide +kernel, by decide +kernel⟩, by decide, plainFor_of_name (by decide +kernel)⟩
theorem c_M_rest : Cond.code ⟨"WreckSkyModel", "rest", "(II)I"⟩ prog_11_method_84_code 3 (Option.some Jvm.ClassFile.FieldType.int) ∈ gtb := gtb_at 1430 (by decide +kernel) (by decide +kernel)
theorem m_M_rest : c_M ⟨"WreckSkyModel", "rest", "(II)I"⟩ prog_11_method_84_code 3 (Option.some Jvm.ClassFile.FieldType.int) 2 := ⟨c_M_rest, w_64, ⟨by decide +kernel, by decide +kernel, by decide +kernel⟩, by decide, plainFor_of_name (by decide +kernel)⟩
theorem c_W_tell : Cond.code ⟨"WreckSky", "tell", "(I)I"⟩ prog_1_method_39_code 2 (Option.some Jvm.ClassFile.FieldType.int) ∈ gtb := gtb_at 959 (by decide +kernel) (by decide +kernel)
theorem m_W_tell : c_M ⟨"WreckSky", "tell", "(I)I"⟩ prog_1_method_39_code 2 (Option.some Jvm.ClassFile.FieldType.int) 1 := ⟨c_W_tell, w_56, ⟨by decide +kernel, by decide +kernel, by decide +kernel⟩, by decide, plainFor_of_name (by decide +kernel)⟩
theorem c_M_tell : Cond.code ⟨"WreckSkyModel", "tell", "(I)I"⟩ prog_11_method_85_code 2 (Option.some Jvm.ClassFile.FieldType.int) ∈ gtb := gtb_at 1434 (by decide +kernel) (by decide +kernel)
theorem m_M_tell : c_M ⟨"WreckSkyModel", "tell", "(I)I"⟩ prog_11_method_85_code 2 (Option.some Jvm.ClassFile.FieldType.int) 1 := ⟨c_M_tell, w_64, ⟨by decide +kernel, by decide +kernel, by decide +kernel⟩, by decide, plainFor_of_name (by decide +kernel)⟩
theorem c_W_check : Cond.code ⟨"WreckSky", "check", "(I)I"⟩ prog_1_method_40_code 5 (Option.some Jvm.ClassFile.FieldType.int) ∈ gtb := gtb_at 963 (by decide +kernel) (by decide +kernel)
theorem m_W_check : c_M ⟨"WreckSky", "check", "(I)I"⟩ prog_1_method_40_code 5 (Option.some Jvm.ClassFile.FieldType.int) 1 := ⟨c_W_check, w_56, ⟨by decide +kernel, by decide +kernel, by decide +kernel⟩, by decide, plainFor_of_name (by decide +kernel)⟩
theorem c_M_check : Cond.code ⟨"WreckSkyModel", "check", "(I)I"⟩ prog_11_method_86_code 6 (Option.some Jvm.ClassFile.FieldType.int) ∈ gtb := gtb_at 1438 (by decide +kernel) (by decide +kernel)
theorem m_M_check : c_M ⟨"WreckSkyModel", "check", "(I)I"⟩ prog_11_method_86_code 6 (Option.some Jvm.ClassFile.FieldType.int) 1 := ⟨c_M_check, w_64, ⟨by decide +kernel, by decide +kernel, by decide +kernel⟩, by decide, plainFor_of_name (by decide +kernel)⟩
theorem c_W_keep : Cond.code ⟨"WreckSky", "keep", "()I"⟩ prog_1_method_41_code 1 (Option.some Jvm.ClassFile.FieldType.int) ∈ gtb := gtb_at 975 (by decide +kernel) (by decide +kernel)
theorem m_W_keep : c_M ⟨"WreckSky", "keep", "()I"⟩ prog_1_method_41_code 1 (Option.some Jvm.ClassFile.FieldType.int) 0 := ⟨c_W_keep, w_56, ⟨by decide +kernel, by decide +kernel, by decide +kernel⟩, by decide, plainFor_of_name (by decide +kernel)⟩
theorem c_M_keep : Cond.code ⟨"WreckSkyModel", "keep", "()I"⟩ prog_11_method_87_code 1 (Option.some Jvm.ClassFile.FieldType.int) ∈ gtb := gtb_at 1445 (by decide +kernel) (by decide +kernel)
theorem m_M_keep : c_M ⟨"WreckSkyModel", "keep", "()I"⟩ prog_11_method_87_code 1 (Option.some Jvm.ClassFile.FieldType.int) 0 := ⟨c_M_keep, w_64, ⟨by decide +kernel, by decide +kernel, by decide +kernel⟩, by decide, plainFor_of_name (by decide +kernel)⟩
theorem c_W_back : Cond.code ⟨"WreckSky", "back", "()I"⟩ prog_1_method_42_code 1 (Option.some Jvm.ClassFile.FieldType.int) ∈ gtb := gtb_at 980 (by decide +kernel) (by decide +kernel)
theorem m_W_back : c_M ⟨"WreckSky", "back", "()I"⟩ prog_1_method_42_code 1 (Option.some Jvm.ClassFile.FieldType.int) 0 := ⟨c_W_back, w_56, ⟨by decide +kernel, by decide +kernel, by decide +kernel⟩, by decide, plainFor_of_name (by decide +kernel)⟩
theorem c_M_back : Cond.code ⟨"WreckSkyModel", "back", "()I"⟩ prog_11_method_88_code 1 (Option.some Jvm.ClassFile.FieldType.int) ∈ gtb := gtb_at 1449 (by decide +kernel) (by decide +kernel)
theorem m_M_back : c_M ⟨"WreckSkyModel", "back", "()I"⟩ prog_11_method_88_code 1 (Option.some Jvm.ClassFile.FieldType.int) 0 := ⟨c_M_back, w_64, ⟨by decide +kernel, by decide +kernel, by decide +kernel⟩, by decide, plainFor_of_name (by decide +kernel)⟩
theorem c_W_count : Cond.code ⟨"WreckSky", "count", "(I)I"⟩ prog_1_method_43_code 2 (Option.some Jvm.ClassFile.FieldType.int) ∈ gtb := gtb_at 984 (by decide +kernel) (by decide +kernel)
theorem m_W_count : c_M ⟨"WreckSky", "count", "(I)I"⟩ prog_1_method_43_code 2 (Option.some Jvm.ClassFile.FieldType.int) 1 := ⟨c_W_count, w_56, ⟨by decide +kernel, by decide +kernel, by decide +kernel⟩, by decide, plainFor_of_name (by decide +kernel)⟩
theorem c_M_count : Cond.code ⟨"WreckSkyModel", "count", "(I)I"⟩ prog_11_method_89_code 2 (Option.some Jvm.ClassFile.FieldType.int) ∈ gtb := gtb_at 1453 (by decide +kernel) (by decide +kernel)
theorem m_M_count : c_M ⟨"WreckSkyModel", "count", "(I)I"⟩ prog_11_method_89_code 2 (Option.some Jvm.ClassFile.FieldType.int) 1 := ⟨c_M_count, w_64, ⟨by decide +kernel, by decide +kernel, by decide +kernel⟩, by decide, plainFor_of_name (by decide +kernel)⟩
theorem c_S_init : Cond.code ⟨"WreckSky$Sky", "<init>", "()V"⟩ prog_5_method_1_code 2 (Option.none : Option Jvm.ClassFile.FieldType) ∈ gtb := gtb_at 87 (by decide +kernel) (by decide +kernel)
theorem m_S_init : c_M ⟨"WreckSky$Sky", "<init>", "()V"⟩ prog_5_method_1_code 2 (Option.none : Option Jvm.ClassFile.FieldType) 0 := ⟨c_S_init, w_57, ⟨by decide +kernel, by decide +kernel, by decide +kernel⟩, by decide, plainFor_of_name (by decide +kernel)⟩
theorem c_F_init : Cond.code ⟨"WreckSky$Foresight", "<init>", "()V"⟩ prog_2_method_1_code 1 (Option.none : Option Jvm.ClassFile.FieldType) ∈ gtb := gtb_at 186 (by decide +kernel) (by decide +kernel)
theorem m_F_init : c_M ⟨"WreckSky$Foresight", "<init>", "()V"⟩ prog_2_method_1_code 1 (Option.none : Option Jvm.ClassFile.FieldType) 0 := ⟨c_F_init, w_59, ⟨by decide +kernel, by decide +kernel, by decide +kernel⟩, by decide, plainFor_of_name (by decide +kernel)⟩
theorem c_T_init : Cond.code ⟨"WreckSky$Tape", "<init>", "()V"⟩ prog_7_method_1_code 1 (Option.none : Option Jvm.ClassFile.FieldType) ∈ gtb := gtb_at 211 (by decide +kernel) (by decide +kernel)
theorem m_T_init : c_M ⟨"WreckSky$Tape", "<init>", "()V"⟩ prog_7_method_1_code 1 (Option.none : Option Jvm.ClassFile.FieldType) 0 := ⟨c_T_init, w_60, ⟨by decide +kernel, by decide +kernel, by decide +kernel⟩, by decide, plainFor_of_name (by decide +kernel)⟩
theorem c_R_init : Cond.code ⟨"WreckSky$Reader", "<init>", "(LWreckSky$Tape;)V"⟩ prog_3_method_1_code 2 (Option.none : Option Jvm.ClassFile.FieldType) ∈ gtb := gtb_at 227 (by decide +kernel) (by decide +kernel)
theorem m_R_init : c_M ⟨"WreckSky$Reader", "<init>", "(LWreckSky$Tape;)V"⟩ prog_3_method_1_code 2 (Option.none : Option Jvm.ClassFile.FieldType) 1 := ⟨c_R_init, w_61, ⟨by decide +kernel, by decide +kernel, by decide +kernel⟩, by decide, plainFor_of_name (by decide +kernel)⟩
theorem c_H_init : Cond.code ⟨"WreckSky$Sheet", "<init>", "()V"⟩ prog_4_method_1_code 1 (Option.none : Option Jvm.ClassFile.FieldType) ∈ gtb := gtb_at 270 (by decide +kernel) (by decide +kernel)
theorem m_H_init : c_M ⟨"WreckSky$Sheet", "<init>", "()V"⟩ prog_4_method_1_code 1 (Option.none : Option Jvm.ClassFile.FieldType) 0 := ⟨c_H_init, w_62, ⟨by decide +kernel, by decide +kernel, by decide +kernel⟩, by decide, plainFor_of_name (by decide +kernel)⟩
theorem c_O_init : Cond.code ⟨"WreckSky$Slot", "<init>", "()V"⟩ prog_6_method_1_code 1 (Option.none : Option Jvm.ClassFile.FieldType) ∈ gtb := gtb_at 290 (by decide +kernel) (by decide +kernel)
theorem m_O_init : c_M ⟨"WreckSky$Slot", "<init>", "()V"⟩ prog_6_method_1_code 1 (Option.none : Option Jvm.ClassFile.FieldType) 0 := ⟨c_O_init, w_63, ⟨by decide +kernel, by decide +kernel, by decide +kernel⟩, by decide, plainFor_of_name (by decide +kernel)⟩
theorem c_W_isKind : Cond.code ⟨"WreckSky", "isKind", "(I)Z"⟩ prog_1_method_47_code 1 (Option.some Jvm.ClassFile.FieldType.boolean) ∈ gtb := gtb_at 350 (by decide +kernel) (by decide +kernel)
theorem m_W_isKind : c_M ⟨"WreckSky", "isKind", "(I)Z"⟩ prog_1_method_47_code 1 (Option.some Jvm.ClassFile.FieldType.boolean) 1 := ⟨c_W_isKind, w_56, ⟨by decide +kernel, by decide +kernel, by decide +kernel⟩, by decide, plainFor_of_name (by decide +kernel)⟩
theorem c_W_within : Cond.code ⟨"WreckSky", "within", "(III)Z"⟩ prog_1_method_44_code 3 (Option.some Jvm.ClassFile.FieldType.boolean) ∈ gtb := gtb_at 353 (by decide +kernel) (by decide +kernel)
theorem m_W_within : c_M ⟨"WreckSky", "within", "(III)Z"⟩ prog_1_method_44_code 3 (Option.some Jvm.ClassFile.FieldType.boolean) 3 := ⟨c_W_within, w_56, ⟨by decide +kernel, by decide +kernel, by decide +kernel⟩, by decide, plainFor_of_name (by decide +kernel)⟩
theorem c_W_isPlace : Cond.code ⟨"WreckSky", "isPlace", "(I)Z"⟩ prog_1_method_48_code 1 (Option.some Jvm.ClassFile.FieldType.boolean) ∈ gtb := gtb_at 356 (by decide +kernel) (by decide +kernel)
theorem m_W_isPlace : c_M ⟨"WreckSky", "isPlace", "(I)Z"⟩ prog_1_method_48_code 1 (Option.some Jvm.ClassFile.FieldType.boolean) 1 := ⟨c_W_isPlace, w_56, ⟨by decide +kernel, by decide +kernel, by decide +kernel⟩, by decide, plainFor_of_name (by decide +kernel)⟩
theorem c_S_addWreck : Cond.code ⟨"WreckSky$Sky", "addWreck", "(IIIII)Z"⟩ prog_5_method_4_code 7 (Option.some Jvm.ClassFile.FieldType.boolean) ∈ gtb := gtb_at 361 (by decide +kernel) (by decide +kernel)
theorem m_S_addWreck : c_M ⟨"WreckSky$Sky", "addWreck", "(IIIII)Z"⟩ prog_5_method_4_code 7 (Option.some Jvm.ClassFile.FieldType.boolean) 5 := ⟨c_S_addWreck, w_57, ⟨by decide +kernel, by decide +kernel, by decide +kernel⟩, by decide, plainFor_of_name (by decide +kernel)⟩
theorem c_M_in : Cond.code ⟨"WreckSkyModel", "in", "(III)Z"⟩ prog_11_method_2_code 3 (Option.some Jvm.ClassFile.FieldType.boolean) ∈ gtb := gtb_at 1108 (by decide +kernel) (by decide +kernel)
theorem m_M_in : c_M ⟨"WreckSkyModel", "in", "(III)Z"⟩ prog_11_method_2_code 3 (Option.some Jvm.ClassFile.FieldType.boolean) 3 := ⟨c_M_in, w_64, ⟨by decide +kernel, by decide +kernel, by decide +kernel⟩, by decide, plainFor_of_name (by decide +kernel)⟩
theorem c_M_isOf : Cond.code ⟨"WreckSkyModel", "isOf", "(II)Z"⟩ prog_11_method_12_code 2 (Option.some Jvm.ClassFile.FieldType.boolean) ∈ gtb := gtb_at 1111 (by decide +kernel) (by decide +kernel)
theorem m_M_isOf : c_M ⟨"WreckSkyModel", "isOf", "(II)Z"⟩ prog_11_method_12_code 2 (Option.some Jvm.ClassFile.FieldType.boolean) 2 := ⟨c_M_isOf, w_64, ⟨by decide +kernel, by decide +kernel, by decide +kernel⟩, by decide, plainFor_of_name (by decide +kernel)⟩
theorem c_M_comes : Cond.code ⟨"WreckSkyModel", "comes", "(IIIII)I"⟩ prog_11_method_11_code 7 (Option.some Jvm.ClassFile.FieldType.int) ∈ gtb := gtb_at 1117 (by decide +kernel) (by decide +kernel)
theorem m_M_comes : c_M ⟨"WreckSkyModel", "comes", "(IIIII)I"⟩ prog_11_method_11_code 7 (Option.some Jvm.ClassFile.FieldType.int) 5 := ⟨c_M_comes, w_64, ⟨by decide +kernel, by decide +kernel, by decide +kernel⟩, by decide, plainFor_of_name (by decide +kernel)⟩
theorem c_S_hasWreck : Cond.code ⟨"WreckSky$Sky", "hasWreck", "(I)Z"⟩ prog_5_method_3_code 2 (Option.some Jvm.ClassFile.FieldType.boolean) ∈ gtb := gtb_at 370 (by decide +kernel) (by decide +kernel)
theorem m_S_hasWreck : c_M ⟨"WreckSky$Sky", "hasWreck", "(I)Z"⟩ prog_5_method_3_code 2 (Option.some Jvm.ClassFile.FieldType.boolean) 1 := ⟨c_S_hasWreck, w_57, ⟨by decide +kernel, by decide +kernel, by decide +kernel⟩, by decide, plainFor_of_name (by decide +kernel)⟩
theorem c_S_hardOf : Cond.code ⟨"WreckSky$Sky", "hardOf", "(LWreckSky$Wreck;)I"⟩ prog_5_method_7_code 4 (Option.some Jvm.ClassFile.FieldType.int) ∈ gtb := gtb_at 375 (by decide +kernel) (by decide +kernel)
theorem m_S_hardOf : c_M ⟨"WreckSky$Sky", "hardOf", "(LWreckSky$Wreck;)I"⟩ prog_5_method_7_code 4 (Option.some Jvm.ClassFile.FieldType.int) 1 := ⟨c_S_hardOf, w_57, ⟨by decide +kernel, by decide +kernel, by decide +kernel⟩, by decide, plainFor_of_name (by decide +kernel)⟩
theorem c_K_goesAt : Cond.code ⟨"WreckSky$Wreck", "goesAt", "(I)I"⟩ prog_9_method_5_code 2 (Option.some Jvm.ClassFile.FieldType.int) ∈ gtb := gtb_at 407 (by decide +kernel) (by decide +kernel)
theorem m_K_goesAt : c_M ⟨"WreckSky$Wreck", "goesAt", "(I)I"⟩ prog_9_method_5_code 2 (Option.some Jvm.ClassFile.FieldType.int) 1 := ⟨c_K_goesAt, w_58, ⟨by decide +kernel, by decide +kernel, by decide +kernel⟩, by decide, plainFor_of_name (by decide +kernel)⟩
theorem c_K_worth : Cond.code ⟨"WreckSky$Wreck", "worth", "()I"⟩ prog_9_method_6_code 1 (Option.some Jvm.ClassFile.FieldType.int) ∈ gtb := gtb_at 411 (by decide +kernel) (by decide +kernel)
theorem m_K_worth : c_M ⟨"WreckSky$Wreck", "worth", "()I"⟩ prog_9_method_6_code 1 (Option.some Jvm.ClassFile.FieldType.int) 0 := ⟨c_K_worth, w_58, ⟨by decide +kernel, by decide +kernel, by decide +kernel⟩, by decide, plainFor_of_name (by decide +kernel)⟩
theorem c_M_isWreck : Cond.code ⟨"WreckSkyModel", "isWreck", "(I)Z"⟩ prog_11_method_6_code 2 (Option.some Jvm.ClassFile.FieldType.boolean) ∈ gtb := gtb_at 1129 (by decide +kernel) (by decide +kernel)
theorem m_M_isWreck : c_M ⟨"WreckSkyModel", "isWreck", "(I)Z"⟩ prog_11_method_6_code 2 (Option.some Jvm.ClassFile.FieldType.boolean) 1 := ⟨c_M_isWreck, w_64, ⟨by decide +kernel, by decide +kernel, by decide +kernel⟩, by decide, plainFor_of_name (by decide +kernel)⟩
theorem c_M_of : Cond.code ⟨"WreckSkyModel", "of", "(II)I"⟩ prog_11_method_7_code 3 (Option.some Jvm.ClassFile.FieldType.int) ∈ gtb := gtb_at 1133 (by decide +kernel) (by decide +kernel)
theorem m_M_of : c_M ⟨"WreckSkyModel", "of", "(II)I"⟩ prog_11_method_7_code 3 (Option.some Jvm.ClassFile.FieldType.int) 2 := ⟨c_M_of, w_64, ⟨by decide +kernel, by decide +kernel, by decide +kernel⟩, by decide, plainFor_of_name (by decide +kernel)⟩
theorem c_M_hardOf : Cond.code ⟨"WreckSkyModel", "hardOf", "(I)I"⟩ prog_11_method_14_code 4 (Option.some Jvm.ClassFile.FieldType.int) ∈ gtb := gtb_at 1137 (by decide +kernel) (by decide +kernel)
theorem m_M_hardOf : c_M ⟨"WreckSkyModel", "hardOf", "(I)I"⟩ prog_11_method_14_code 4 (Option.some Jvm.ClassFile.FieldType.int) 1 := ⟨c_M_hardOf, w_64, ⟨by decide +kernel, by decide +kernel, by decide +kernel⟩, by decide, plainFor_of_name (by decide +kernel)⟩
theorem c_M_goesOf : Cond.code ⟨"WreckSkyModel", "goesOf", "(I)I"⟩ prog_11_method_15_code 3 (Option.some Jvm.ClassFile.FieldType.int) ∈ gtb := gtb_at 1155 (by decide +kernel) (by decide +kernel)
theorem m_M_goesOf : c_M ⟨"WreckSkyModel", "goesOf", "(I)I"⟩ prog_11_method_15_code 3 (Option.some Jvm.ClassFile.FieldType.int) 1 := ⟨c_M_goesOf, w_64, ⟨by decide +kernel, by decide +kernel, by decide +kernel⟩, by decide, plainFor_of_name (by decide +kernel)⟩
theorem c_M_worthOf : Cond.code ⟨"WreckSkyModel", "worthOf", "(I)I"⟩ prog_11_method_16_code 3 (Option.some Jvm.ClassFile.FieldType.int) ∈ gtb := gtb_at 1159 (by decide +kernel) (by decide +kernel)
theorem m_M_worthOf : c_M ⟨"WreckSkyModel", "worthOf", "(I)I"⟩ prog_11_method_16_code 3 (Option.some Jvm.ClassFile.FieldType.int) 1 := ⟨c_M_worthOf, w_64, ⟨by decide +kernel, by decide +kernel, by decide +kernel⟩, by decide, plainFor_of_name (by decide +kernel)⟩
theorem c_K_isOf : Cond.code ⟨"WreckSky$Wreck", "isOf", "(I)Z"⟩ prog_9_method_3_code 4 (Option.some Jvm.ClassFile.FieldType.boolean) ∈ gtb := gtb_at 419 (by decide +kernel) (by decide +kernel)
theorem m_K_isOf : c_M ⟨"WreckSky$Wreck", "isOf", "(I)Z"⟩ prog_9_method_3_code 4 (Option.some Jvm.ClassFile.FieldType.boolean) 1 := ⟨c_K_isOf, w_58, ⟨by decide +kernel, by decide +kernel, by decide +kernel⟩, by decide, plainFor_of_name (by decide +kernel)⟩
theorem c_M_isUnder : Cond.code ⟨"WreckSkyModel", "isUnder", "(II)Z"⟩ prog_11_method_18_code 2 (Option.some Jvm.ClassFile.FieldType.boolean) ∈ gtb := gtb_at 1166 (by decide +kernel) (by decide +kernel)
theorem m_M_isUnder : c_M ⟨"WreckSkyModel", "isUnder", "(II)Z"⟩ prog_11_method_18_code 2 (Option.some Jvm.ClassFile.FieldType.boolean) 2 := ⟨c_M_isUnder, w_64, ⟨by decide +kernel, by decide +kernel, by decide +kernel⟩, by decide, plainFor_of_name (by decide +kernel)⟩
theorem c_M_becomes : Cond.code ⟨"WreckSkyModel", "becomes", "(II)I"⟩ prog_11_method_10_code 4 (Option.some Jvm.ClassFile.FieldType.int) ∈ gtb := gtb_at 1175 (by decide +kernel) (by decide +kernel)
theorem m_M_becomes : c_M ⟨"WreckSkyModel", "becomes", "(II)I"⟩ prog_11_method_10_code 4 (Option.some Jvm.ClassFile.FieldType.int) 2 := ⟨c_M_becomes, w_64, ⟨by decide +kernel, by decide +kernel, by decide +kernel⟩, by decide, plainFor_of_name (by decide +kernel)⟩
theorem c_W_fits : Cond.code ⟨"WreckSky", "fits", "(II)Z"⟩ prog_1_method_51_code 2 (Option.some Jvm.ClassFile.FieldType.boolean) ∈ gtb := gtb_at 433 (by decide +kernel) (by decide +kernel)
theorem m_W_fits : c_M ⟨"WreckSky", "fits", "(II)Z"⟩ prog_1_method_51_code 2 (Option.some Jvm.ClassFile.FieldType.boolean) 2 := ⟨c_W_fits, w_56, ⟨by decide +kernel, by decide +kernel, by decide +kernel⟩, by decide, plainFor_of_name (by decide +kernel)⟩
theorem c_M_isUp : Cond.code ⟨"WreckSkyModel", "isUp", "(I)Z"⟩ prog_11_method_9_code 2 (Option.some Jvm.ClassFile.FieldType.boolean) ∈ gtb := gtb_at 1187 (by decide +kernel) (by decide +kernel)
theorem m_M_isUp : c_M ⟨"WreckSkyModel", "isUp", "(I)Z"⟩ prog_11_method_9_code 2 (Option.some Jvm.ClassFile.FieldType.boolean) 1 := ⟨c_M_isUp, w_64, ⟨by decide +kernel, by decide +kernel, by decide +kernel⟩, by decide, plainFor_of_name (by decide +kernel)⟩
theorem c_M_put : Cond.code ⟨"WreckSkyModel", "put", "(III)V"⟩ prog_11_method_8_code 4 (Option.none : Option Jvm.ClassFile.FieldType) ∈ gtb := gtb_at 1121 (by decide +kernel) (by decide +kernel)
theorem m_M_put : c_M ⟨"WreckSkyModel", "put", "(III)V"⟩ prog_11_method_8_code 4 (Option.none : Option Jvm.ClassFile.FieldType) 3 := ⟨c_M_put, w_64, ⟨by decide +kernel, by decide +kernel, by decide +kernel⟩, by decide, plainFor_of_name (by decide +kernel)⟩
theorem c_M_upAt : Cond.code ⟨"WreckSkyModel", "upAt", "(II)I"⟩ prog_11_method_24_code 5 (Option.some Jvm.ClassFile.FieldType.int) ∈ gtb := gtb_at 1200 (by decide +kernel) (by decide +kernel)
theorem m_M_upAt : c_M ⟨"WreckSkyModel", "upAt", "(II)I"⟩ prog_11_method_24_code 5 (Option.some Jvm.ClassFile.FieldType.int) 2 := ⟨c_M_upAt, w_64, ⟨by decide +kernel, by decide +kernel, by decide +kernel⟩, by decide, plainFor_of_name (by decide +kernel)⟩
theorem c_JMath_min : Cond.code ⟨"java/lang/Math", "min", "(II)I"⟩ prog_15_method_69_code 2 (Option.some Jvm.ClassFile.FieldType.int) ∈ gtb := gtb_at 395 (by decide +kernel) (by decide +kernel)
theorem m_JMath_min : c_M ⟨"java/lang/Math", "min", "(II)I"⟩ prog_15_method_69_code 2 (Option.some Jvm.ClassFile.FieldType.int) 2 := ⟨c_JMath_min, w_66, ⟨by decide +kernel, by decide +kernel, by decide +kernel⟩, by decide, by decide +kernel⟩
theorem c_S_drawWreck : Cond.code ⟨"WreckSky$Sky", "drawWreck", "()V"⟩ prog_5_method_9_code 6 (Option.none : Option Jvm.ClassFile.FieldType) ∈ gtb := gtb_at 455 (by decide +kernel) (by decide +kernel)
theorem m_S_drawWreck : c_M ⟨"WreckSky$Sky", "drawWreck", "()V"⟩ prog_5_method_9_code 6 (Option.none : Option Jvm.ClassFile.FieldType) 0 := ⟨c_S_drawWreck, w_57, ⟨by decide +kernel, by decide +kernel, by decide +kernel⟩, by decide, plainFor_of_name (by decide +kernel)⟩
theorem c_M_draw : Cond.code ⟨"WreckSkyModel", "draw", "()I"⟩ prog_11_method_26_code 1 (Option.some Jvm.ClassFile.FieldType.int) ∈ gtb := gtb_at 1208 (by decide +kernel) (by decide +kernel)
theorem m_M_draw : c_M ⟨"WreckSkyModel", "draw", "()I"⟩ prog_11_method_26_code 1 (Option.some Jvm.ClassFile.FieldType.int) 0 := ⟨c_M_draw, w_64, ⟨by decide +kernel, by decide +kernel, by decide +kernel⟩, by decide, plainFor_of_name (by decide +kernel)⟩
theorem c_S_passHours : Cond.code ⟨"WreckSky$Sky", "passHours", "(I)V"⟩ prog_5_method_10_code 3 (Option.none : Option Jvm.ClassFile.FieldType) ∈ gtb := gtb_at 473 (by decide +kernel) (by decide +kernel)
theorem m_S_passHours : c_M ⟨"WreckSky$Sky", "passHours", "(I)V"⟩ prog_5_method_10_code 3 (Option.none : Option Jvm.ClassFile.FieldType) 1 := ⟨c_S_passHours, w_57, ⟨by decide +kernel, by decide +kernel, by decide +kernel⟩, by decide, plainFor_of_name (by decide +kernel)⟩
theorem c_M_within : Cond.code ⟨"WreckSkyModel", "within", "(III)I"⟩ prog_11_method_3_code 3 (Option.some Jvm.ClassFile.FieldType.int) ∈ gtb := gtb_at 1151 (by decide +kernel) (by decide +kernel)
theorem m_M_within : c_M ⟨"WreckSkyModel", "within", "(III)I"⟩ prog_11_method_3_code 3 (Option.some Jvm.ClassFile.FieldType.int) 3 := ⟨c_M_within, w_64, ⟨by decide +kernel, by decide +kernel, by decide +kernel⟩, by decide, plainFor_of_name (by decide +kernel)⟩
theorem c_M_goesOn : Cond.code ⟨"WreckSkyModel", "goesOn", "(I)V"⟩ prog_11_method_33_code 3 (Option.none : Option Jvm.ClassFile.FieldType) ∈ gtb := gtb_at 1221 (by decide +kernel) (by decide +kernel)
theorem m_M_goesOn : c_M ⟨"WreckSkyModel", "goesOn", "(I)V"⟩ prog_11_method_33_code 3 (Option.none : Option Jvm.ClassFile.FieldType) 1 := ⟨c_M_goesOn, w_64, ⟨by decide +kernel, by decide +kernel, by decide +kernel⟩, by decide, plainFor_of_name (by decide +kernel)⟩
theorem c_S_upSet : Cond.code ⟨"WreckSky$Sky", "upSet", "()I"⟩ prog_5_method_15_code 3 (Option.some Jvm.ClassFile.FieldType.int) ∈ gtb := gtb_at 503 (by decide +kernel) (by decide +kernel)
theorem m_S_upSet : c_M ⟨"WreckSky$Sky", "upSet", "()I"⟩ prog_5_method_15_code 3 (Option.some Jvm.ClassFile.FieldType.int) 0 := ⟨c_S_upSet, w_57, ⟨by decide +kernel, by decide +kernel, by decide +kernel⟩, by decide, plainFor_of_name (by decide +kernel)⟩
theorem c_S_upMass : Cond.code ⟨"WreckSky$Sky", "upMass", "()I"⟩ prog_5_method_16_code 3 (Option.some Jvm.ClassFile.FieldType.int) ∈ gtb := gtb_at 507 (by decide +kernel) (by decide +kernel)
theorem m_S_upMass : c_M ⟨"WreckSky$Sky", "upMass", "()I"⟩ prog_5_method_16_code 3 (Option.some Jvm.ClassFile.FieldType.int) 0 := ⟨c_S_upMass, w_57, ⟨by decide +kernel, by decide +kernel, by decide +kernel⟩, by decide, plainFor_of_name (by decide +kernel)⟩
theorem c_S_upHeights : Cond.code ⟨"WreckSky$Sky", "upHeights", "()I"⟩ prog_5_method_17_code 3 (Option.some Jvm.ClassFile.FieldType.int) ∈ gtb := gtb_at 511 (by decide +kernel) (by decide +kernel)
theorem m_S_upHeights : c_M ⟨"WreckSky$Sky", "upHeights", "()I"⟩ prog_5_method_17_code 3 (Option.some Jvm.ClassFile.FieldType.int) 0 := ⟨c_S_upHeights, w_57, ⟨by decide +kernel, by decide +kernel, by decide +kernel⟩, by decide, plainFor_of_name (by decide +kernel)⟩
theorem c_M_ups : Cond.code ⟨"WreckSkyModel", "ups", "(I)I"⟩ prog_11_method_35_code 4 (Option.some Jvm.ClassFile.FieldType.int) ∈ gtb := gtb_at 1248 (by decide +kernel) (by decide +kernel)
theorem m_M_ups : c_M ⟨"WreckSkyModel", "ups", "(I)I"⟩ prog_11_method_35_code 4 (Option.some Jvm.ClassFile.FieldType.int) 1 := ⟨c_M_ups, w_64, ⟨by decide +kernel, by decide +kernel, by decide +kernel⟩, by decide, plainFor_of_name (by decide +kernel)⟩
theorem c_F_behindHours : Cond.code ⟨"WreckSky$Foresight", "behindHours", "(LWreckSky$Sky;I)LWreckSky$Sky;"⟩ prog_2_method_5_code 3 (Option.some (Jvm.ClassFile.FieldType.object "WreckSky$Sky")) ∈ gtb := gtb_at 519 (by decide +kernel) (by decide +kernel)
theorem m_F_behindHours : c_M ⟨"WreckSky$Foresight", "behindHours", "(LWreckSky$Sky;I)LWreckSky$Sky;"⟩ prog_2_method_5_code 3 (Option.some (Jvm.ClassFile.FieldType.object "WreckSky$Sky")) 2 := ⟨c_F_behindHours, w_59, ⟨by decide +kernel, by decide +kernel, by decide +kernel⟩, by decide, plainFor_of_name (by decide +kernel)⟩
theorem c_JInteger_bitCount : Cond.code ⟨"java/lang/Integer", "bitCount", "(I)I"⟩ prog_14_method_49_code 1 (Option.some Jvm.ClassFile.FieldType.int) ∈ gtb := gtb_at 531 (by decide +kernel) (by decide +kernel)
theorem m_JInteger_bitCount : c_M ⟨"java/lang/Integer", "bitCount", "(I)I"⟩ prog_14_method_49_code 1 (Option.some Jvm.ClassFile.FieldType.int) 1 := ⟨c_JInteger_bitCount, w_67, ⟨by decide +kernel, by decide +kernel, by decide +kernel⟩, by decide, plainFor_of_name (by decide +kernel)⟩
theorem c_M_thinks : Cond.code ⟨"WreckSkyModel", "thinks", "()V"⟩ prog_11_method_37_code 2 (Option.none : Option Jvm.ClassFile.FieldType) ∈ gtb := gtb_at 1256 (by decide +kernel) (by decide +kernel)
theorem m_M_thinks : c_M ⟨"WreckSkyModel", "thinks", "()V"⟩ prog_11_method_37_code 2 (Option.none : Option Jvm.ClassFile.FieldType) 0 := ⟨c_M_thinks, w_64, ⟨by decide +kernel, by decide +kernel, by decide +kernel⟩, by decide, plainFor_of_name (by decide +kernel)⟩
theorem c_M_putsBack : Cond.code ⟨"WreckSkyModel", "putsBack", "()V"⟩ prog_11_method_38_code 2 (Option.none : Option Jvm.ClassFile.FieldType) ∈ gtb := gtb_at 1260 (by decide +kernel) (by decide +kernel)
theorem m_M_putsBack : c_M ⟨"WreckSkyModel", "putsBack", "()V"⟩ prog_11_method_38_code 2 (Option.none : Option Jvm.ClassFile.FieldType) 0 := ⟨c_M_putsBack, w_64, ⟨by decide +kernel, by decide +kernel, by decide +kernel⟩, by decide, plainFor_of_name (by decide +kernel)⟩
theorem c_F_firstBreak : Cond.code ⟨"WreckSky$Foresight", "firstBreak", "(LWreckSky$Sky;)I"⟩ prog_2_method_6_code 3 (Option.some Jvm.ClassFile.FieldType.int) ∈ gtb := gtb_at 542 (by decide +kernel) (by decide +kernel)
theorem m_F_firstBreak : c_M ⟨"WreckSky$Foresight", "firstBreak", "(LWreckSky$Sky;)I"⟩ prog_2_method_6_code 3 (Option.some Jvm.ClassFile.FieldType.int) 1 := ⟨c_F_firstBreak, w_59, ⟨by decide +kernel, by decide +kernel, by decide +kernel⟩, by decide, plainFor_of_name (by decide +kernel)⟩
theorem c_M_hour : Cond.code ⟨"WreckSkyModel", "hour", "()V"⟩ prog_11_method_32_code 4 (Option.none : Option Jvm.ClassFile.FieldType) ∈ gtb := gtb_at 1225 (by decide +kernel) (by decide +kernel)
theorem m_M_hour : c_M ⟨"WreckSkyModel", "hour", "()V"⟩ prog_11_method_32_code 4 (Option.none : Option Jvm.ClassFile.FieldType) 0 := ⟨c_M_hour, w_64, ⟨by decide +kernel, by decide +kernel, by decide +kernel⟩, by decide, plainFor_of_name (by decide +kernel)⟩
theorem c_F_findHoles : Cond.code ⟨"WreckSky$Foresight", "findHoles", "(LWreckSky$Sky;)V"⟩ prog_2_method_7_code 3 (Option.none : Option Jvm.ClassFile.FieldType) ∈ gtb := gtb_at 550 (by decide +kernel) (by decide +kernel)
theorem m_F_findHoles : c_M ⟨"WreckSky$Foresight", "findHoles", "(LWreckSky$Sky;)V"⟩ prog_2_method_7_code 3 (Option.none : Option Jvm.ClassFile.FieldType) 1 := ⟨c_F_findHoles, w_59, ⟨by decide +kernel, by decide +kernel, by decide +kernel⟩, by decide, plainFor_of_name (by decide +kernel)⟩
theorem c_F_holeOver : Cond.code ⟨"WreckSky$Foresight", "holeOver", "(I)I"⟩ prog_2_method_9_code 3 (Option.some Jvm.ClassFile.FieldType.int) ∈ gtb := gtb_at 562 (by decide +kernel) (by decide +kernel)
theorem m_F_holeOver : c_M ⟨"WreckSky$Foresight", "holeOver", "(I)I"⟩ prog_2_method_9_code 3 (Option.some Jvm.ClassFile.FieldType.int) 1 := ⟨c_F_holeOver, w_59, ⟨by decide +kernel, by decide +kernel, by decide +kernel⟩, by decide, plainFor_of_name (by decide +kernel)⟩
theorem c_M_looksUp : Cond.code ⟨"WreckSkyModel", "looksUp", "()V"⟩ prog_11_method_41_code 5 (Option.none : Option Jvm.ClassFile.FieldType) ∈ gtb := gtb_at 1273 (by decide +kernel) (by decide +kernel)
theorem m_M_looksUp : c_M ⟨"WreckSkyModel", "looksUp", "()V"⟩ prog_11_method_41_code 5 (Option.none : Option Jvm.ClassFile.FieldType) 0 := ⟨c_M_looksUp, w_64, ⟨by decide +kernel, by decide +kernel, by decide +kernel⟩, by decide, plainFor_of_name (by decide +kernel)⟩
theorem c_M_holeOf : Cond.code ⟨"WreckSkyModel", "holeOf", "(I)I"⟩ prog_11_method_42_code 5 (Option.some Jvm.ClassFile.FieldType.int) ∈ gtb := gtb_at 1277 (by decide +kernel) (by decide +kernel)
theorem m_M_holeOf : c_M ⟨"WreckSkyModel", "holeOf", "(I)I"⟩ prog_11_method_42_code 5 (Option.some Jvm.ClassFile.FieldType.int) 1 := ⟨c_M_holeOf, w_64, ⟨by decide +kernel, by decide +kernel, by decide +kernel⟩, by decide, plainFor_of_name (by decide +kernel)⟩
theorem c_F_chooseSweep : Cond.code ⟨"WreckSky$Foresight", "chooseSweep", "(LWreckSky$Sky;I)V"⟩ prog_2_method_10_code 4 (Option.none : Option Jvm.ClassFile.FieldType) ∈ gtb := gtb_at 574 (by decide +kernel) (by decide +kernel)
theorem m_F_chooseSweep : c_M ⟨"WreckSky$Foresight", "chooseSweep", "(LWreckSky$Sky;I)V"⟩ prog_2_method_10_code 4 (Option.none : Option Jvm.ClassFile.FieldType) 2 := ⟨c_F_chooseSweep, w_59, ⟨by decide +kernel, by decide +kernel, by decide +kernel⟩, by decide, plainFor_of_name (by decide +kernel)⟩
theorem c_F_toldOf : Cond.code ⟨"WreckSky$Foresight", "toldOf", "(I)I"⟩ prog_2_method_2_code 2 (Option.some Jvm.ClassFile.FieldType.int) ∈ gtb := gtb_at 586 (by decide +kernel) (by decide +kernel)
theorem m_F_toldOf : c_M ⟨"WreckSky$Foresight", "toldOf", "(I)I"⟩ prog_2_method_2_code 2 (Option.some Jvm.ClassFile.FieldType.int) 1 := ⟨c_F_toldOf, w_59, ⟨by decide +kernel, by decide +kernel, by decide +kernel⟩, by decide, plainFor_of_name (by decide +kernel)⟩
theorem c_M_brokenBehind : Cond.code ⟨"WreckSkyModel", "brokenBehind", "(I)I"⟩ prog_11_method_45_code 3 (Option.some Jvm.ClassFile.FieldType.int) ∈ gtb := gtb_at 1289 (by decide +kernel) (by decide +kernel)
theorem m_M_brokenBehind : c_M ⟨"WreckSkyModel", "brokenBehind", "(I)I"⟩ prog_11_method_45_code 3 (Option.some Jvm.ClassFile.FieldType.int) 1 := ⟨c_M_brokenBehind, w_64, ⟨by decide +kernel, by decide +kernel, by decide +kernel⟩, by decide, plainFor_of_name (by decide +kernel)⟩
theorem c_F_choosePace : Cond.code ⟨"WreckSky$Foresight", "choosePace", "(LWreckSky$Sky;II)V"⟩ prog_2_method_11_code 5 (Option.none : Option Jvm.ClassFile.FieldType) ∈ gtb := gtb_at 594 (by decide +kernel) (by decide +kernel)
theorem m_F_choosePace : c_M ⟨"WreckSky$Foresight", "choosePace", "(LWreckSky$Sky;II)V"⟩ prog_2_method_11_code 5 (Option.none : Option Jvm.ClassFile.FieldType) 3 := ⟨c_F_choosePace, w_59, ⟨by decide +kernel, by decide +kernel, by decide +kernel⟩, by decide, plainFor_of_name (by decide +kernel)⟩
theorem c_F_choosePlaceUnder : Cond.code ⟨"WreckSky$Foresight", "choosePlaceUnder", "(LWreckSky$Sky;I)V"⟩ prog_2_method_12_code 6 (Option.none : Option Jvm.ClassFile.FieldType) ∈ gtb := gtb_at 602 (by decide +kernel) (by decide +kernel)
theorem m_F_choosePlaceUnder : c_M ⟨"WreckSky$Foresight", "choosePlaceUnder", "(LWreckSky$Sky;I)V"⟩ prog_2_method_12_code 6 (Option.none : Option Jvm.ClassFile.FieldType) 2 := ⟨c_F_choosePlaceUnder, w_59, ⟨by decide +kernel, by decide +kernel, by decide +kernel⟩, by decide, plainFor_of_name (by decide +kernel)⟩
theorem c_F_nearestWay : Cond.code ⟨"WreckSky$Foresight", "nearestWay", "(LWreckSky$Sky;II)I"⟩ prog_2_method_13_code 6 (Option.some Jvm.ClassFile.FieldType.int) ∈ gtb := gtb_at 614 (by decide +kernel) (by decide +kernel)
theorem m_F_nearestWay : c_M ⟨"WreckSky$Foresight", "nearestWay", "(LWreckSky$Sky;II)I"⟩ prog_2_method_13_code 6 (Option.some Jvm.ClassFile.FieldType.int) 3 := ⟨c_F_nearestWay, w_59, ⟨by decide +kernel, by decide +kernel, by decide +kernel⟩, by decide, plainFor_of_name (by decide +kernel)⟩
theorem c_M_nearer : Cond.code ⟨"WreckSkyModel", "nearer", "(II)I"⟩ prog_11_method_50_code 6 (Option.some Jvm.ClassFile.FieldType.int) ∈ gtb := gtb_at 1305 (by decide +kernel) (by decide +kernel)
theorem m_M_nearer : c_M ⟨"WreckSkyModel", "nearer", "(II)I"⟩ prog_11_method_50_code 6 (Option.some Jvm.ClassFile.FieldType.int) 2 := ⟨c_M_nearer, w_64, ⟨by decide +kernel, by decide +kernel, by decide +kernel⟩, by decide, plainFor_of_name (by decide +kernel)⟩
theorem c_W_isSheet : Cond.code ⟨"WreckSky", "isSheet", "(I)Z"⟩ prog_1_method_49_code 1 (Option.some Jvm.ClassFile.FieldType.boolean) ∈ gtb := gtb_at 632 (by decide +kernel) (by decide +kernel)
theorem m_W_isSheet : c_M ⟨"WreckSky", "isSheet", "(I)Z"⟩ prog_1_method_49_code 1 (Option.some Jvm.ClassFile.FieldType.boolean) 1 := ⟨c_W_isSheet, w_56, ⟨by decide +kernel, by decide +kernel, by decide +kernel⟩, by decide, plainFor_of_name (by decide +kernel)⟩
theorem c_H_isMissing : Cond.code ⟨"WreckSky$Sheet", "isMissing", "()Z"⟩ prog_4_method_4_code 1 (Option.some Jvm.ClassFile.FieldType.boolean) ∈ gtb := gtb_at 636 (by decide +kernel) (by decide +kernel)
theorem m_H_isMissing : c_M ⟨"WreckSky$Sheet", "isMissing", "()Z"⟩ prog_4_method_4_code 1 (Option.some Jvm.ClassFile.FieldType.boolean) 0 := ⟨c_H_isMissing, w_62, ⟨by decide +kernel, by decide +kernel, by decide +kernel⟩, by decide, plainFor_of_name (by decide +kernel)⟩
theorem c_F_chooseSeen : Cond.code ⟨"WreckSky$Foresight", "chooseSeen", "(LWreckSky$Sky;LWreckSky$Sheet;)V"⟩ prog_2_method_15_code 5 (Option.none : Option Jvm.ClassFile.FieldType) ∈ gtb := gtb_at 641 (by decide +kernel) (by decide +kernel)
theorem m_F_chooseSeen : c_M ⟨"WreckSky$Foresight", "chooseSeen", "(LWreckSky$Sky;LWreckSky$Sheet;)V"⟩ prog_2_method_15_code 5 (Option.none : Option Jvm.ClassFile.FieldType) 2 := ⟨c_F_chooseSeen, w_59, ⟨by decide +kernel, by decide +kernel, by decide +kernel⟩, by decide, plainFor_of_name (by decide +kernel)⟩
theorem c_M_isSheet : Cond.code ⟨"WreckSkyModel", "isSheet", "(I)Z"⟩ prog_11_method_74_code 1 (Option.some Jvm.ClassFile.FieldType.boolean) ∈ gtb := gtb_at 1315 (by decide +kernel) (by decide +kernel)
theorem m_M_isSheet : c_M ⟨"WreckSkyModel", "isSheet", "(I)Z"⟩ prog_11_method_74_code 1 (Option.some Jvm.ClassFile.FieldType.boolean) 1 := ⟨c_M_isSheet, w_64, ⟨by decide +kernel, by decide +kernel, by decide +kernel⟩, by decide, plainFor_of_name (by decide +kernel)⟩
theorem c_M_round : Cond.code ⟨"WreckSkyModel", "round", "(I)I"⟩ prog_11_method_4_code 2 (Option.some Jvm.ClassFile.FieldType.int) ∈ gtb := gtb_at 1228 (by decide +kernel) (by decide +kernel)
theorem m_M_round : c_M ⟨"WreckSkyModel", "round", "(I)I"⟩ prog_11_method_4_code 2 (Option.some Jvm.ClassFile.FieldType.int) 1 := ⟨c_M_round, w_64, ⟨by decide +kernel, by decide +kernel, by decide +kernel⟩, by decide, plainFor_of_name (by decide +kernel)⟩
theorem c_M_apart : Cond.code ⟨"WreckSkyModel", "apart", "(II)I"⟩ prog_11_method_49_code 3 (Option.some Jvm.ClassFile.FieldType.int) ∈ gtb := gtb_at 1308 (by decide +kernel) (by decide +kernel)
theorem m_M_apart : c_M ⟨"WreckSkyModel", "apart", "(II)I"⟩ prog_11_method_49_code 3 (Option.some Jvm.ClassFile.FieldType.int) 2 := ⟨c_M_apart, w_64, ⟨by decide +kernel, by decide +kernel, by decide +kernel⟩, by decide, plainFor_of_name (by decide +kernel)⟩
theorem c_S_textFor : Cond.code ⟨"WreckSky$Sky", "textFor", "(I)I"⟩ prog_5_method_6_code 3 (Option.some Jvm.ClassFile.FieldType.int) ∈ gtb := gtb_at 379 (by decide +kernel) (by decide +kernel)
theorem m_S_textFor : c_M ⟨"WreckSky$Sky", "textFor", "(I)I"⟩ prog_5_method_6_code 3 (Option.some Jvm.ClassFile.FieldType.int) 1 := ⟨c_S_textFor, w_57, ⟨by decide +kernel, by decide +kernel, by decide +kernel⟩, by decide, plainFor_of_name (by decide +kernel)⟩
theorem c_X_valueOf : Cond.code ⟨"WreckSky$Text", "valueOf", "(III[I)I"⟩ prog_8_method_2_code 8 (Option.some Jvm.ClassFile.FieldType.int) ∈ gtb := gtb_at 383 (by decide +kernel) (by decide +kernel)
theorem m_X_valueOf : c_M ⟨"WreckSky$Text", "valueOf", "(III[I)I"⟩ prog_8_method_2_code 8 (Option.some Jvm.ClassFile.FieldType.int) 4 := ⟨c_X_valueOf, w_65, ⟨by decide +kernel, by decide +kernel, by decide +kernel⟩, by decide, plainFor_of_name (by decide +kernel)⟩
theorem c_M_counts : Cond.code ⟨"WreckSkyModel", "counts", "(I)I"⟩ prog_11_method_70_code 3 (Option.some Jvm.ClassFile.FieldType.int) ∈ gtb := gtb_at 1141 (by decide +kernel) (by decide +kernel)
theorem m_M_counts : c_M ⟨"WreckSkyModel", "counts", "(I)I"⟩ prog_11_method_70_code 3 (Option.some Jvm.ClassFile.FieldType.int) 1 := ⟨c_M_counts, w_64, ⟨by decide +kernel, by decide +kernel, by decide +kernel⟩, by decide, plainFor_of_name (by decide +kernel)⟩
theorem c_M_worksOut : Cond.code ⟨"WreckSkyModel", "worksOut", "(I)I"⟩ prog_11_method_73_code 6 (Option.some Jvm.ClassFile.FieldType.int) ∈ gtb := gtb_at 1145 (by decide +kernel) (by decide +kernel)
theorem m_M_worksOut : c_M ⟨"WreckSkyModel", "worksOut", "(I)I"⟩ prog_11_method_73_code 6 (Option.some Jvm.ClassFile.FieldType.int) 1 := ⟨c_M_worksOut, w_64, ⟨by decide +kernel, by decide +kernel, by decide +kernel⟩, by decide, plainFor_of_name (by decide +kernel)⟩
theorem c_T_hasRoomFor : Cond.code ⟨"WreckSky$Tape", "hasRoomFor", "(I)Z"⟩ prog_7_method_2_code 2 (Option.some Jvm.ClassFile.FieldType.boolean) ∈ gtb := gtb_at 670 (by decide +kernel) (by decide +kernel)
theorem m_T_hasRoomFor : c_M ⟨"WreckSky$Tape", "hasRoomFor", "(I)Z"⟩ prog_7_method_2_code 2 (Option.some Jvm.ClassFile.FieldType.boolean) 1 := ⟨c_T_hasRoomFor, w_60, ⟨by decide +kernel, by decide +kernel, by decide +kernel⟩, by decide, plainFor_of_name (by decide +kernel)⟩
theorem c_T_addBytes : Cond.code ⟨"WreckSky$Tape", "addBytes", "(I)V"⟩ prog_7_method_3_code 3 (Option.none : Option Jvm.ClassFile.FieldType) ∈ gtb := gtb_at 674 (by decide +kernel) (by decide +kernel)
theorem m_T_addBytes : c_M ⟨"WreckSky$Tape", "addBytes", "(I)V"⟩ prog_7_method_3_code 3 (Option.none : Option Jvm.ClassFile.FieldType) 1 := ⟨c_T_addBytes, w_60, ⟨by decide +kernel, by decide +kernel, by decide +kernel⟩, by decide, plainFor_of_name (by decide +kernel)⟩
theorem c_R_readTape : Cond.code ⟨"WreckSky$Reader", "readTape", "()LWreckSky$Text;"⟩ prog_3_method_2_code 2 (Option.some (Jvm.ClassFile.FieldType.object "WreckSky$Text")) ∈ gtb := gtb_at 686 (by decide +kernel) (by decide +kernel)
theorem m_R_readTape : c_M ⟨"WreckSky$Reader", "readTape", "()LWreckSky$Text;"⟩ prog_3_method_2_code 2 (Option.some (Jvm.ClassFile.FieldType.object "WreckSky$Text")) 0 := ⟨c_R_readTape, w_61, ⟨by decide +kernel, by decide +kernel, by decide +kernel⟩, by decide, plainFor_of_name (by decide +kernel)⟩
theorem c_S_addText : Cond.code ⟨"WreckSky$Sky", "addText", "(LWreckSky$Text;)Z"⟩ prog_5_method_5_code 2 (Option.some Jvm.ClassFile.FieldType.boolean) ∈ gtb := gtb_at 880 (by decide +kernel) (by decide +kernel)
theorem m_S_addText : c_M ⟨"WreckSky$Sky", "addText", "(LWreckSky$Text;)Z"⟩ prog_5_method_5_code 2 (Option.some Jvm.ClassFile.FieldType.boolean) 1 := ⟨c_S_addText, w_57, ⟨by decide +kernel, by decide +kernel, by decide +kernel⟩, by decide, plainFor_of_name (by decide +kernel)⟩
theorem c_M_go : Cond.code ⟨"WreckSkyModel", "go", "()V"⟩ prog_11_method_59_code 2 (Option.none : Option Jvm.ClassFile.FieldType) ∈ gtb := gtb_at 1340 (by decide +kernel) (by decide +kernel)
theorem m_M_go : c_M ⟨"WreckSkyModel", "go", "()V"⟩ prog_11_method_59_code 2 (Option.none : Option Jvm.ClassFile.FieldType) 0 := ⟨c_M_go, w_64, ⟨by decide +kernel, by decide +kernel, by decide +kernel⟩, by decide, plainFor_of_name (by decide +kernel)⟩
theorem c_M_takesKey : Cond.code ⟨"WreckSkyModel", "takesKey", "()Z"⟩ prog_11_method_60_code 5 (Option.some Jvm.ClassFile.FieldType.boolean) ∈ gtb := gtb_at 1352 (by decide +kernel) (by decide +kernel)
theorem m_M_takesKey : c_M ⟨"WreckSkyModel", "takesKey", "()Z"⟩ prog_11_method_60_code 5 (Option.some Jvm.ClassFile.FieldType.boolean) 0 := ⟨c_M_takesKey, w_64, ⟨by decide +kernel, by decide +kernel, by decide +kernel⟩, by decide, plainFor_of_name (by decide +kernel)⟩
theorem c_M_takesE : Cond.code ⟨"WreckSkyModel", "takesE", "()Z"⟩ prog_11_method_66_code 5 (Option.some Jvm.ClassFile.FieldType.boolean) ∈ gtb := gtb_at 1356 (by decide +kernel) (by decide +kernel)
theorem m_M_takesE : c_M ⟨"WreckSkyModel", "takesE", "()Z"⟩ prog_11_method_66_code 5 (Option.some Jvm.ClassFile.FieldType.boolean) 0 := ⟨c_M_takesE, w_64, ⟨by decide +kernel, by decide +kernel, by decide +kernel⟩, by decide, plainFor_of_name (by decide +kernel)⟩
theorem c_H_becomeBlank : Cond.code ⟨"WreckSky$Sheet", "becomeBlank", "(II)V"⟩ prog_4_method_2_code 3 (Option.none : Option Jvm.ClassFile.FieldType) ∈ gtb := gtb_at 898 (by decide +kernel) (by decide +kernel)
theorem m_H_becomeBlank : c_M ⟨"WreckSky$Sheet", "becomeBlank", "(II)V"⟩ prog_4_method_2_code 3 (Option.none : Option Jvm.ClassFile.FieldType) 2 := ⟨c_H_becomeBlank, w_62, ⟨by decide +kernel, by decide +kernel, by decide +kernel⟩, by decide, plainFor_of_name (by decide +kernel)⟩
theorem c_H_hasPlace : Cond.code ⟨"WreckSky$Sheet", "hasPlace", "(I)Z"⟩ prog_4_method_5_code 2 (Option.some Jvm.ClassFile.FieldType.boolean) ∈ gtb := gtb_at 649 (by decide +kernel) (by decide +kernel)
theorem m_H_hasPlace : c_M ⟨"WreckSky$Sheet", "hasPlace", "(I)Z"⟩ prog_4_method_5_code 2 (Option.some Jvm.ClassFile.FieldType.boolean) 1 := ⟨c_H_hasPlace, w_62, ⟨by decide +kernel, by decide +kernel, by decide +kernel⟩, by decide, plainFor_of_name (by decide +kernel)⟩
theorem c_H_hasNumber : Cond.code ⟨"WreckSky$Sheet", "hasNumber", "(I)Z"⟩ prog_4_method_7_code 2 (Option.some Jvm.ClassFile.FieldType.boolean) ∈ gtb := gtb_at 645 (by decide +kernel) (by decide +kernel)
theorem m_H_hasNumber : c_M ⟨"WreckSky$Sheet", "hasNumber", "(I)Z"⟩ prog_4_method_7_code 2 (Option.some Jvm.ClassFile.FieldType.boolean) 1 := ⟨c_H_hasNumber, w_62, ⟨by decide +kernel, by decide +kernel, by decide +kernel⟩, by decide, plainFor_of_name (by decide +kernel)⟩
theorem c_W_held : Cond.code ⟨"WreckSky", "held", "(III)I"⟩ prog_1_method_45_code 3 (Option.some Jvm.ClassFile.FieldType.int) ∈ gtb := gtb_at 392 (by decide +kernel) (by decide +kernel)
theorem m_W_held : c_M ⟨"WreckSky", "held", "(III)I"⟩ prog_1_method_45_code 3 (Option.some Jvm.ClassFile.FieldType.int) 3 := ⟨c_W_held, w_56, ⟨by decide +kernel, by decide +kernel, by decide +kernel⟩, by decide, plainFor_of_name (by decide +kernel)⟩
theorem c_H_hasPlaces : Cond.code ⟨"WreckSky$Sheet", "hasPlaces", "(II)Z"⟩ prog_4_method_6_code 3 (Option.some Jvm.ClassFile.FieldType.boolean) ∈ gtb := gtb_at 925 (by decide +kernel) (by decide +kernel)
theorem m_H_hasPlaces : c_M ⟨"WreckSky$Sheet", "hasPlaces", "(II)Z"⟩ prog_4_method_6_code 3 (Option.some Jvm.ClassFile.FieldType.boolean) 2 := ⟨c_H_hasPlaces, w_62, ⟨by decide +kernel, by decide +kernel, by decide +kernel⟩, by decide, plainFor_of_name (by decide +kernel)⟩
theorem c_W_isSlot : Cond.code ⟨"WreckSky", "isSlot", "(I)Z"⟩ prog_1_method_50_code 1 (Option.some Jvm.ClassFile.FieldType.boolean) ∈ gtb := gtb_at 933 (by decide +kernel) (by decide +kernel)
theorem m_W_isSlot : c_M ⟨"WreckSky", "isSlot", "(I)Z"⟩ prog_1_method_50_code 1 (Option.some Jvm.ClassFile.FieldType.boolean) 1 := ⟨c_W_isSlot, w_56, ⟨by decide +kernel, by decide +kernel, by decide +kernel⟩, by decide, plainFor_of_name (by decide +kernel)⟩
theorem c_K_becomeAs : Cond.code ⟨"WreckSky$Wreck", "becomeAs", "(LWreckSky$Wreck;)V"⟩ prog_9_method_2_code 2 (Option.none : Option Jvm.ClassFile.FieldType) ∈ gtb := gtb_at 527 (by decide +kernel) (by decide +kernel)
theorem m_K_becomeAs : c_M ⟨"WreckSky$Wreck", "becomeAs", "(LWreckSky$Wreck;)V"⟩ prog_9_method_2_code 2 (Option.none : Option Jvm.ClassFile.FieldType) 1 := ⟨c_K_becomeAs, w_58, ⟨by decide +kernel, by decide +kernel, by decide +kernel⟩, by decide, plainFor_of_name (by decide +kernel)⟩
theorem c_H_becomeAs : Cond.code ⟨"WreckSky$Sheet", "becomeAs", "(LWreckSky$Sheet;)V"⟩ prog_4_method_3_code 2 (Option.none : Option Jvm.ClassFile.FieldType) ∈ gtb := gtb_at 938 (by decide +kernel) (by decide +kernel)
theorem m_H_becomeAs : c_M ⟨"WreckSky$Sheet", "becomeAs", "(LWreckSky$Sheet;)V"⟩ prog_4_method_3_code 2 (Option.none : Option Jvm.ClassFile.FieldType) 1 := ⟨c_H_becomeAs, w_62, ⟨by decide +kernel, by decide +kernel, by decide +kernel⟩, by decide, plainFor_of_name (by decide +kernel)⟩
theorem c_M_isSlot : Cond.code ⟨"WreckSkyModel", "isSlot", "(I)Z"⟩ prog_11_method_75_code 1 (Option.some Jvm.ClassFile.FieldType.boolean) ∈ gtb := gtb_at 1418 (by decide +kernel) (by decide +kernel)
theorem m_M_isSlot : c_M ⟨"WreckSkyModel", "isSlot", "(I)Z"⟩ prog_11_method_75_code 1 (Option.some Jvm.ClassFile.FieldType.boolean) 1 := ⟨c_M_isSlot, w_64, ⟨by decide +kernel, by decide +kernel, by decide +kernel⟩, by decide, plainFor_of_name (by decide +kernel)⟩
theorem c_W_findingUnless : Cond.code ⟨"WreckSky", "findingUnless", "(II)I"⟩ prog_1_method_52_code 4 (Option.some Jvm.ClassFile.FieldType.int) ∈ gtb := gtb_at 947 (by decide +kernel) (by decide +kernel)
theorem m_W_findingUnless : c_M ⟨"WreckSky", "findingUnless", "(II)I"⟩ prog_1_method_52_code 4 (Option.some Jvm.ClassFile.FieldType.int) 2 := ⟨c_W_findingUnless, w_56, ⟨by decide +kernel, by decide +kernel, by decide +kernel⟩, by decide, plainFor_of_name (by decide +kernel)⟩
theorem c_F_rightOnes : Cond.code ⟨"WreckSky$Foresight", "rightOnes", "(LWreckSky$Sky;I[II)I"⟩ prog_2_method_16_code 7 (Option.some Jvm.ClassFile.FieldType.int) ∈ gtb := gtb_at 967 (by decide +kernel) (by decide +kernel)
theorem m_F_rightOnes : c_M ⟨"WreckSky$Foresight", "rightOnes", "(LWreckSky$Sky;I[II)I"⟩ prog_2_method_16_code 7 (Option.some Jvm.ClassFile.FieldType.int) 4 := ⟨c_F_rightOnes, w_59, ⟨by decide +kernel, by decide +kernel, by decide +kernel⟩, by decide, plainFor_of_name (by decide +kernel)⟩
theorem c_M_copyAll : Cond.code ⟨"WreckSkyModel", "copyAll", "([I[I)V"⟩ prog_11_method_5_code 3 (Option.none : Option Jvm.ClassFile.FieldType) ∈ gtb := gtb_at 1441 (by decide +kernel) (by decide +kernel)
theorem m_M_copyAll : c_M ⟨"WreckSkyModel", "copyAll", "([I[I)V"⟩ prog_11_method_5_code 3 (Option.none : Option Jvm.ClassFile.FieldType) 2 := ⟨c_M_copyAll, w_64, ⟨by decide +kernel, by decide +kernel, by decide +kernel⟩, by decide, plainFor_of_name (by decide +kernel)⟩
theorem c_S_becomeAs : Cond.code ⟨"WreckSky$Sky", "becomeAs", "(LWreckSky$Sky;)V"⟩ prog_5_method_2_code 3 (Option.none : Option Jvm.ClassFile.FieldType) ∈ gtb := gtb_at 523 (by decide +kernel) (by decide +kernel)
theorem m_S_becomeAs : c_M ⟨"WreckSky$Sky", "becomeAs", "(LWreckSky$Sky;)V"⟩ prog_5_method_2_code 3 (Option.none : Option Jvm.ClassFile.FieldType) 1 := ⟨c_S_becomeAs, w_57, ⟨by decide +kernel, by decide +kernel, by decide +kernel⟩, by decide, plainFor_of_name (by decide +kernel)⟩
theorem c_K_init : Cond.code ⟨"WreckSky$Wreck", "<init>", "()V"⟩ prog_9_method_1_code 1 (Option.none : Option Jvm.ClassFile.FieldType) ∈ gtb := gtb_at 96 (by decide +kernel) (by decide +kernel)
theorem m_K_init : c_M ⟨"WreckSky$Wreck", "<init>", "()V"⟩ prog_9_method_1_code 1 (Option.none : Option Jvm.ClassFile.FieldType) 0 := ⟨c_K_init, w_58, ⟨by decide +kernel, by decide +kernel, by decide +kernel⟩, by decide, plainFor_of_name (by decide +kernel)⟩
theorem c_K_hardFrom : Cond.code ⟨"WreckSky$Wreck", "hardFrom", "(I)I"⟩ prog_9_method_4_code 2 (Option.some Jvm.ClassFile.FieldType.int) ∈ gtb := gtb_at 402 (by decide +kernel) (by decide +kernel)
theorem m_K_hardFrom : c_M ⟨"WreckSky$Wreck", "hardFrom", "(I)I"⟩ prog_9_method_4_code 2 (Option.some Jvm.ClassFile.FieldType.int) 1 := ⟨c_K_hardFrom, w_58, ⟨by decide +kernel, by decide +kernel, by decide +kernel⟩, by decide, plainFor_of_name (by decide +kernel)⟩
theorem c_S_draw : Cond.code ⟨"WreckSky$Sky", "draw", "()I"⟩ prog_5_method_8_code 1 (Option.some Jvm.ClassFile.FieldType.int) ∈ gtb := gtb_at 459 (by decide +kernel) (by decide +kernel)
theorem m_S_draw : c_M ⟨"WreckSky$Sky", "draw", "()I"⟩ prog_5_method_8_code 1 (Option.some Jvm.ClassFile.FieldType.int) 0 := ⟨c_S_draw, w_57, ⟨by decide +kernel, by decide +kernel, by decide +kernel⟩, by decide, plainFor_of_name (by decide +kernel)⟩
theorem c_S_goAll : Cond.code ⟨"WreckSky$Sky", "goAll", "()V"⟩ prog_5_method_11_code 3 (Option.none : Option Jvm.ClassFile.FieldType) ∈ gtb := gtb_at 477 (by decide +kernel) (by decide +kernel)
theorem m_S_goAll : c_M ⟨"WreckSky$Sky", "goAll", "()V"⟩ prog_5_method_11_code 3 (Option.none : Option Jvm.ClassFile.FieldType) 0 := ⟨c_S_goAll, w_57, ⟨by decide +kernel, by decide +kernel, by decide +kernel⟩, by decide, plainFor_of_name (by decide +kernel)⟩
theorem c_S_meetAll : Cond.code ⟨"WreckSky$Sky", "meetAll", "()V"⟩ prog_5_method_12_code 6 (Option.none : Option Jvm.ClassFile.FieldType) ∈ gtb := gtb_at 485 (by decide +kernel) (by decide +kernel)
theorem m_S_meetAll : c_M ⟨"WreckSky$Sky", "meetAll", "()V"⟩ prog_5_method_12_code 6 (Option.none : Option Jvm.ClassFile.FieldType) 0 := ⟨c_S_meetAll, w_57, ⟨by decide +kernel, by decide +kernel, by decide +kernel⟩, by decide, plainFor_of_name (by decide +kernel)⟩
theorem c_S_sinkByLot : Cond.code ⟨"WreckSky$Sky", "sinkByLot", "()V"⟩ prog_5_method_14_code 2 (Option.none : Option Jvm.ClassFile.FieldType) ∈ gtb := gtb_at 495 (by decide +kernel) (by decide +kernel)
theorem m_S_sinkByLot : c_M ⟨"WreckSky$Sky", "sinkByLot", "()V"⟩ prog_5_method_14_code 2 (Option.none : Option Jvm.ClassFile.FieldType) 0 := ⟨c_S_sinkByLot, w_57, ⟨by decide +kernel, by decide +kernel, by decide +kernel⟩, by decide, plainFor_of_name (by decide +kernel)⟩
theorem c_M_doMeet : Cond.code ⟨"WreckSkyModel", "doMeet", "(II)Z"⟩ prog_11_method_30_code 3 (Option.some Jvm.ClassFile.FieldType.boolean) ∈ gtb := gtb_at 1232 (by decide +kernel) (by decide +kernel)
theorem m_M_doMeet : c_M ⟨"WreckSkyModel", "doMeet", "(II)Z"⟩ prog_11_method_30_code 3 (Option.some Jvm.ClassFile.FieldType.boolean) 2 := ⟨c_M_doMeet, w_64, ⟨by decide +kernel, by decide +kernel, by decide +kernel⟩, by decide, plainFor_of_name (by decide +kernel)⟩
theorem c_M_breaks : Cond.code ⟨"WreckSkyModel", "breaks", "(I)V"⟩ prog_11_method_29_code 4 (Option.none : Option Jvm.ClassFile.FieldType) ∈ gtb := gtb_at 1236 (by decide +kernel) (by decide +kernel)
theorem m_M_breaks : c_M ⟨"WreckSkyModel", "breaks", "(I)V"⟩ prog_11_method_29_code 4 (Option.none : Option Jvm.ClassFile.FieldType) 1 := ⟨c_M_breaks, w_64, ⟨by decide +kernel, by decide +kernel, by decide +kernel⟩, by decide, plainFor_of_name (by decide +kernel)⟩
theorem c_M_sinks : Cond.code ⟨"WreckSkyModel", "sinks", "(I)V"⟩ prog_11_method_31_code 2 (Option.none : Option Jvm.ClassFile.FieldType) ∈ gtb := gtb_at 1240 (by decide +kernel) (by decide +kernel)
theorem m_M_sinks : c_M ⟨"WreckSkyModel", "sinks", "(I)V"⟩ prog_11_method_31_code 2 (Option.none : Option Jvm.ClassFile.FieldType) 1 := ⟨c_M_sinks, w_64, ⟨by decide +kernel, by decide +kernel, by decide +kernel⟩, by decide, plainFor_of_name (by decide +kernel)⟩
theorem c_JArrays_fill : Cond.code ⟨"java/util/Arrays", "fill", "([II)V"⟩ prog_20_method_103_code 4 (Option.none : Option Jvm.ClassFile.FieldType) ∈ gtb := gtb_at 553 (by decide +kernel) (by decide +kernel)
theorem m_JArrays_fill : c_M ⟨"java/util/Arrays", "fill", "([II)V"⟩ prog_20_method_103_code 4 (Option.none : Option Jvm.ClassFile.FieldType) 2 := ⟨c_JArrays_fill, w_68, ⟨by decide +kernel, by decide +kernel, by decide +kernel⟩, by decide, plainFor_of_name (by decide +kernel)⟩
theorem c_F_blockAt : Cond.code ⟨"WreckSky$Foresight", "blockAt", "(I)V"⟩ prog_2_method_8_code 5 (Option.none : Option Jvm.ClassFile.FieldType) ∈ gtb := gtb_at 557 (by decide +kernel) (by decide +kernel)
theorem m_F_blockAt : c_M ⟨"WreckSky$Foresight", "blockAt", "(I)V"⟩ prog_2_method_8_code 5 (Option.none : Option Jvm.ClassFile.FieldType) 1 := ⟨c_F_blockAt, w_59, ⟨by decide +kernel, by decide +kernel, by decide +kernel⟩, by decide, plainFor_of_name (by decide +kernel)⟩
theorem c_F_chooseNone : Cond.code ⟨"WreckSky$Foresight", "chooseNone", "()V"⟩ prog_2_method_3_code 1 (Option.none : Option Jvm.ClassFile.FieldType) ∈ gtb := gtb_at 578 (by decide +kernel) (by decide +kernel)
theorem m_F_chooseNone : c_M ⟨"WreckSky$Foresight", "chooseNone", "()V"⟩ prog_2_method_3_code 1 (Option.none : Option Jvm.ClassFile.FieldType) 0 := ⟨c_F_chooseNone, w_59, ⟨by decide +kernel, by decide +kernel, by decide +kernel⟩, by decide, plainFor_of_name (by decide +kernel)⟩
theorem c_F_chooseIfLess : Cond.code ⟨"WreckSky$Foresight", "chooseIfLess", "(II)V"⟩ prog_2_method_4_code 3 (Option.none : Option Jvm.ClassFile.FieldType) ∈ gtb := gtb_at 582 (by decide +kernel) (by decide +kernel)
theorem m_F_chooseIfLess : c_M ⟨"WreckSky$Foresight", "chooseIfLess", "(II)V"⟩ prog_2_method_4_code 3 (Option.none : Option Jvm.ClassFile.FieldType) 2 := ⟨c_F_chooseIfLess, w_59, ⟨by decide +kernel, by decide +kernel, by decide +kernel⟩, by decide, plainFor_of_name (by decide +kernel)⟩
theorem c_S_upPlaces : Cond.code ⟨"WreckSky$Sky", "upPlaces", "()I"⟩ prog_5_method_18_code 3 (Option.some Jvm.ClassFile.FieldType.int) ∈ gtb := gtb_at 606 (by decide +kernel) (by decide +kernel)
theorem m_S_upPlaces : c_M ⟨"WreckSky$Sky", "upPlaces", "()I"⟩ prog_5_method_18_code 3 (Option.some Jvm.ClassFile.FieldType.int) 0 := ⟨c_S_upPlaces, w_57, ⟨by decide +kernel, by decide +kernel, by decide +kernel⟩, by decide, plainFor_of_name (by decide +kernel)⟩
theorem c_F_nearestNow : Cond.code ⟨"WreckSky$Foresight", "nearestNow", "(I)I"⟩ prog_2_method_14_code 6 (Option.some Jvm.ClassFile.FieldType.int) ∈ gtb := gtb_at 618 (by decide +kernel) (by decide +kernel)
theorem m_F_nearestNow : c_M ⟨"WreckSky$Foresight", "nearestNow", "(I)I"⟩ prog_2_method_14_code 6 (Option.some Jvm.ClassFile.FieldType.int) 1 := ⟨c_F_nearestNow, w_59, ⟨by decide +kernel, by decide +kernel, by decide +kernel⟩, by decide, plainFor_of_name (by decide +kernel)⟩
theorem c_JMath_floorMod : Cond.code ⟨"java/lang/Math", "floorMod", "(II)I"⟩ prog_15_method_50_code 3 (Option.some Jvm.ClassFile.FieldType.int) ∈ gtb := gtb_at 481 (by decide +kernel) (by decide +kernel)
theorem m_JMath_floorMod : c_M ⟨"java/lang/Math", "floorMod", "(II)I"⟩ prog_15_method_50_code 3 (Option.some Jvm.ClassFile.FieldType.int) 2 := ⟨c_JMath_floorMod, w_66, ⟨by decide +kernel, by decide +kernel, by decide +kernel⟩, by decide, by decide +kernel⟩
theorem c_W_wayRound : Cond.code ⟨"WreckSky", "wayRound", "(II)I"⟩ prog_1_method_46_code 3 (Option.some Jvm.ClassFile.FieldType.int) ∈ gtb := gtb_at 621 (by decide +kernel) (by decide +kernel)
theorem m_W_wayRound : c_M ⟨"WreckSky", "wayRound", "(II)I"⟩ prog_1_method_46_code 3 (Option.some Jvm.ClassFile.FieldType.int) 2 := ⟨c_W_wayRound, w_56, ⟨by decide +kernel, by decide +kernel, by decide +kernel⟩, by decide, plainFor_of_name (by decide +kernel)⟩
theorem c_X_operand : Cond.code ⟨"WreckSky$Text", "operand", "(IIII)I"⟩ prog_8_method_3_code 4 (Option.some Jvm.ClassFile.FieldType.int) ∈ gtb := gtb_at 386 (by decide +kernel) (by decide +kernel)
theorem m_X_operand : c_M ⟨"WreckSky$Text", "operand", "(IIII)I"⟩ prog_8_method_3_code 4 (Option.some Jvm.ClassFile.FieldType.int) 4 := ⟨c_X_operand, w_65, ⟨by decide +kernel, by decide +kernel, by decide +kernel⟩, by decide, plainFor_of_name (by decide +kernel)⟩
theorem c_X_joined : Cond.code ⟨"WreckSky$Text", "joined", "(III)I"⟩ prog_8_method_4_code 3 (Option.some Jvm.ClassFile.FieldType.int) ∈ gtb := gtb_at 389 (by decide +kernel) (by decide +kernel)
theorem m_X_joined : c_M ⟨"WreckSky$Text", "joined", "(III)I"⟩ prog_8_method_4_code 3 (Option.some Jvm.ClassFile.FieldType.int) 3 := ⟨c_X_joined, w_65, ⟨by decide +kernel, by decide +kernel, by decide +kernel⟩, by decide, plainFor_of_name (by decide +kernel)⟩
theorem c_M_two : Cond.code ⟨"WreckSkyModel", "two", "(III)I"⟩ prog_11_method_72_code 3 (Option.some Jvm.ClassFile.FieldType.int) ∈ gtb := gtb_at 1148 (by decide +kernel) (by decide +kernel)
theorem m_M_two : c_M ⟨"WreckSkyModel", "two", "(III)I"⟩ prog_11_method_72_code 3 (Option.some Jvm.ClassFile.FieldType.int) 3 := ⟨c_M_two, w_64, ⟨by decide +kernel, by decide +kernel, by decide +kernel⟩, by decide, plainFor_of_name (by decide +kernel)⟩
theorem c_R_step : Cond.code ⟨"WreckSky$Reader", "step", "()V"⟩ prog_3_method_4_code 3 (Option.none : Option Jvm.ClassFile.FieldType) ∈ gtb := gtb_at 690 (by decide +kernel) (by decide +kernel)
theorem m_R_step : c_M ⟨"WreckSky$Reader", "step", "()V"⟩ prog_3_method_4_code 3 (Option.none : Option Jvm.ClassFile.FieldType) 0 := ⟨c_R_step, w_61, ⟨by decide +kernel, by decide +kernel, by decide +kernel⟩, by decide, plainFor_of_name (by decide +kernel)⟩
theorem c_R_readKey : Cond.code ⟨"WreckSky$Reader", "readKey", "()I"⟩ prog_3_method_6_code 2 (Option.some Jvm.ClassFile.FieldType.int) ∈ gtb := gtb_at 698 (by decide +kernel) (by decide +kernel)
theorem m_R_readKey : c_M ⟨"WreckSky$Reader", "readKey", "()I"⟩ prog_3_method_6_code 2 (Option.some Jvm.ClassFile.FieldType.int) 0 := ⟨c_R_readKey, w_61, ⟨by decide +kernel, by decide +kernel, by decide +kernel⟩, by decide, plainFor_of_name (by decide +kernel)⟩
theorem c_R_readLevel : Cond.code ⟨"WreckSky$Reader", "readLevel", "(III)V"⟩ prog_3_method_10_code 7 (Option.none : Option Jvm.ClassFile.FieldType) ∈ gtb := gtb_at 764 (by decide +kernel) (by decide +kernel)
theorem m_R_readLevel : c_M ⟨"WreckSky$Reader", "readLevel", "(III)V"⟩ prog_3_method_10_code 7 (Option.none : Option Jvm.ClassFile.FieldType) 3 := ⟨c_R_readLevel, w_61, ⟨by decide +kernel, by decide +kernel, by decide +kernel⟩, by decide, plainFor_of_name (by decide +kernel)⟩
theorem c_R_fail : Cond.code ⟨"WreckSky$Reader", "fail", "()V"⟩ prog_3_method_3_code 1 (Option.none : Option Jvm.ClassFile.FieldType) ∈ gtb := gtb_at 760 (by decide +kernel) (by decide +kernel)
theorem m_R_fail : c_M ⟨"WreckSky$Reader", "fail", "()V"⟩ prog_3_method_3_code 1 (Option.none : Option Jvm.ClassFile.FieldType) 0 := ⟨c_R_fail, w_61, ⟨by decide +kernel, by decide +kernel, by decide +kernel⟩, by decide, plainFor_of_name (by decide +kernel)⟩
theorem c_JArrays_copyOf : Cond.code ⟨"java/util/Arrays", "copyOf", "([II)[I"⟩ prog_20_method_123_code 3 (Option.some (Jvm.ClassFile.FieldType.array Jvm.ClassFile.FieldType.int)) ∈ gtb := gtb_at 848 (by decide +kernel) (by decide +kernel)
theorem m_JArrays_copyOf : c_M ⟨"java/util/Arrays", "copyOf", "([II)[I"⟩ prog_20_method_123_code 3 (Option.some (Jvm.ClassFile.FieldType.array Jvm.ClassFile.FieldType.int)) 2 := ⟨c_JArrays_copyOf, w_68, ⟨by decide +kernel, by decide +kernel, by decide +kernel⟩, by decide, plainFor_of_name (by decide +kernel)⟩
theorem c_X_init : Cond.code ⟨"WreckSky$Text", "<init>", "(II[I)V"⟩ prog_8_method_1_code 4 (Option.none : Option Jvm.ClassFile.FieldType) ∈ gtb := gtb_at 862 (by decide +kernel) (by decide +kernel)
theorem m_X_init : c_M ⟨"WreckSky$Text", "<init>", "(II[I)V"⟩ prog_8_method_1_code 4 (Option.none : Option Jvm.ClassFile.FieldType) 3 := ⟨c_X_init, w_65, ⟨by decide +kernel, by decide +kernel, by decide +kernel⟩, by decide, plainFor_of_name (by decide +kernel)⟩
theorem c_M_isLetter : Cond.code ⟨"WreckSkyModel", "isLetter", "(I)Z"⟩ prog_11_method_57_code 2 (Option.some Jvm.ClassFile.FieldType.boolean) ∈ gtb := gtb_at 1344 (by decide +kernel) (by decide +kernel)
theorem m_M_isLetter : c_M ⟨"WreckSkyModel", "isLetter", "(I)Z"⟩ prog_11_method_57_code 2 (Option.some Jvm.ClassFile.FieldType.boolean) 1 := ⟨c_M_isLetter, w_64, ⟨by decide +kernel, by decide +kernel, by decide +kernel⟩, by decide, plainFor_of_name (by decide +kernel)⟩
theorem c_M_isFigure : Cond.code ⟨"WreckSkyModel", "isFigure", "(I)Z"⟩ prog_11_method_58_code 2 (Option.some Jvm.ClassFile.FieldType.boolean) ∈ gtb := gtb_at 1348 (by decide +kernel) (by decide +kernel)
theorem m_M_isFigure : c_M ⟨"WreckSkyModel", "isFigure", "(I)Z"⟩ prog_11_method_58_code 2 (Option.some Jvm.ClassFile.FieldType.boolean) 1 := ⟨c_M_isFigure, w_64, ⟨by decide +kernel, by decide +kernel, by decide +kernel⟩, by decide, plainFor_of_name (by decide +kernel)⟩
theorem c_M_takesPart : Cond.code ⟨"WreckSkyModel", "takesPart", "()Z"⟩ prog_11_method_65_code 2 (Option.some Jvm.ClassFile.FieldType.boolean) ∈ gtb := gtb_at 1360 (by decide +kernel) (by decide +kernel)
theorem m_M_takesPart : c_M ⟨"WreckSkyModel", "takesPart", "()Z"⟩ prog_11_method_65_code 2 (Option.some Jvm.ClassFile.FieldType.boolean) 0 := ⟨c_M_takesPart, w_64, ⟨by decide +kernel, by decide +kernel, by decide +kernel⟩, by decide, plainFor_of_name (by decide +kernel)⟩
theorem c_M_notsOpen : Cond.code ⟨"WreckSkyModel", "notsOpen", "()I"⟩ prog_11_method_67_code 3 (Option.some Jvm.ClassFile.FieldType.int) ∈ gtb := gtb_at 1375 (by decide +kernel) (by decide +kernel)
theorem m_M_notsOpen : c_M ⟨"WreckSkyModel", "notsOpen", "()I"⟩ prog_11_method_67_code 3 (Option.some Jvm.ClassFile.FieldType.int) 0 := ⟨c_M_notsOpen, w_64, ⟨by decide +kernel, by decide +kernel, by decide +kernel⟩, by decide, plainFor_of_name (by decide +kernel)⟩
theorem c_M_settle : Cond.code ⟨"WreckSkyModel", "settle", "(I)V"⟩ prog_11_method_63_code 2 (Option.none : Option Jvm.ClassFile.FieldType) ∈ gtb := gtb_at 1368 (by decide +kernel) (by decide +kernel)
theorem m_M_settle : c_M ⟨"WreckSkyModel", "settle", "(I)V"⟩ prog_11_method_63_code 2 (Option.none : Option Jvm.ClassFile.FieldType) 1 := ⟨c_M_settle, w_64, ⟨by decide +kernel, by decide +kernel, by decide +kernel⟩, by decide, plainFor_of_name (by decide +kernel)⟩
theorem c_M_signHere : Cond.code ⟨"WreckSkyModel", "signHere", "()I"⟩ prog_11_method_64_code 1 (Option.some Jvm.ClassFile.FieldType.int) ∈ gtb := gtb_at 1379 (by decide +kernel) (by decide +kernel)
theorem m_M_signHere : c_M ⟨"WreckSkyModel", "signHere", "()I"⟩ prog_11_method_64_code 1 (Option.some Jvm.ClassFile.FieldType.int) 0 := ⟨c_M_signHere, w_64, ⟨by decide +kernel, by decide +kernel, by decide +kernel⟩, by decide, plainFor_of_name (by decide +kernel)⟩
theorem c_M_rank : Cond.code ⟨"WreckSkyModel", "rank", "(I)I"⟩ prog_11_method_62_code 1 (Option.some Jvm.ClassFile.FieldType.int) ∈ gtb := gtb_at 1371 (by decide +kernel) (by decide +kernel)
theorem m_M_rank : c_M ⟨"WreckSkyModel", "rank", "(I)I"⟩ prog_11_method_62_code 1 (Option.some Jvm.ClassFile.FieldType.int) 1 := ⟨c_M_rank, w_64, ⟨by decide +kernel, by decide +kernel, by decide +kernel⟩, by decide, plainFor_of_name (by decide +kernel)⟩
theorem c_JMath_max : Cond.code ⟨"java/lang/Math", "max", "(II)I"⟩ prog_15_method_65_code 2 (Option.some Jvm.ClassFile.FieldType.int) ∈ gtb := gtb_at 398 (by decide +kernel) (by decide +kernel)
theorem m_JMath_max : c_M ⟨"java/lang/Math", "max", "(II)I"⟩ prog_15_method_65_code 2 (Option.some Jvm.ClassFile.FieldType.int) 2 := ⟨c_JMath_max, w_66, ⟨by decide +kernel, by decide +kernel, by decide +kernel⟩, by decide, by decide +kernel⟩
theorem c_S_upPlaceSum : Cond.code ⟨"WreckSky$Sky", "upPlaceSum", "()I"⟩ prog_5_method_19_code 3 (Option.some Jvm.ClassFile.FieldType.int) ∈ gtb := gtb_at 971 (by decide +kernel) (by decide +kernel)
theorem m_S_upPlaceSum : c_M ⟨"WreckSky$Sky", "upPlaceSum", "()I"⟩ prog_5_method_19_code 3 (Option.some Jvm.ClassFile.FieldType.int) 0 := ⟨c_S_upPlaceSum, w_57, ⟨by decide +kernel, by decide +kernel, by decide +kernel⟩, by decide, plainFor_of_name (by decide +kernel)⟩
theorem c_S_breakUp : Cond.code ⟨"WreckSky$Sky", "breakUp", "(LWreckSky$Wreck;)V"⟩ prog_5_method_13_code 3 (Option.none : Option Jvm.ClassFile.FieldType) ∈ gtb := gtb_at 490 (by decide +kernel) (by decide +kernel)
theorem m_S_breakUp : c_M ⟨"WreckSky$Sky", "breakUp", "(LWreckSky$Wreck;)V"⟩ prog_5_method_13_code 3 (Option.none : Option Jvm.ClassFile.FieldType) 1 := ⟨c_S_breakUp, w_57, ⟨by decide +kernel, by decide +kernel, by decide +kernel⟩, by decide, plainFor_of_name (by decide +kernel)⟩
theorem c_JMath_abs : Cond.code ⟨"java/lang/Math", "abs", "(I)I"⟩ prog_15_method_59_code 1 (Option.some Jvm.ClassFile.FieldType.int) ∈ gtb := gtb_at 624 (by decide +kernel) (by decide +kernel)
theorem m_JMath_abs : c_M ⟨"java/lang/Math", "abs", "(I)I"⟩ prog_15_method_59_code 1 (Option.some Jvm.ClassFile.FieldType.int) 1 := ⟨c_JMath_abs, w_66, ⟨by decide +kernel, by decide +kernel, by decide +kernel⟩, by decide, by decide +kernel⟩
theorem c_R_sortOf : Cond.code ⟨"WreckSky$Reader", "sortOf", "(I)I"⟩ prog_3_method_5_code 1 (Option.some Jvm.ClassFile.FieldType.int) ∈ gtb := gtb_at 693 (by decide +kernel) (by decide +kernel)
theorem m_R_sortOf : c_M ⟨"WreckSky$Reader", "sortOf", "(I)I"⟩ prog_3_method_5_code 1 (Option.some Jvm.ClassFile.FieldType.int) 1 := ⟨c_R_sortOf, w_61, ⟨by decide +kernel, by decide +kernel, by decide +kernel⟩, by decide, plainFor_of_name (by decide +kernel)⟩
theorem c_R_isWord : Cond.code ⟨"WreckSky$Reader", "isWord", "(Ljava/lang/String;)Z"⟩ prog_3_method_7_code 3 (Option.some Jvm.ClassFile.FieldType.boolean) ∈ gtb := gtb_at 704 (by decide +kernel) (by decide +kernel)
theorem m_R_isWord : c_M ⟨"WreckSky$Reader", "isWord", "(Ljava/lang/String;)Z"⟩ prog_3_method_7_code 3 (Option.some Jvm.ClassFile.FieldType.boolean) 1 := ⟨c_R_isWord, w_61, ⟨by decide +kernel, by decide +kernel, by decide +kernel⟩, by decide, plainFor_of_name (by decide +kernel)⟩
theorem c_R_readPiece : Cond.code ⟨"WreckSky$Reader", "readPiece", "(II)V"⟩ prog_3_method_11_code 3 (Option.none : Option Jvm.ClassFile.FieldType) ∈ gtb := gtb_at 768 (by decide +kernel) (by decide +kernel)
theorem m_R_readPiece : c_M ⟨"WreckSky$Reader", "readPiece", "(II)V"⟩ prog_3_method_11_code 3 (Option.none : Option Jvm.ClassFile.FieldType) 2 := ⟨c_R_readPiece, w_61, ⟨by decide +kernel, by decide +kernel, by decide +kernel⟩, by decide, plainFor_of_name (by decide +kernel)⟩
theorem c_R_joinsAt : Cond.code ⟨"WreckSky$Reader", "joinsAt", "(I)Z"⟩ prog_3_method_9_code 2 (Option.some Jvm.ClassFile.FieldType.boolean) ∈ gtb := gtb_at 843 (by decide +kernel) (by decide +kernel)
theorem m_R_joinsAt : c_M ⟨"WreckSky$Reader", "joinsAt", "(I)Z"⟩ prog_3_method_9_code 2 (Option.some Jvm.ClassFile.FieldType.boolean) 1 := ⟨c_R_joinsAt, w_61, ⟨by decide +kernel, by decide +kernel, by decide +kernel⟩, by decide, plainFor_of_name (by decide +kernel)⟩
theorem c_R_put : Cond.code ⟨"WreckSky$Reader", "put", "(I)V"⟩ prog_3_method_14_code 2 (Option.none : Option Jvm.ClassFile.FieldType) ∈ gtb := gtb_at 776 (by decide +kernel) (by decide +kernel)
theorem m_R_put : c_M ⟨"WreckSky$Reader", "put", "(I)V"⟩ prog_3_method_14_code 2 (Option.none : Option Jvm.ClassFile.FieldType) 1 := ⟨c_R_put, w_61, ⟨by decide +kernel, by decide +kernel, by decide +kernel⟩, by decide, plainFor_of_name (by decide +kernel)⟩
theorem c_M_nameOf : Cond.code ⟨"WreckSkyModel", "nameOf", "(I)I"⟩ prog_11_method_61_code 2 (Option.some Jvm.ClassFile.FieldType.int) ∈ gtb := gtb_at 1364 (by decide +kernel) (by decide +kernel)
theorem m_M_nameOf : c_M ⟨"WreckSkyModel", "nameOf", "(I)I"⟩ prog_11_method_61_code 2 (Option.some Jvm.ClassFile.FieldType.int) 1 := ⟨c_M_nameOf, w_64, ⟨by decide +kernel, by decide +kernel, by decide +kernel⟩, by decide, plainFor_of_name (by decide +kernel)⟩
theorem c_JSt_length : Cond.code ⟨"java/lang/String", "length", "()I"⟩ prog_16_method_54_code 1 (Option.some Jvm.ClassFile.FieldType.int) ∈ gtb := gtb_at 708 (by decide +kernel) (by decide +kernel)
theorem m_JSt_length : c_M ⟨"java/lang/String", "length", "()I"⟩ prog_16_method_54_code 1 (Option.some Jvm.ClassFile.FieldType.int) 0 := ⟨c_JSt_length, w_69, ⟨by decide +kernel, by decide +kernel, by decide +kernel⟩, by decide, plainFor_of_name (by decide +kernel)⟩
theorem c_JSt_charAt : Cond.code ⟨"java/lang/String", "charAt", "(I)C"⟩ prog_16_method_56_code 2 (Option.some Jvm.ClassFile.FieldType.char) ∈ gtb := gtb_at 718 (by decide +kernel) (by decide +kernel)
theorem m_JSt_charAt : c_M ⟨"java/lang/String", "charAt", "(I)C"⟩ prog_16_method_56_code 2 (Option.some Jvm.ClassFile.FieldType.char) 1 := ⟨c_JSt_charAt, w_69, ⟨by decide +kernel, by decide +kernel, by decide +kernel⟩, by decide, plainFor_of_name (by decide +kernel)⟩
theorem c_R_readNumber : Cond.code ⟨"WreckSky$Reader", "readNumber", "()V"⟩ prog_3_method_12_code 3 (Option.none : Option Jvm.ClassFile.FieldType) ∈ gtb := gtb_at 772 (by decide +kernel) (by decide +kernel)
theorem m_R_readNumber : c_M ⟨"WreckSky$Reader", "readNumber", "()V"⟩ prog_3_method_12_code 3 (Option.none : Option Jvm.ClassFile.FieldType) 0 := ⟨c_R_readNumber, w_61, ⟨by decide +kernel, by decide +kernel, by decide +kernel⟩, by decide, plainFor_of_name (by decide +kernel)⟩
theorem c_R_readName : Cond.code ⟨"WreckSky$Reader", "readName", "()V"⟩ prog_3_method_13_code 2 (Option.none : Option Jvm.ClassFile.FieldType) ∈ gtb := gtb_at 780 (by decide +kernel) (by decide +kernel)
theorem m_R_readName : c_M ⟨"WreckSky$Reader", "readName", "()V"⟩ prog_3_method_13_code 2 (Option.none : Option Jvm.ClassFile.FieldType) 0 := ⟨c_R_readName, w_61, ⟨by decide +kernel, by decide +kernel, by decide +kernel⟩, by decide, plainFor_of_name (by decide +kernel)⟩
theorem c_R_isSign : Cond.code ⟨"WreckSky$Reader", "isSign", "(I)Z"⟩ prog_3_method_8_code 2 (Option.some Jvm.ClassFile.FieldType.boolean) ∈ gtb := gtb_at 839 (by decide +kernel) (by decide +kernel)
theorem m_R_isSign : c_M ⟨"WreckSky$Reader", "isSign", "(I)Z"⟩ prog_3_method_8_code 2 (Option.some Jvm.ClassFile.FieldType.boolean) 1 := ⟨c_R_isSign, w_61, ⟨by decide +kernel, by decide +kernel, by decide +kernel⟩, by decide, plainFor_of_name (by decide +kernel)⟩
theorem c_JSt_coder : Cond.code ⟨"java/lang/String", "coder", "()B"⟩ prog_16_method_152_code 1 (Option.some Jvm.ClassFile.FieldType.byte) ∈ gtb := gtb_at 712 (by decide +kernel) (by decide +kernel)
theorem m_JSt_coder : c_M ⟨"java/lang/String", "coder", "()B"⟩ prog_16_method_152_code 1 (Option.some Jvm.ClassFile.FieldType.byte) 0 := ⟨c_JSt_coder, w_69, ⟨by decide +kernel, by decide +kernel, by decide +kernel⟩, by decide, plainFor_of_name (by decide +kernel)⟩
theorem c_JSt_isLatin1 : Cond.code ⟨"java/lang/String", "isLatin1", "()Z"⟩ prog_16_method_154_code 1 (Option.some Jvm.ClassFile.FieldType.boolean) ∈ gtb := gtb_at 722 (by decide +kernel) (by decide +kernel)
theorem m_JSt_isLatin1 : c_M ⟨"java/lang/String", "isLatin1", "()Z"⟩ prog_16_method_154_code 1 (Option.some Jvm.ClassFile.FieldType.boolean) 0 := ⟨c_JSt_isLatin1, w_69, ⟨by decide +kernel, by decide +kernel, by decide +kernel⟩, by decide, plainFor_of_name (by decide +kernel)⟩
theorem c_JStL_charAt : Cond.code ⟨"java/lang/StringLatin1", "charAt", "([BI)C"⟩ prog_17_method_2_code 2 (Option.some Jvm.ClassFile.FieldType.char) ∈ gtb := gtb_at 725 (by decide +kernel) (by decide +kernel)
theorem m_JStL_charAt : c_M ⟨"java/lang/StringLatin1", "charAt", "([BI)C"⟩ prog_17_method_2_code 2 (Option.some Jvm.ClassFile.FieldType.char) 2 := ⟨c_JStL_charAt, w_70, ⟨by decide +kernel, by decide +kernel, by decide +kernel⟩, by decide, plainFor_of_name (by decide +kernel)⟩
theorem c_JSt_indexOf : Cond.code ⟨"java/lang/String", "indexOf", "(I)I"⟩ prog_16_method_79_code 2 (Option.some Jvm.ClassFile.FieldType.int) ∈ gtb := gtb_at 784 (by decide +kernel) (by decide +kernel)
theorem m_JSt_indexOf : c_M ⟨"java/lang/String", "indexOf", "(I)I"⟩ prog_16_method_79_code 2 (Option.some Jvm.ClassFile.FieldType.int) 1 := ⟨c_JSt_indexOf, w_69, ⟨by decide +kernel, by decide +kernel, by decide +kernel⟩, by decide, plainFor_of_name (by decide +kernel)⟩
theorem c_JSt_checkIndex : Cond.code ⟨"java/lang/String", "checkIndex", "(II)V"⟩ prog_16_method_155_code 2 (Option.none : Option Jvm.ClassFile.FieldType) ∈ gtb := gtb_at 728 (by decide +kernel) (by decide +kernel)
theorem m_JSt_checkIndex : c_M ⟨"java/lang/String", "checkIndex", "(II)V"⟩ prog_16_method_155_code 2 (Option.none : Option Jvm.ClassFile.FieldType) 2 := ⟨c_JSt_checkIndex, w_69, ⟨by decide +kernel, by decide +kernel, by decide +kernel⟩, by decide, plainFor_of_name (by decide +kernel)⟩
theorem c_JSt_indexOf2 : Cond.code ⟨"java/lang/String", "indexOf", "(II)I"⟩ prog_16_method_80_code 3 (Option.some Jvm.ClassFile.FieldType.int) ∈ gtb := gtb_at 788 (by decide +kernel) (by decide +kernel)
theorem m_JSt_indexOf2 : c_M ⟨"java/lang/String", "indexOf", "(II)I"⟩ prog_16_method_80_code 3 (Option.some Jvm.ClassFile.FieldType.int) 2 := ⟨c_JSt_indexOf2, w_69, ⟨by decide +kernel, by decide +kernel, by decide +kernel⟩, by decide, plainFor_of_name (by decide +kernel)⟩
theorem c_JPreconditions_checkIndex : Cond.code ⟨"jdk/internal/util/Preconditions", "checkIndex", "(IILjava/util/function/BiFunction;)I"⟩ prog_21_method_11_code 3 (Option.some Jvm.ClassFile.FieldType.int) ∈ gtb := gtb_at 733 (by decide +kernel) (by decide +kernel)
theorem m_JPreconditions_checkIndex : c_M ⟨"jdk/internal/util/Preconditions", "checkIndex", "(IILjava/util/function/BiFunction;)I"⟩ prog_21_method_11_code 3 (Option.some Jvm.ClassFile.FieldType.int) 3 := ⟨c_JPreconditions_checkIndex, w_71, ⟨by decide +kernel, by decide +kernel, by decide +kernel⟩, by decide, plainFor_of_name (by decide +kernel)⟩
theorem c_JStL_indexOf : Cond.code ⟨"java/lang/StringLatin1", "indexOf", "([BIII)I"⟩ prog_17_method_22_code 4 (Option.some Jvm.ClassFile.FieldType.int) ∈ gtb := gtb_at 792 (by decide +kernel) (by decide +kernel)
theorem m_JStL_indexOf : c_M ⟨"java/lang/StringLatin1", "indexOf", "([BIII)I"⟩ prog_17_method_22_code 4 (Option.some Jvm.ClassFile.FieldType.int) 4 := ⟨c_JStL_indexOf, w_70, ⟨by decide +kernel, by decide +kernel, by decide +kernel⟩, by decide, plainFor_of_name (by decide +kernel)⟩
theorem c_JStL_canEncode : Cond.code ⟨"java/lang/StringLatin1", "canEncode", "(I)Z"⟩ prog_17_method_4_code 1 (Option.some Jvm.ClassFile.FieldType.boolean) ∈ gtb := gtb_at 795 (by decide +kernel) (by decide +kernel)
theorem m_JStL_canEncode : c_M ⟨"java/lang/StringLatin1", "canEncode", "(I)Z"⟩ prog_17_method_4_code 1 (Option.some Jvm.ClassFile.FieldType.boolean) 1 := ⟨c_JStL_canEncode, w_70, ⟨by decide +kernel, by decide +kernel, by decide +kernel⟩, by decide, plainFor_of_name (by decide +kernel)⟩
theorem c_JStL_indexOfChar : Cond.code ⟨"java/lang/StringLatin1", "indexOfChar", "([BIII)I"⟩ prog_17_method_23_code 6 (Option.some Jvm.ClassFile.FieldType.int) ∈ gtb := gtb_at 800 (by decide +kernel) (by decide +kernel)
theorem m_JStL_indexOfChar : c_M ⟨"java/lang/StringLatin1", "indexOfChar", "([BIII)I"⟩ prog_17_method_23_code 6 (Option.some Jvm.ClassFile.FieldType.int) 4 := ⟨c_JStL_indexOfChar, w_70, ⟨by decide +kernel, by decide +kernel, by decide +kernel⟩, by decide, plainFor_of_name (by decide +kernel)⟩
def mtl : List (MethodName × ByteArray × Nat × Option FieldType) := [
  (⟨"WreckSkyLaw", "law", "([I)Z"⟩, code, maxLocals, ret),
  (⟨"WreckSky", "<init>", "()V"⟩, prog_1_method_1_code, 2, (Option.none : Option Jvm.ClassFile.FieldType)),
  (⟨"WreckSkyModel", "<init>", "()V"⟩, prog_11_method_1_code, 1, (Option.none : Option Jvm.ClassFile.FieldType)),
  (⟨"WreckSky", "wreck", "(IIIII)I"⟩, prog_1_method_2_code, 6, (Option.some Jvm.ClassFile.FieldType.int)),
  (⟨"WreckSkyModel", "wreck", "(IIIII)I"⟩, prog_11_method_13_code, 6, (Option.some Jvm.ClassFile.FieldType.int)),
  (⟨"WreckSky", "told", "(II)I"⟩, prog_1_method_3_code, 4, (Option.some Jvm.ClassFile.FieldType.int)),
  (⟨"WreckSkyModel", "told", "(II)I"⟩, prog_11_method_17_code, 3, (Option.some Jvm.ClassFile.FieldType.int)),
  (⟨"WreckSky", "as", "(II)I"⟩, prog_1_method_4_code, 4, (Option.some Jvm.ClassFile.FieldType.int)),
  (⟨"WreckSkyModel", "as", "(II)I"⟩, prog_11_method_19_code, 3, (Option.some Jvm.ClassFile.FieldType.int)),
  (⟨"WreckSky", "turns", "(II)I"⟩, prog_1_method_5_code, 5, (Option.some Jvm.ClassFile.FieldType.int)),
  (⟨"WreckSkyModel", "turns", "(II)I"⟩, prog_11_method_20_code, 3, (Option.some Jvm.ClassFile.FieldType.int)),
  (⟨"WreckSky", "set", "(III)I"⟩, prog_1_method_6_code, 6, (Option.some Jvm.ClassFile.FieldType.int)),
  (⟨"WreckSkyModel", "set", "(III)I"⟩, prog_11_method_21_code, 4, (Option.some Jvm.ClassFile.FieldType.int)),
  (⟨"WreckSky", "sweep", "(I)I"⟩, prog_1_method_7_code, 3, (Option.some Jvm.ClassFile.FieldType.int)),
  (⟨"WreckSkyModel", "sweep", "(I)I"⟩, prog_11_method_22_code, 2, (Option.some Jvm.ClassFile.FieldType.int)),
  (⟨"WreckSky", "drag", "(I)I"⟩, prog_1_method_8_code, 3, (Option.some Jvm.ClassFile.FieldType.int)),
  (⟨"WreckSkyModel", "drag", "(I)I"⟩, prog_11_method_23_code, 2, (Option.some Jvm.ClassFile.FieldType.int)),
  (⟨"WreckSky", "at", "(II)I"⟩, prog_1_method_9_code, 6, (Option.some Jvm.ClassFile.FieldType.int)),
  (⟨"WreckSkyModel", "at", "(II)I"⟩, prog_11_method_25_code, 3, (Option.some Jvm.ClassFile.FieldType.int)),
  (⟨"WreckSky", "deal", "(I)I"⟩, prog_1_method_10_code, 4, (Option.some Jvm.ClassFile.FieldType.int)),
  (⟨"WreckSkyModel", "deal", "(I)I"⟩, prog_11_method_27_code, 8, (Option.some Jvm.ClassFile.FieldType.int)),
  (⟨"WreckSky", "seed", "(I)I"⟩, prog_1_method_11_code, 3, (Option.some Jvm.ClassFile.FieldType.int)),
  (⟨"WreckSkyModel", "seed", "(I)I"⟩, prog_11_method_28_code, 2, (Option.some Jvm.ClassFile.FieldType.int)),
  (⟨"WreckSky", "hours", "(I)I"⟩, prog_1_method_12_code, 3, (Option.some Jvm.ClassFile.FieldType.int)),
  (⟨"WreckSkyModel", "hours", "(I)I"⟩, prog_11_method_34_code, 3, (Option.some Jvm.ClassFile.FieldType.int)),
  (⟨"WreckSky", "sky", "(I)I"⟩, prog_1_method_13_code, 2, (Option.some Jvm.ClassFile.FieldType.int)),
  (⟨"WreckSkyModel", "sky", "(I)I"⟩, prog_11_method_36_code, 2, (Option.some Jvm.ClassFile.FieldType.int)),
  (⟨"WreckSky", "behind", "(II)I"⟩, prog_1_method_14_code, 4, (Option.some Jvm.ClassFile.FieldType.int)),
  (⟨"WreckSkyModel", "behind", "(II)I"⟩, prog_11_method_39_code, 4, (Option.some Jvm.ClassFile.FieldType.int)),
  (⟨"WreckSky", "first", "()I"⟩, prog_1_method_15_code, 1, (Option.some Jvm.ClassFile.FieldType.int)),
  (⟨"WreckSkyModel", "first", "()I"⟩, prog_11_method_40_code, 2, (Option.some Jvm.ClassFile.FieldType.int)),
  (⟨"WreckSky", "hole", "(I)I"⟩, prog_1_method_16_code, 2, (Option.some Jvm.ClassFile.FieldType.int)),
  (⟨"WreckSkyModel", "hole", "(I)I"⟩, prog_11_method_43_code, 2, (Option.some Jvm.ClassFile.FieldType.int)),
  (⟨"WreckSky", "open", "(I)I"⟩, prog_1_method_17_code, 4, (Option.some Jvm.ClassFile.FieldType.int)),
  (⟨"WreckSkyModel", "open", "(I)I"⟩, prog_11_method_44_code, 4, (Option.some Jvm.ClassFile.FieldType.int)),
  (⟨"WreckSky", "best", "(II)I"⟩, prog_1_method_18_code, 3, (Option.some Jvm.ClassFile.FieldType.int)),
  (⟨"WreckSkyModel", "best", "(II)I"⟩, prog_11_method_46_code, 7, (Option.some Jvm.ClassFile.FieldType.int)),
  (⟨"WreckSky", "push", "(III)I"⟩, prog_1_method_19_code, 4, (Option.some Jvm.ClassFile.FieldType.int)),
  (⟨"WreckSkyModel", "push", "(III)I"⟩, prog_11_method_47_code, 8, (Option.some Jvm.ClassFile.FieldType.int)),
  (⟨"WreckSky", "under", "(II)I"⟩, prog_1_method_20_code, 3, (Option.some Jvm.ClassFile.FieldType.int)),
  (⟨"WreckSkyModel", "under", "(II)I"⟩, prog_11_method_48_code, 6, (Option.some Jvm.ClassFile.FieldType.int)),
  (⟨"WreckSky", "nearest", "(II)I"⟩, prog_1_method_21_code, 3, (Option.some Jvm.ClassFile.FieldType.int)),
  (⟨"WreckSkyModel", "nearest", "(II)I"⟩, prog_11_method_51_code, 5, (Option.some Jvm.ClassFile.FieldType.int)),
  (⟨"WreckSky", "seen", "(II)I"⟩, prog_1_method_22_code, 3, (Option.some Jvm.ClassFile.FieldType.int)),
  (⟨"WreckSkyModel", "seen", "(II)I"⟩, prog_11_method_52_code, 7, (Option.some Jvm.ClassFile.FieldType.int)),
  (⟨"WreckSky", "fee", "()I"⟩, prog_1_method_23_code, 2, (Option.some Jvm.ClassFile.FieldType.int)),
  (⟨"WreckSkyModel", "fee", "()I"⟩, prog_11_method_53_code, 2, (Option.some Jvm.ClassFile.FieldType.int)),
  (⟨"WreckSky", "fine", "(I)I"⟩, prog_1_method_24_code, 4, (Option.some Jvm.ClassFile.FieldType.int)),
  (⟨"WreckSkyModel", "fine", "(I)I"⟩, prog_11_method_54_code, 3, (Option.some Jvm.ClassFile.FieldType.int)),
  (⟨"WreckSky", "feed", "(III)I"⟩, prog_1_method_25_code, 4, (Option.some Jvm.ClassFile.FieldType.int)),
  (⟨"WreckSkyModel", "feed", "(III)I"⟩, prog_11_method_55_code, 6, (Option.some Jvm.ClassFile.FieldType.int)),
  (⟨"WreckSky", "trim", "(I)I"⟩, prog_1_method_26_code, 2, (Option.some Jvm.ClassFile.FieldType.int)),
  (⟨"WreckSkyModel", "trim", "(I)I"⟩, prog_11_method_56_code, 2, (Option.some Jvm.ClassFile.FieldType.int)),
  (⟨"WreckSky", "text", "()I"⟩, prog_1_method_27_code, 2, (Option.some Jvm.ClassFile.FieldType.int)),
  (⟨"WreckSkyModel", "text", "()I"⟩, prog_11_method_68_code, 4, (Option.some Jvm.ClassFile.FieldType.int)),
  (⟨"WreckSky", "textTold", "(II)I"⟩, prog_1_method_28_code, 3, (Option.some Jvm.ClassFile.FieldType.int)),
  (⟨"WreckSkyModel", "textTold", "(II)I"⟩, prog_11_method_69_code, 3, (Option.some Jvm.ClassFile.FieldType.int)),
  (⟨"WreckSky", "why", "(I)I"⟩, prog_1_method_29_code, 3, (Option.some Jvm.ClassFile.FieldType.int)),
  (⟨"WreckSkyModel", "why", "(I)I"⟩, prog_11_method_71_code, 3, (Option.some Jvm.ClassFile.FieldType.int)),
  (⟨"WreckSky", "sheet", "(III)I"⟩, prog_1_method_30_code, 5, (Option.some Jvm.ClassFile.FieldType.int)),
  (⟨"WreckSkyModel", "sheet", "(III)I"⟩, prog_11_method_76_code, 5, (Option.some Jvm.ClassFile.FieldType.int)),
  (⟨"WreckSky", "mark", "(III)I"⟩, prog_1_method_31_code, 5, (Option.some Jvm.ClassFile.FieldType.int)),
  (⟨"WreckSkyModel", "mark", "(III)I"⟩, prog_11_method_77_code, 4, (Option.some Jvm.ClassFile.FieldType.int)),
  (⟨"WreckSky", "pour", "(I)I"⟩, prog_1_method_32_code, 6, (Option.some Jvm.ClassFile.FieldType.int)),
  (⟨"WreckSkyModel", "pour", "(I)I"⟩, prog_11_method_78_code, 6, (Option.some Jvm.ClassFile.FieldType.int)),
  (⟨"WreckSky", "reads", "(I)I"⟩, prog_1_method_33_code, 4, (Option.some Jvm.ClassFile.FieldType.int)),
  (⟨"WreckSkyModel", "reads", "(I)I"⟩, prog_11_method_79_code, 4, (Option.some Jvm.ClassFile.FieldType.int)),
  (⟨"WreckSky", "copy", "(IIIII)I"⟩, prog_1_method_34_code, 8, (Option.some Jvm.ClassFile.FieldType.int)),
  (⟨"WreckSkyModel", "copy", "(IIIII)I"⟩, prog_11_method_80_code, 7, (Option.some Jvm.ClassFile.FieldType.int)),
  (⟨"WreckSky", "lay", "(III)I"⟩, prog_1_method_35_code, 6, (Option.some Jvm.ClassFile.FieldType.int)),
  (⟨"WreckSkyModel", "lay", "(III)I"⟩, prog_11_method_81_code, 6, (Option.some Jvm.ClassFile.FieldType.int)),
  (⟨"WreckSky", "ask", "(II)I"⟩, prog_1_method_36_code, 5, (Option.some Jvm.ClassFile.FieldType.int)),
  (⟨"WreckSkyModel", "ask", "(II)I"⟩, prog_11_method_82_code, 3, (Option.some Jvm.ClassFile.FieldType.int)),
  (⟨"WreckSky", "item", "(II)I"⟩, prog_1_method_37_code, 5, (Option.some Jvm.ClassFile.FieldType.int)),
  (⟨"WreckSkyModel", "item", "(II)I"⟩, prog_11_method_83_code, 4, (Option.some Jvm.ClassFile.FieldType.int)),
  (⟨"WreckSky", "rest", "(II)I"⟩, prog_1_method_38_code, 4, (Option.some Jvm.ClassFile.FieldType.int)),
  (⟨"WreckSkyModel", "rest", "(II)I"⟩, prog_11_method_84_code, 3, (Option.some Jvm.ClassFile.FieldType.int)),
  (⟨"WreckSky", "tell", "(I)I"⟩, prog_1_method_39_code, 2, (Option.some Jvm.ClassFile.FieldType.int)),
  (⟨"WreckSkyModel", "tell", "(I)I"⟩, prog_11_method_85_code, 2, (Option.some Jvm.ClassFile.FieldType.int)),
  (⟨"WreckSky", "check", "(I)I"⟩, prog_1_method_40_code, 5, (Option.some Jvm.ClassFile.FieldType.int)),
  (⟨"WreckSkyModel", "check", "(I)I"⟩, prog_11_method_86_code, 6, (Option.some Jvm.ClassFile.FieldType.int)),
  (⟨"WreckSky", "keep", "()I"⟩, prog_1_method_41_code, 1, (Option.some Jvm.ClassFile.FieldType.int)),
  (⟨"WreckSkyModel", "keep", "()I"⟩, prog_11_method_87_code, 1, (Option.some Jvm.ClassFile.FieldType.int)),
  (⟨"WreckSky", "back", "()I"⟩, prog_1_method_42_code, 1, (Option.some Jvm.ClassFile.FieldType.int)),
  (⟨"WreckSkyModel", "back", "()I"⟩, prog_11_method_88_code, 1, (Option.some Jvm.ClassFile.FieldType.int)),
  (⟨"WreckSky", "count", "(I)I"⟩, prog_1_method_43_code, 2, (Option.some Jvm.ClassFile.FieldType.int)),
  (⟨"WreckSkyModel", "count", "(I)I"⟩, prog_11_method_89_code, 2, (Option.some Jvm.ClassFile.FieldType.int)),
  (⟨"WreckSky$Sky", "<init>", "()V"⟩, prog_5_method_1_code, 2, (Option.none : Option Jvm.ClassFile.FieldType)),
  (⟨"WreckSky$Foresight", "<init>", "()V"⟩, prog_2_method_1_code, 1, (Option.none : Option Jvm.ClassFile.FieldType)),
  (⟨"WreckSky$Tape", "<init>", "()V"⟩, prog_7_method_1_code, 1, (Option.none : Option Jvm.ClassFile.FieldType)),
  (⟨"WreckSky$Reader", "<init>", "(LWreckSky$Tape;)V"⟩, prog_3_method_1_code, 2, (Option.none : Option Jvm.ClassFile.FieldType)),
  (⟨"WreckSky$Sheet", "<init>", "()V"⟩, prog_4_method_1_code, 1, (Option.none : Option Jvm.ClassFile.FieldType)),
  (⟨"WreckSky$Slot", "<init>", "()V"⟩, prog_6_method_1_code, 1, (Option.none : Option Jvm.ClassFile.FieldType)),
  (⟨"WreckSky", "isKind", "(I)Z"⟩, prog_1_method_47_code, 1, (Option.some Jvm.ClassFile.FieldType.boolean)),
  (⟨"WreckSky", "within", "(III)Z"⟩, prog_1_method_44_code, 3, (Option.some Jvm.ClassFile.FieldType.boolean)),
  (⟨"WreckSky", "isPlace", "(I)Z"⟩, prog_1_method_48_code, 1, (Option.some Jvm.ClassFile.FieldType.boolean)),
  (⟨"WreckSky$Sky", "addWreck", "(IIIII)Z"⟩, prog_5_method_4_code, 7, (Option.some Jvm.ClassFile.FieldType.boolean)),
  (⟨"WreckSkyModel", "in", "(III)Z"⟩, prog_11_method_2_code, 3, (Option.some Jvm.ClassFile.FieldType.boolean)),
  (⟨"WreckSkyModel", "isOf", "(II)Z"⟩, prog_11_method_12_code, 2, (Option.some Jvm.ClassFile.FieldType.boolean)),
  (⟨"WreckSkyModel", "comes", "(IIIII)I"⟩, prog_11_method_11_code, 7, (Option.some Jvm.ClassFile.FieldType.int)),
  (⟨"WreckSky$Sky", "hasWreck", "(I)Z"⟩, prog_5_method_3_code, 2, (Option.some Jvm.ClassFile.FieldType.boolean)),
  (⟨"WreckSky$Sky", "hardOf", "(LWreckSky$Wreck;)I"⟩, prog_5_method_7_code, 4, (Option.some Jvm.ClassFile.FieldType.int)),
  (⟨"WreckSky$Wreck", "goesAt", "(I)I"⟩, prog_9_method_5_code, 2, (Option.some Jvm.ClassFile.FieldType.int)),
  (⟨"WreckSky$Wreck", "worth", "()I"⟩, prog_9_method_6_code, 1, (Option.some Jvm.ClassFile.FieldType.int)),
  (⟨"WreckSkyModel", "isWreck", "(I)Z"⟩, prog_11_method_6_code, 2, (Option.some Jvm.ClassFile.FieldType.boolean)),
  (⟨"WreckSkyModel", "of", "(II)I"⟩, prog_11_method_7_code, 3, (Option.some Jvm.ClassFile.FieldType.int)),
  (⟨"WreckSkyModel", "hardOf", "(I)I"⟩, prog_11_method_14_code, 4, (Option.some Jvm.ClassFile.FieldType.int)),
  (⟨"WreckSkyModel", "goesOf", "(I)I"⟩, prog_11_method_15_code, 3, (Option.some Jvm.ClassFile.FieldType.int)),
  (⟨"WreckSkyModel", "worthOf", "(I)I"⟩, prog_11_method_16_code, 3, (Option.some Jvm.ClassFile.FieldType.int)),
  (⟨"WreckSky$Wreck", "isOf", "(I)Z"⟩, prog_9_method_3_code, 4, (Option.some Jvm.ClassFile.FieldType.boolean)),
  (⟨"WreckSkyModel", "isUnder", "(II)Z"⟩, prog_11_method_18_code, 2, (Option.some Jvm.ClassFile.FieldType.boolean)),
  (⟨"WreckSkyModel", "becomes", "(II)I"⟩, prog_11_method_10_code, 4, (Option.some Jvm.ClassFile.FieldType.int)),
  (⟨"WreckSky", "fits", "(II)Z"⟩, prog_1_method_51_code, 2, (Option.some Jvm.ClassFile.FieldType.boolean)),
  (⟨"WreckSkyModel", "isUp", "(I)Z"⟩, prog_11_method_9_code, 2, (Option.some Jvm.ClassFile.FieldType.boolean)),
  (⟨"WreckSkyModel", "put", "(III)V"⟩, prog_11_method_8_code, 4, (Option.none : Option Jvm.ClassFile.FieldType)),
  (⟨"WreckSkyModel", "upAt", "(II)I"⟩, prog_11_method_24_code, 5, (Option.some Jvm.ClassFile.FieldType.int)),
  (⟨"java/lang/Math", "min", "(II)I"⟩, prog_15_method_69_code, 2, (Option.some Jvm.ClassFile.FieldType.int)),
  (⟨"WreckSky$Sky", "drawWreck", "()V"⟩, prog_5_method_9_code, 6, (Option.none : Option Jvm.ClassFile.FieldType)),
  (⟨"WreckSkyModel", "draw", "()I"⟩, prog_11_method_26_code, 1, (Option.some Jvm.ClassFile.FieldType.int)),
  (⟨"WreckSky$Sky", "passHours", "(I)V"⟩, prog_5_method_10_code, 3, (Option.none : Option Jvm.ClassFile.FieldType)),
  (⟨"WreckSkyModel", "within", "(III)I"⟩, prog_11_method_3_code, 3, (Option.some Jvm.ClassFile.FieldType.int)),
  (⟨"WreckSkyModel", "goesOn", "(I)V"⟩, prog_11_method_33_code, 3, (Option.none : Option Jvm.ClassFile.FieldType)),
  (⟨"WreckSky$Sky", "upSet", "()I"⟩, prog_5_method_15_code, 3, (Option.some Jvm.ClassFile.FieldType.int)),
  (⟨"WreckSky$Sky", "upMass", "()I"⟩, prog_5_method_16_code, 3, (Option.some Jvm.ClassFile.FieldType.int)),
  (⟨"WreckSky$Sky", "upHeights", "()I"⟩, prog_5_method_17_code, 3, (Option.some Jvm.ClassFile.FieldType.int)),
  (⟨"WreckSkyModel", "ups", "(I)I"⟩, prog_11_method_35_code, 4, (Option.some Jvm.ClassFile.FieldType.int)),
  (⟨"WreckSky$Foresight", "behindHours", "(LWreckSky$Sky;I)LWreckSky$Sky;"⟩, prog_2_method_5_code, 3, (Option.some (Jvm.ClassFile.FieldType.object "WreckSky$Sky"))),
  (⟨"java/lang/Integer", "bitCount", "(I)I"⟩, prog_14_method_49_code, 1, (Option.some Jvm.ClassFile.FieldType.int)),
  (⟨"WreckSkyModel", "thinks", "()V"⟩, prog_11_method_37_code, 2, (Option.none : Option Jvm.ClassFile.FieldType)),
  (⟨"WreckSkyModel", "putsBack", "()V"⟩, prog_11_method_38_code, 2, (Option.none : Option Jvm.ClassFile.FieldType)),
  (⟨"WreckSky$Foresight", "firstBreak", "(LWreckSky$Sky;)I"⟩, prog_2_method_6_code, 3, (Option.some Jvm.ClassFile.FieldType.int)),
  (⟨"WreckSkyModel", "hour", "()V"⟩, prog_11_method_32_code, 4, (Option.none : Option Jvm.ClassFile.FieldType)),
  (⟨"WreckSky$Foresight", "findHoles", "(LWreckSky$Sky;)V"⟩, prog_2_method_7_code, 3, (Option.none : Option Jvm.ClassFile.FieldType)),
  (⟨"WreckSky$Foresight", "holeOver", "(I)I"⟩, prog_2_method_9_code, 3, (Option.some Jvm.ClassFile.FieldType.int)),
  (⟨"WreckSkyModel", "looksUp", "()V"⟩, prog_11_method_41_code, 5, (Option.none : Option Jvm.ClassFile.FieldType)),
  (⟨"WreckSkyModel", "holeOf", "(I)I"⟩, prog_11_method_42_code, 5, (Option.some Jvm.ClassFile.FieldType.int)),
  (⟨"WreckSky$Foresight", "chooseSweep", "(LWreckSky$Sky;I)V"⟩, prog_2_method_10_code, 4, (Option.none : Option Jvm.ClassFile.FieldType)),
  (⟨"WreckSky$Foresight", "toldOf", "(I)I"⟩, prog_2_method_2_code, 2, (Option.some Jvm.ClassFile.FieldType.int)),
  (⟨"WreckSkyModel", "brokenBehind", "(I)I"⟩, prog_11_method_45_code, 3, (Option.some Jvm.ClassFile.FieldType.int)),
  (⟨"WreckSky$Foresight", "choosePace", "(LWreckSky$Sky;II)V"⟩, prog_2_method_11_code, 5, (Option.none : Option Jvm.ClassFile.FieldType)),
  (⟨"WreckSky$Foresight", "choosePlaceUnder", "(LWreckSky$Sky;I)V"⟩, prog_2_method_12_code, 6, (Option.none : Option Jvm.ClassFile.FieldType)),
  (⟨"WreckSky$Foresight", "nearestWay", "(LWreckSky$Sky;II)I"⟩, prog_2_method_13_code, 6, (Option.some Jvm.ClassFile.FieldType.int)),
  (⟨"WreckSkyModel", "nearer", "(II)I"⟩, prog_11_method_50_code, 6, (Option.some Jvm.ClassFile.FieldType.int)),
  (⟨"WreckSky", "isSheet", "(I)Z"⟩, prog_1_method_49_code, 1, (Option.some Jvm.ClassFile.FieldType.boolean)),
  (⟨"WreckSky$Sheet", "isMissing", "()Z"⟩, prog_4_method_4_code, 1, (Option.some Jvm.ClassFile.FieldType.boolean)),
  (⟨"WreckSky$Foresight", "chooseSeen", "(LWreckSky$Sky;LWreckSky$Sheet;)V"⟩, prog_2_method_15_code, 5, (Option.none : Option Jvm.ClassFile.FieldType)),
  (⟨"WreckSkyModel", "isSheet", "(I)Z"⟩, prog_11_method_74_code, 1, (Option.some Jvm.ClassFile.FieldType.boolean)),
  (⟨"WreckSkyModel", "round", "(I)I"⟩, prog_11_method_4_code, 2, (Option.some Jvm.ClassFile.FieldType.int)),
  (⟨"WreckSkyModel", "apart", "(II)I"⟩, prog_11_method_49_code, 3, (Option.some Jvm.ClassFile.FieldType.int)),
  (⟨"WreckSky$Sky", "textFor", "(I)I"⟩, prog_5_method_6_code, 3, (Option.some Jvm.ClassFile.FieldType.int)),
  (⟨"WreckSky$Text", "valueOf", "(III[I)I"⟩, prog_8_method_2_code, 8, (Option.some Jvm.ClassFile.FieldType.int)),
  (⟨"WreckSkyModel", "counts", "(I)I"⟩, prog_11_method_70_code, 3, (Option.some Jvm.ClassFile.FieldType.int)),
  (⟨"WreckSkyModel", "worksOut", "(I)I"⟩, prog_11_method_73_code, 6, (Option.some Jvm.ClassFile.FieldType.int)),
  (⟨"WreckSky$Tape", "hasRoomFor", "(I)Z"⟩, prog_7_method_2_code, 2, (Option.some Jvm.ClassFile.FieldType.boolean)),
  (⟨"WreckSky$Tape", "addBytes", "(I)V"⟩, prog_7_method_3_code, 3, (Option.none : Option Jvm.ClassFile.FieldType)),
  (⟨"WreckSky$Reader", "readTape", "()LWreckSky$Text;"⟩, prog_3_method_2_code, 2, (Option.some (Jvm.ClassFile.FieldType.object "WreckSky$Text"))),
  (⟨"WreckSky$Sky", "addText", "(LWreckSky$Text;)Z"⟩, prog_5_method_5_code, 2, (Option.some Jvm.ClassFile.FieldType.boolean)),
  (⟨"WreckSkyModel", "go", "()V"⟩, prog_11_method_59_code, 2, (Option.none : Option Jvm.ClassFile.FieldType)),
  (⟨"WreckSkyModel", "takesKey", "()Z"⟩, prog_11_method_60_code, 5, (Option.some Jvm.ClassFile.FieldType.boolean)),
  (⟨"WreckSkyModel", "takesE", "()Z"⟩, prog_11_method_66_code, 5, (Option.some Jvm.ClassFile.FieldType.boolean)),
  (⟨"WreckSky$Sheet", "becomeBlank", "(II)V"⟩, prog_4_method_2_code, 3, (Option.none : Option Jvm.ClassFile.FieldType)),
  (⟨"WreckSky$Sheet", "hasPlace", "(I)Z"⟩, prog_4_method_5_code, 2, (Option.some Jvm.ClassFile.FieldType.boolean)),
  (⟨"WreckSky$Sheet", "hasNumber", "(I)Z"⟩, prog_4_method_7_code, 2, (Option.some Jvm.ClassFile.FieldType.boolean)),
  (⟨"WreckSky", "held", "(III)I"⟩, prog_1_method_45_code, 3, (Option.some Jvm.ClassFile.FieldType.int)),
  (⟨"WreckSky$Sheet", "hasPlaces", "(II)Z"⟩, prog_4_method_6_code, 3, (Option.some Jvm.ClassFile.FieldType.boolean)),
  (⟨"WreckSky", "isSlot", "(I)Z"⟩, prog_1_method_50_code, 1, (Option.some Jvm.ClassFile.FieldType.boolean)),
  (⟨"WreckSky$Wreck", "becomeAs", "(LWreckSky$Wreck;)V"⟩, prog_9_method_2_code, 2, (Option.none : Option Jvm.ClassFile.FieldType)),
  (⟨"WreckSky$Sheet", "becomeAs", "(LWreckSky$Sheet;)V"⟩, prog_4_method_3_code, 2, (Option.none : Option Jvm.ClassFile.FieldType)),
  (⟨"WreckSkyModel", "isSlot", "(I)Z"⟩, prog_11_method_75_code, 1, (Option.some Jvm.ClassFile.FieldType.boolean)),
  (⟨"WreckSky", "findingUnless", "(II)I"⟩, prog_1_method_52_code, 4, (Option.some Jvm.ClassFile.FieldType.int)),
  (⟨"WreckSky$Foresight", "rightOnes", "(LWreckSky$Sky;I[II)I"⟩, prog_2_method_16_code, 7, (Option.some Jvm.ClassFile.FieldType.int)),
  (⟨"WreckSkyModel", "copyAll", "([I[I)V"⟩, prog_11_method_5_code, 3, (Option.none : Option Jvm.ClassFile.FieldType)),
  (⟨"WreckSky$Sky", "becomeAs", "(LWreckSky$Sky;)V"⟩, prog_5_method_2_code, 3, (Option.none : Option Jvm.ClassFile.FieldType)),
  (⟨"WreckSky$Wreck", "<init>", "()V"⟩, prog_9_method_1_code, 1, (Option.none : Option Jvm.ClassFile.FieldType)),
  (⟨"WreckSky$Wreck", "hardFrom", "(I)I"⟩, prog_9_method_4_code, 2, (Option.some Jvm.ClassFile.FieldType.int)),
  (⟨"WreckSky$Sky", "draw", "()I"⟩, prog_5_method_8_code, 1, (Option.some Jvm.ClassFile.FieldType.int)),
  (⟨"WreckSky$Sky", "goAll", "()V"⟩, prog_5_method_11_code, 3, (Option.none : Option Jvm.ClassFile.FieldType)),
  (⟨"WreckSky$Sky", "meetAll", "()V"⟩, prog_5_method_12_code, 6, (Option.none : Option Jvm.ClassFile.FieldType)),
  (⟨"WreckSky$Sky", "sinkByLot", "()V"⟩, prog_5_method_14_code, 2, (Option.none : Option Jvm.ClassFile.FieldType)),
  (⟨"WreckSkyModel", "doMeet", "(II)Z"⟩, prog_11_method_30_code, 3, (Option.some Jvm.ClassFile.FieldType.boolean)),
  (⟨"WreckSkyModel", "breaks", "(I)V"⟩, prog_11_method_29_code, 4, (Option.none : Option Jvm.ClassFile.FieldType)),
  (⟨"WreckSkyModel", "sinks", "(I)V"⟩, prog_11_method_31_code, 2, (Option.none : Option Jvm.ClassFile.FieldType)),
  (⟨"java/util/Arrays", "fill", "([II)V"⟩, prog_20_method_103_code, 4, (Option.none : Option Jvm.ClassFile.FieldType)),
  (⟨"WreckSky$Foresight", "blockAt", "(I)V"⟩, prog_2_method_8_code, 5, (Option.none : Option Jvm.ClassFile.FieldType)),
  (⟨"WreckSky$Foresight", "chooseNone", "()V"⟩, prog_2_method_3_code, 1, (Option.none : Option Jvm.ClassFile.FieldType)),
  (⟨"WreckSky$Foresight", "chooseIfLess", "(II)V"⟩, prog_2_method_4_code, 3, (Option.none : Option Jvm.ClassFile.FieldType)),
  (⟨"WreckSky$Sky", "upPlaces", "()I"⟩, prog_5_method_18_code, 3, (Option.some Jvm.ClassFile.FieldType.int)),
  (⟨"WreckSky$Foresight", "nearestNow", "(I)I"⟩, prog_2_method_14_code, 6, (Option.some Jvm.ClassFile.FieldType.int)),
  (⟨"java/lang/Math", "floorMod", "(II)I"⟩, prog_15_method_50_code, 3, (Option.some Jvm.ClassFile.FieldType.int)),
  (⟨"WreckSky", "wayRound", "(II)I"⟩, prog_1_method_46_code, 3, (Option.some Jvm.ClassFile.FieldType.int)),
  (⟨"WreckSky$Text", "operand", "(IIII)I"⟩, prog_8_method_3_code, 4, (Option.some Jvm.ClassFile.FieldType.int)),
  (⟨"WreckSky$Text", "joined", "(III)I"⟩, prog_8_method_4_code, 3, (Option.some Jvm.ClassFile.FieldType.int)),
  (⟨"WreckSkyModel", "two", "(III)I"⟩, prog_11_method_72_code, 3, (Option.some Jvm.ClassFile.FieldType.int)),
  (⟨"WreckSky$Reader", "step", "()V"⟩, prog_3_method_4_code, 3, (Option.none : Option Jvm.ClassFile.FieldType)),
  (⟨"WreckSky$Reader", "readKey", "()I"⟩, prog_3_method_6_code, 2, (Option.some Jvm.ClassFile.FieldType.int)),
  (⟨"WreckSky$Reader", "readLevel", "(III)V"⟩, prog_3_method_10_code, 7, (Option.none : Option Jvm.ClassFile.FieldType)),
  (⟨"WreckSky$Reader", "fail", "()V"⟩, prog_3_method_3_code, 1, (Option.none : Option Jvm.ClassFile.FieldType)),
  (⟨"java/util/Arrays", "copyOf", "([II)[I"⟩, prog_20_method_123_code, 3, (Option.some (Jvm.ClassFile.FieldType.array Jvm.ClassFile.FieldType.int))),
  (⟨"WreckSky$Text", "<init>", "(II[I)V"⟩, prog_8_method_1_code, 4, (Option.none : Option Jvm.ClassFile.FieldType)),
  (⟨"WreckSkyModel", "isLetter", "(I)Z"⟩, prog_11_method_57_code, 2, (Option.some Jvm.ClassFile.FieldType.boolean)),
  (⟨"WreckSkyModel", "isFigure", "(I)Z"⟩, prog_11_method_58_code, 2, (Option.some Jvm.ClassFile.FieldType.boolean)),
  (⟨"WreckSkyModel", "takesPart", "()Z"⟩, prog_11_method_65_code, 2, (Option.some Jvm.ClassFile.FieldType.boolean)),
  (⟨"WreckSkyModel", "notsOpen", "()I"⟩, prog_11_method_67_code, 3, (Option.some Jvm.ClassFile.FieldType.int)),
  (⟨"WreckSkyModel", "settle", "(I)V"⟩, prog_11_method_63_code, 2, (Option.none : Option Jvm.ClassFile.FieldType)),
  (⟨"WreckSkyModel", "signHere", "()I"⟩, prog_11_method_64_code, 1, (Option.some Jvm.ClassFile.FieldType.int)),
  (⟨"WreckSkyModel", "rank", "(I)I"⟩, prog_11_method_62_code, 1, (Option.some Jvm.ClassFile.FieldType.int)),
  (⟨"java/lang/Math", "max", "(II)I"⟩, prog_15_method_65_code, 2, (Option.some Jvm.ClassFile.FieldType.int)),
  (⟨"WreckSky$Sky", "upPlaceSum", "()I"⟩, prog_5_method_19_code, 3, (Option.some Jvm.ClassFile.FieldType.int)),
  (⟨"WreckSky$Sky", "breakUp", "(LWreckSky$Wreck;)V"⟩, prog_5_method_13_code, 3, (Option.none : Option Jvm.ClassFile.FieldType)),
  (⟨"java/lang/Math", "abs", "(I)I"⟩, prog_15_method_59_code, 1, (Option.some Jvm.ClassFile.FieldType.int)),
  (⟨"WreckSky$Reader", "sortOf", "(I)I"⟩, prog_3_method_5_code, 1, (Option.some Jvm.ClassFile.FieldType.int)),
  (⟨"WreckSky$Reader", "isWord", "(Ljava/lang/String;)Z"⟩, prog_3_method_7_code, 3, (Option.some Jvm.ClassFile.FieldType.boolean)),
  (⟨"WreckSky$Reader", "readPiece", "(II)V"⟩, prog_3_method_11_code, 3, (Option.none : Option Jvm.ClassFile.FieldType)),
  (⟨"WreckSky$Reader", "joinsAt", "(I)Z"⟩, prog_3_method_9_code, 2, (Option.some Jvm.ClassFile.FieldType.boolean)),
  (⟨"WreckSky$Reader", "put", "(I)V"⟩, prog_3_method_14_code, 2, (Option.none : Option Jvm.ClassFile.FieldType)),
  (⟨"WreckSkyModel", "nameOf", "(I)I"⟩, prog_11_method_61_code, 2, (Option.some Jvm.ClassFile.FieldType.int)),
  (⟨"java/lang/String", "length", "()I"⟩, prog_16_method_54_code, 1, (Option.some Jvm.ClassFile.FieldType.int)),
  (⟨"java/lang/String", "charAt", "(I)C"⟩, prog_16_method_56_code, 2, (Option.some Jvm.ClassFile.FieldType.char)),
  (⟨"WreckSky$Reader", "readNumber", "()V"⟩, prog_3_method_12_code, 3, (Option.none : Option Jvm.ClassFile.FieldType)),
  (⟨"WreckSky$Reader", "readName", "()V"⟩, prog_3_method_13_code, 2, (Option.none : Option Jvm.ClassFile.FieldType)),
  (⟨"WreckSky$Reader", "isSign", "(I)Z"⟩, prog_3_method_8_code, 2, (Option.some Jvm.ClassFile.FieldType.boolean)),
  (⟨"java/lang/String", "coder", "()B"⟩, prog_16_method_152_code, 1, (Option.some Jvm.ClassFile.FieldType.byte)),
  (⟨"java/lang/String", "isLatin1", "()Z"⟩, prog_16_method_154_code, 1, (Option.some Jvm.ClassFile.FieldType.boolean)),
  (⟨"java/lang/StringLatin1", "charAt", "([BI)C"⟩, prog_17_method_2_code, 2, (Option.some Jvm.ClassFile.FieldType.char)),
  (⟨"java/lang/String", "indexOf", "(I)I"⟩, prog_16_method_79_code, 2, (Option.some Jvm.ClassFile.FieldType.int)),
  (⟨"java/lang/String", "checkIndex", "(II)V"⟩, prog_16_method_155_code, 2, (Option.none : Option Jvm.ClassFile.FieldType)),
  (⟨"java/lang/String", "indexOf", "(II)I"⟩, prog_16_method_80_code, 3, (Option.some Jvm.ClassFile.FieldType.int)),
  (⟨"jdk/internal/util/Preconditions", "checkIndex", "(IILjava/util/function/BiFunction;)I"⟩, prog_21_method_11_code, 3, (Option.some Jvm.ClassFile.FieldType.int)),
  (⟨"java/lang/StringLatin1", "indexOf", "([BIII)I"⟩, prog_17_method_22_code, 4, (Option.some Jvm.ClassFile.FieldType.int)),
  (⟨"java/lang/StringLatin1", "canEncode", "(I)Z"⟩, prog_17_method_4_code, 1, (Option.some Jvm.ClassFile.FieldType.boolean)),
  (⟨"java/lang/StringLatin1", "indexOfChar", "([BIII)I"⟩, prog_17_method_23_code, 6, (Option.some Jvm.ClassFile.FieldType.int))]
def MT : mM := fun mi => mtl.getD mi (⟨"WreckSky", "", ""⟩, ⟨#[]⟩, 0, none)
