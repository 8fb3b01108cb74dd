/-! THROWS: their words, out of those of the tables that speak of exceptions -/
def th_ps : List Nat := [147, 148, 149, 150, 151, 152, 153, 154, 162, 163, 825, 826, 1029, 1030, 1031, 1032, 1033, 1034, 1035, 1036, 1037, 1038, 1039, 1040, 1041, 1042, 1043, 1044, 1045, 1046, 1047, 1048, 1049, 1050, 1051, 1052, 1053, 1054, 1055, 1056, 1057, 1058, 1059, 1060, 1061, 1062, 1063, 1064, 1065, 1066, 1067, 1068, 1069, 1070, 1071, 1073, 1074, 1075, 1076, 1077, 1078, 1079, 1080, 1081, 1082, 1083, 1084, 1085, 1086, 1087, 1088, 1089, 1090, 1091, 1092, 1093, 1094, 1095, 1096, 1097, 1099, 1100, 1101, 1102, 1103, 1104, 1105, 1106, 1107, 1109, 1110, 1111, 1112, 1113, 1114, 1173, 1174, 1183, 1184, 1185, 1186, 1187, 1188, 1189, 1190, 1191, 1193, 1194, 1195, 1196, 1197, 1198, 1211, 1212, 1213, 1214, 1215, 1216, 1217, 1218, 1219, 1221, 1222, 1223, 1224, 1225, 1226, 1294, 1300, 1301, 1302, 1303, 1304, 1305, 1306, 1307, 1308, 1310, 1311, 1312, 1313, 1314, 1315, 2364, 2378, 2379, 2380, 2381, 2382, 2383, 26]
def th_C : List Cond := (th_ps.filterMap (fun i => lw_tbl[i]?)).filter (fun w => goodWord w || mx_NW.contains w)
theorem th_in : ∀ w ∈ th_C, w ∈ mx_W ∨ w ∈ mx_NW := by
  intro w hw
  obtain ⟨hw, h⟩ := List.mem_filter.mp hw
  obtain ⟨i, -, hi⟩ := List.mem_filterMap.mp hw
  simp only [Bool.or_eq_true] at h
  rcases h with h | h
  · exact Or.inl (List.mem_filter.mpr ⟨List.mem_of_getElem? hi, h⟩)
  · exact Or.inr (by simpa using h)
theorem th_of {own cls : String} {ik ic : Nat} (h1 : Cond.classLink own ik cls ∈ mx_W) (h2 : Cond.initialized cls ∈ mx_W) (h3 : (vx_atS own ic cls mx_nms).all (fun w => th_C.contains w && vx_ot w) = true) (h4 : Bundle.fit cls = true) : mx_th own ik ic cls := by
  refine ⟨h1, h2, fun w hw => ?_, fun w hw => ?_, h4⟩
  · have h := List.all_eq_true.mp h3 w hw
    simp only [Bool.and_eq_true] at h
    exact th_in w (by simpa using h.1)
  · rcases List.mem_cons.mp hw with rfl | hw
    · simp [vx_ot, Cond.onTables]
    · rcases List.mem_cons.mp hw with rfl | hw
      · simp [vx_ot, Cond.onTables]
      · have h := List.all_eq_true.mp h3 w hw
        simp only [Bool.and_eq_true] at h
        exact h.2
theorem th_Vh_115_119 : mx_th "VisitingHours" 115 119 "java/lang/IllegalArgumentException" := th_of cl_Vh_115 (mx_in 150 (by decide +kernel) rfl) (by decide +kernel) (by decide +kernel)
theorem th_Vh_125_129 : mx_th "VisitingHours" 125 129 "java/lang/UnsupportedOperationException" := th_of cl_Vh_125 (mx_in 151 (by decide +kernel) rfl) (by decide +kernel) (by decide +kernel)
theorem th_Vh_463_467 : mx_th "VisitingHours" 463 467 "java/lang/IndexOutOfBoundsException" := th_of cl_Vh_463 (mx_in 152 (by decide +kernel) rfl) (by decide +kernel) (by decide +kernel)
theorem th_Vh_252_256 : mx_th "VisitingHours" 252 256 "java/lang/IllegalStateException" := th_of cl_Vh_252 (mx_in 154 (by decide +kernel) rfl) (by decide +kernel) (by decide +kernel)
