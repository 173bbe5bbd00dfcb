set_option maxRecDepth 100000 in
theorem jm_mt0_ok : (jm_mt0.zip [422, 387, 449, 474, 850, 956, 298, 340, 348, 344, 478, 584, 357, 320, 330, 352, 621, 361, 365, 720, 387, 433, 456, 482, 495]).all jm_mtok = true := by decide +kernel
set_option maxRecDepth 100000 in
theorem jm_mt1_ok : (jm_mt1.zip [499, 460, 775, 515, 645, 707, 575, 401, 419, 394, 372, 826, 397, 829, 376, 834, 783, 788, 796, 287, 814, 283, 806, 693, 408]).all jm_mtok = true := by decide +kernel
set_option maxRecDepth 100000 in
theorem jm_mt2_ok : (jm_mt2.zip [443, 470, 837, 380, 844, 949, 290, 486, 279, 304, 307, 323, 333, 336, 387, 310, 415, 383, 847, 953, 412, 448, 840, 262, 294]).all jm_mtok = true := by decide +kernel
set_option maxRecDepth 100000 in
theorem jm_mt3_ok : (jm_mt3.zip [490, 504, 510, 519, 528, 534, 540, 544, 548, 560, 571, 579, 588, 592, 596, 600, 604, 608, 612, 617, 625, 629, 633, 637, 641]).all jm_mtok = true := by decide +kernel
set_option maxRecDepth 100000 in
theorem jm_mt4_ok : (jm_mt4.zip [650, 654, 658, 662, 666, 673, 676, 681, 685, 689, 699, 703, 711, 716, 723, 733, 726, 729, 737, 741, 746, 750, 753, 757, 763]).all jm_mtok = true := by decide +kernel
set_option maxRecDepth 100000 in
theorem jm_mt5_ok : (jm_mt5.zip [767, 771, 779, 792, 801, 810, 819, 567, 266, 523, 270, 276, 273, 316, 326, 313, 563, 452, 1058, 1135, 1126, 1073, 1087, 1094, 1098]).all jm_mtok = true := by decide +kernel
set_option maxRecDepth 100000 in
theorem jm_mt6_ok : (jm_mt6.zip [1102, 1080, 1218, 1196, 1141, 1123, 1129, 1120, 1132, 1138, 1147, 1144, 1117, 1114, 1111, 1193, 1105, 1108, 1066, 1070, 1062, 1084, 1091, 1077, 1048]).all jm_mtok = true := by decide +kernel
set_option maxRecDepth 100000 in
theorem jm_mt7_ok : (jm_mt7.zip [1151, 1155, 1162, 1159, 1166, 1174, 1178, 1182, 1186, 1190, 1204, 1200, 1211, 1208, 1215, 1222, 1234, 1230, 1226, 1238, 1247, 1243, 1251, 1258, 1262]).all jm_mtok = true := by decide +kernel
set_option maxRecDepth 100000 in
theorem jm_mt8_ok : (jm_mt8.zip [1255, 1266, 1270, 1274, 1279, 1283, 1287, 1291, 1299, 1295, 1306, 1303, 1319, 1315, 1311, 1330, 1327, 1323, 1334, 1338, 1342, 1350, 1346, 1357, 1361]).all jm_mtok = true := by decide +kernel
set_option maxRecDepth 100000 in
theorem jm_mt9_ok : (jm_mt9.zip [1365, 1369, 1055, 1052, 1170, 1373, 1377, 1381, 1385, 1389, 1396, 1393, 1400, 553, 669]).all jm_mtok = true := by decide +kernel
set_option maxRecDepth 100000 in
theorem jm_own_ok : jm_mt.all (fun r => decide (jm_on[r.2.2.2.2.2.2]? = some r.1.cls)) = true := by decide +kernel
set_option maxRecDepth 100000 in
theorem jm_fl_ok : (jm_fl.zip jm_on).all (fun q => q.1.all (jm_flok q.2)) = true := by decide +kernel
set_option maxRecDepth 100000 in
theorem jm_con_ok : (jm_con.zip jm_on).all (fun q => q.1.all (jm_conok q.2)) = true := by decide +kernel
set_option maxRecDepth 100000 in
theorem jm_conL_ok : (jm_conL.zip jm_on).all (fun q => q.1.all (jm_conLok q.2)) = true := by decide +kernel
set_option maxRecDepth 100000 in
theorem jm_acp_ok : (jm_acp.zip jm_on).all (fun q => q.1.all (jm_acpok q.2)) = true := by decide +kernel
set_option maxRecDepth 100000 in
theorem jm_mth_ok : (jm_mth.zip jm_on).all (fun q => q.1.all (jm_mthok q.2)) = true := by decide +kernel
set_option maxRecDepth 100000 in
theorem jm_sys_ok : (jm_at 301 (.native arraycopyName) && jm_at 300 (.static arraycopyName) && jm_at 51 (.initialized "java/lang/System")) = true := by decide +kernel
set_option maxRecDepth 100000 in
theorem jm_c0_ok : jm_c0.all (jm_cok jm_mt "PapersAreOnCats$Cat") = true := by decide +kernel
set_option maxRecDepth 100000 in
theorem jm_c1_ok : jm_c1.all (jm_cok jm_mt "PapersAreOnCats$Frontier") = true := by decide +kernel
set_option maxRecDepth 100000 in
theorem jm_c2_ok : jm_c2.all (jm_cok jm_mt "PapersAreOnCats$Kitten") = true := by decide +kernel
set_option maxRecDepth 100000 in
theorem jm_c3_ok : jm_c3.all (jm_cok jm_mt "PapersAreOnCats$Mouser") = true := by decide +kernel
set_option maxRecDepth 100000 in
theorem jm_c4_ok : jm_c4.all (jm_cok jm_mt "PapersAreOnCats$Old") = true := by decide +kernel
set_option maxRecDepth 100000 in
theorem jm_c5_ok : jm_c5.all (jm_cok jm_mt "PapersAreOnCats$Shelf") = true := by decide +kernel
set_option maxRecDepth 100000 in
theorem jm_c6_ok : jm_c6.all (jm_cok jm_mt "PapersAreOnCats$Shell") = true := by decide +kernel
set_option maxRecDepth 100000 in
theorem jm_c7_ok : jm_c7.all (jm_cok jm_mt "PapersAreOnCats$Spy") = true := by decide +kernel
set_option maxRecDepth 100000 in
theorem jm_c8_ok : jm_c8.all (jm_cok jm_mt "PapersAreOnCats$Text") = true := by decide +kernel
set_option maxRecDepth 100000 in
theorem jm_c9_ok : jm_c9.all (jm_cok jm_mt "PapersAreOnCats$Tom") = true := by decide +kernel
set_option maxRecDepth 100000 in
theorem jm_c10_ok : jm_c10.all (jm_cok jm_mt "PapersAreOnCats$White") = true := by decide +kernel
set_option maxRecDepth 100000 in
theorem jm_c11_ok : jm_c11.all (jm_cok jm_mt "PapersAreOnCats") = true := by decide +kernel
set_option maxRecDepth 100000 in
theorem jm_c12_ok : jm_c12.all (jm_cok jm_mt "PapersAreOnCatsModel") = true := by decide +kernel
set_option maxRecDepth 100000 in
theorem jm_c13_ok : jm_c13.all (jm_cok jm_mt "java/lang/Integer") = true := by decide +kernel
set_option maxRecDepth 100000 in
theorem jm_c14_ok : jm_c14.all (jm_cok jm_mt "java/util/Arrays") = true := by decide +kernel
theorem jm_is_all : (jm_is.zip jm_mt).all (fun q => q.1.all (jm_inok (jm_con.getD q.2.2.2.2.2.2.2 []) q.2.2.1)) = true := by
  unfold jm_is jm_mt
  rw [List.zip_append (by rfl), List.all_append, jm_is0_ok, Bool.true_and]
  rw [List.zip_append (by rfl), List.all_append, jm_is1_ok, Bool.true_and]
  rw [List.zip_append (by rfl), List.all_append, jm_is2_ok, Bool.true_and]
  rw [List.zip_append (by rfl), List.all_append, jm_is3_ok, Bool.true_and]
  rw [List.zip_append (by rfl), List.all_append, jm_is4_ok, Bool.true_and]
  rw [List.zip_append (by rfl), List.all_append, jm_is5_ok, Bool.true_and]
  rw [List.zip_append (by rfl), List.all_append, jm_is6_ok, Bool.true_and]
  rw [List.zip_append (by rfl), List.all_append, jm_is7_ok, Bool.true_and]
  rw [List.zip_append (by rfl), List.all_append, jm_is8_ok, Bool.true_and]
  exact jm_is9_ok
theorem jm_mt_all : ∀ r ∈ jm_mt, ∃ i, jm_mtok (r, i) = true := by
  have key : ∀ (l : List jm_MT) (ps : List Nat), l.length = ps.length → (l.zip ps).all jm_mtok = true → ∀ r ∈ l, ∃ i, jm_mtok (r, i) = true := by
    intro l ps hl h r hr
    obtain ⟨k, hk, rfl⟩ := List.mem_iff_getElem.mp hr
    refine ⟨ps[k]'(hl ▸ hk), ?_⟩
    refine List.all_eq_true.mp h _ (List.mem_iff_getElem.mpr ⟨k, by simp; omega, by simp⟩)
  intro r hr
  unfold jm_mt at hr
  simp only [List.mem_append] at hr
  rcases hr with hr | hr | hr | hr | hr | hr | hr | hr | hr | hr
  · exact key _ _ rfl jm_mt0_ok r hr
  · exact key _ _ rfl jm_mt1_ok r hr
  · exact key _ _ rfl jm_mt2_ok r hr
  · exact key _ _ rfl jm_mt3_ok r hr
  · exact key _ _ rfl jm_mt4_ok r hr
  · exact key _ _ rfl jm_mt5_ok r hr
  · exact key _ _ rfl jm_mt6_ok r hr
  · exact key _ _ rfl jm_mt7_ok r hr
  · exact key _ _ rfl jm_mt8_ok r hr
  · exact key _ _ rfl jm_mt9_ok r hr
theorem jm_cs_all : (jm_cs.zip jm_on).all (fun q => q.1.all (jm_cok jm_mt q.2)) = true := by
  show ([(jm_c0, "PapersAreOnCats$Cat"), (jm_c1, "PapersAreOnCats$Frontier"), (jm_c2, "PapersAreOnCats$Kitten"), (jm_c3, "PapersAreOnCats$Mouser"), (jm_c4, "PapersAreOnCats$Old"), (jm_c5, "PapersAreOnCats$Shelf"), (jm_c6, "PapersAreOnCats$Shell"), (jm_c7, "PapersAreOnCats$Spy"), (jm_c8, "PapersAreOnCats$Text"), (jm_c9, "PapersAreOnCats$Tom"), (jm_c10, "PapersAreOnCats$White"), (jm_c11, "PapersAreOnCats"), (jm_c12, "PapersAreOnCatsModel"), (jm_c13, "java/lang/Integer"), (jm_c14, "java/util/Arrays")] : List (List (Nat × jm_CE) × String)).all (fun q => q.1.all (jm_cok jm_mt q.2)) = true
  simp only [List.all_cons, List.all_nil, Bool.and_true, Bool.and_eq_true]
  exact ⟨jm_c0_ok, jm_c1_ok, jm_c2_ok, jm_c3_ok, jm_c4_ok, jm_c5_ok, jm_c6_ok, jm_c7_ok, jm_c8_ok, jm_c9_ok, jm_c10_ok, jm_c11_ok, jm_c12_ok, jm_c13_ok, jm_c14_ok⟩
