set_option maxRecDepth 100000 in
theorem jm_mt0_ok : (jm_mt0.zip [438, 399, 465, 490, 860, 966, 299, 341, 349, 345, 494, 594, 361, 321, 331, 353, 631, 365, 369, 730, 373, 449, 472, 498, 403]).all jm_mtok = true := by decide +kernel
set_option maxRecDepth 100000 in
theorem jm_mt1_ok : (jm_mt1.zip [377, 476, 785, 525, 655, 717, 585, 417, 435, 410, 384, 836, 413, 839, 388, 844, 793, 798, 806, 288, 824, 284, 816, 703, 424]).all jm_mtok = true := by decide +kernel
set_option maxRecDepth 100000 in
theorem jm_mt2_ok : (jm_mt2.zip [459, 486, 847, 392, 854, 959, 291, 502, 280, 305, 308, 324, 334, 337, 356, 311, 431, 395, 857, 963, 428, 464, 850, 263, 295]).all jm_mtok = true := by decide +kernel
set_option maxRecDepth 100000 in
theorem jm_mt3_ok : (jm_mt3.zip [506, 514, 520, 529, 538, 544, 550, 554, 558, 570, 581, 589, 598, 602, 606, 610, 614, 618, 622, 627, 635, 639, 643, 647, 651]).all jm_mtok = true := by decide +kernel
set_option maxRecDepth 100000 in
theorem jm_mt4_ok : (jm_mt4.zip [660, 664, 668, 672, 676, 683, 686, 691, 695, 699, 709, 713, 721, 726, 733, 743, 736, 739, 747, 751, 756, 760, 763, 767, 773]).all jm_mtok = true := by decide +kernel
set_option maxRecDepth 100000 in
theorem jm_mt5_ok : (jm_mt5.zip [777, 781, 789, 802, 811, 820, 829, 577, 267, 533, 271, 277, 274, 317, 327, 314, 573, 468, 1068, 1145, 1136, 1083, 1097, 1104, 1108]).all jm_mtok = true := by decide +kernel
set_option maxRecDepth 100000 in
theorem jm_mt6_ok : (jm_mt6.zip [1112, 1090, 1228, 1206, 1151, 1133, 1139, 1130, 1142, 1148, 1157, 1154, 1127, 1124, 1121, 1203, 1115, 1118, 1076, 1080, 1072, 1094, 1101, 1087, 1058]).all jm_mtok = true := by decide +kernel
set_option maxRecDepth 100000 in
theorem jm_mt7_ok : (jm_mt7.zip [1161, 1165, 1172, 1169, 1176, 1184, 1188, 1192, 1196, 1200, 1214, 1210, 1221, 1218, 1225, 1232, 1244, 1240, 1236, 1248, 1257, 1253, 1261, 1268, 1272]).all jm_mtok = true := by decide +kernel
set_option maxRecDepth 100000 in
theorem jm_mt8_ok : (jm_mt8.zip [1265, 1276, 1280, 1284, 1289, 1293, 1297, 1301, 1309, 1305, 1316, 1313, 1329, 1325, 1321, 1340, 1337, 1333, 1344, 1348, 1352, 1360, 1356, 1367, 1371]).all jm_mtok = true := by decide +kernel
set_option maxRecDepth 100000 in
theorem jm_mt9_ok : (jm_mt9.zip [1375, 1379, 1065, 1062, 1180, 1383, 1387, 1391, 1395, 1399, 1406, 1403, 1410, 563, 679]).all jm_mtok = true := by decide +kernel
set_option maxRecDepth 100000 in
theorem jm_own_ok : jm_mt.all (fun r => decide (jm_on[r.2.2.2.2.2.2]? = some r.1.cls)) = true := by decide +kernel
set_option maxRecDepth 100000 in
theorem jm_fl_ok : (jm_fl.zip jm_on).all (fun q => q.1.all (jm_flok q.2)) = true := by decide +kernel
set_option maxRecDepth 100000 in
theorem jm_con_ok : (jm_con.zip jm_on).all (fun q => q.1.all (jm_conok q.2)) = true := by decide +kernel
set_option maxRecDepth 100000 in
theorem jm_conL_ok : (jm_conL.zip jm_on).all (fun q => q.1.all (jm_conLok q.2)) = true := by decide +kernel
set_option maxRecDepth 100000 in
theorem jm_acp_ok : (jm_acp.zip jm_on).all (fun q => q.1.all (jm_acpok q.2)) = true := by decide +kernel
set_option maxRecDepth 100000 in
theorem jm_mth_ok : (jm_mth.zip jm_on).all (fun q => q.1.all (jm_mthok q.2)) = true := by decide +kernel
set_option maxRecDepth 100000 in
theorem jm_sys_ok : (jm_at 302 (.native arraycopyName) && jm_at 301 (.static arraycopyName) && jm_at 52 (.initialized "java/lang/System")) = true := by decide +kernel
set_option maxRecDepth 100000 in
theorem jm_c0_ok : jm_c0.all (jm_cok jm_mt "PapersAreOnCats$Cat") = true := by decide +kernel
set_option maxRecDepth 100000 in
theorem jm_c1_ok : jm_c1.all (jm_cok jm_mt "PapersAreOnCats$Frontier") = true := by decide +kernel
set_option maxRecDepth 100000 in
theorem jm_c2_ok : jm_c2.all (jm_cok jm_mt "PapersAreOnCats$Kitten") = true := by decide +kernel
set_option maxRecDepth 100000 in
theorem jm_c3_ok : jm_c3.all (jm_cok jm_mt "PapersAreOnCats$Mouser") = true := by decide +kernel
set_option maxRecDepth 100000 in
theorem jm_c4_ok : jm_c4.all (jm_cok jm_mt "PapersAreOnCats$Old") = true := by decide +kernel
set_option maxRecDepth 100000 in
theorem jm_c5_ok : jm_c5.all (jm_cok jm_mt "PapersAreOnCats$Shelf") = true := by decide +kernel
set_option maxRecDepth 100000 in
theorem jm_c6_ok : jm_c6.all (jm_cok jm_mt "PapersAreOnCats$Shell") = true := by decide +kernel
set_option maxRecDepth 100000 in
theorem jm_c7_ok : jm_c7.all (jm_cok jm_mt "PapersAreOnCats$Spy") = true := by decide +kernel
set_option maxRecDepth 100000 in
theorem jm_c8_ok : jm_c8.all (jm_cok jm_mt "PapersAreOnCats$Text") = true := by decide +kernel
set_option maxRecDepth 100000 in
theorem jm_c9_ok : jm_c9.all (jm_cok jm_mt "PapersAreOnCats$Tom") = true := by decide +kernel
set_option maxRecDepth 100000 in
theorem jm_c10_ok : jm_c10.all (jm_cok jm_mt "PapersAreOnCats$White") = true := by decide +kernel
set_option maxRecDepth 100000 in
theorem jm_c11_ok : jm_c11.all (jm_cok jm_mt "PapersAreOnCats") = true := by decide +kernel
set_option maxRecDepth 100000 in
theorem jm_c12_ok : jm_c12.all (jm_cok jm_mt "PapersAreOnCatsModel") = true := by decide +kernel
set_option maxRecDepth 100000 in
theorem jm_c13_ok : jm_c13.all (jm_cok jm_mt "java/lang/Integer") = true := by decide +kernel
set_option maxRecDepth 100000 in
theorem jm_c14_ok : jm_c14.all (jm_cok jm_mt "java/util/Arrays") = true := by decide +kernel
theorem jm_is_all : (jm_is.zip jm_mt).all (fun q => q.1.all (jm_inok (jm_con.getD q.2.2.2.2.2.2.2 []) q.2.2.1)) = true := by
  unfold jm_is jm_mt
  rw [List.zip_append (by rfl), List.all_append, jm_is0_ok, Bool.true_and]
  rw [List.zip_append (by rfl), List.all_append, jm_is1_ok, Bool.true_and]
  rw [List.zip_append (by rfl), List.all_append, jm_is2_ok, Bool.true_and]
  rw [List.zip_append (by rfl), List.all_append, jm_is3_ok, Bool.true_and]
  rw [List.zip_append (by rfl), List.all_append, jm_is4_ok, Bool.true_and]
  rw [List.zip_append (by rfl), List.all_append, jm_is5_ok, Bool.true_and]
  rw [List.zip_append (by rfl), List.all_append, jm_is6_ok, Bool.true_and]
  rw [List.zip_append (by rfl), List.all_append, jm_is7_ok, Bool.true_and]
  rw [List.zip_append (by rfl), List.all_append, jm_is8_ok, Bool.true_and]
  exact jm_is9_ok
theorem jm_mt_all : ∀ r ∈ jm_mt, ∃ i, jm_mtok (r, i) = true := by
  have key : ∀ (l : List jm_MT) (ps : List Nat), l.length = ps.length → (l.zip ps).all jm_mtok = true → ∀ r ∈ l, ∃ i, jm_mtok (r, i) = true := by
    intro l ps hl h r hr
    obtain ⟨k, hk, rfl⟩ := List.mem_iff_getElem.mp hr
    refine ⟨ps[k]'(hl ▸ hk), ?_⟩
    refine List.all_eq_true.mp h _ (List.mem_iff_getElem.mpr ⟨k, by simp; omega, by simp⟩)
  intro r hr
  unfold jm_mt at hr
  simp only [List.mem_append] at hr
  rcases hr with hr | hr | hr | hr | hr | hr | hr | hr | hr | hr
  · exact key _ _ rfl jm_mt0_ok r hr
  · exact key _ _ rfl jm_mt1_ok r hr
  · exact key _ _ rfl jm_mt2_ok r hr
  · exact key _ _ rfl jm_mt3_ok r hr
  · exact key _ _ rfl jm_mt4_ok r hr
  · exact key _ _ rfl jm_mt5_ok r hr
  · exact key _ _ rfl jm_mt6_ok r hr
  · exact key _ _ rfl jm_mt7_ok r hr
  · exact key _ _ rfl jm_mt8_ok r hr
  · exact key _ _ rfl jm_mt9_ok r hr
theorem jm_cs_all : (jm_cs.zip jm_on).all (fun q => q.1.all (jm_cok jm_mt q.2)) = true := by
  show ([(jm_c0, "PapersAreOnCats$Cat"), (jm_c1, "PapersAreOnCats$Frontier"), (jm_c2, "PapersAreOnCats$Kitten"), (jm_c3, "PapersAreOnCats$Mouser"), (jm_c4, "PapersAreOnCats$Old"), (jm_c5, "PapersAreOnCats$Shelf"), (jm_c6, "PapersAreOnCats$Shell"), (jm_c7, "PapersAreOnCats$Spy"), (jm_c8, "PapersAreOnCats$Text"), (jm_c9, "PapersAreOnCats$Tom"), (jm_c10, "PapersAreOnCats$White"), (jm_c11, "PapersAreOnCats"), (jm_c12, "PapersAreOnCatsModel"), (jm_c13, "java/lang/Integer"), (jm_c14, "java/util/Arrays")] : List (List (Nat × jm_CE) × String)).all (fun q => q.1.all (jm_cok jm_mt q.2)) = true
  simp only [List.all_cons, List.all_nil, Bool.and_true, Bool.and_eq_true]
  exact ⟨jm_c0_ok, jm_c1_ok, jm_c2_ok, jm_c3_ok, jm_c4_ok, jm_c5_ok, jm_c6_ok, jm_c7_ok, jm_c8_ok, jm_c9_ok, jm_c10_ok, jm_c11_ok, jm_c12_ok, jm_c13_ok, jm_c14_ok⟩
