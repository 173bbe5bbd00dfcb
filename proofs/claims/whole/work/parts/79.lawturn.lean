/-! THE LAW'S LOOP. -/
theorem jt_k44 {n : Nat} (h : n < 44) : n = 0 ∨ n = 1 ∨ n = 2 ∨ n = 3 ∨ n = 4 ∨ n = 5 ∨ n = 6 ∨ n = 7 ∨ n = 8 ∨ n = 9 ∨ n = 10 ∨ n = 11 ∨ n = 12 ∨ n = 13 ∨ n = 14 ∨ n = 15 ∨ n = 16 ∨ n = 17 ∨ n = 18 ∨ n = 19 ∨ n = 20 ∨ n = 21 ∨ n = 22 ∨ n = 23 ∨ n = 24 ∨ n = 25 ∨ n = 26 ∨ n = 27 ∨ n = 28 ∨ n = 29 ∨ n = 30 ∨ n = 31 ∨ n = 32 ∨ n = 33 ∨ n = 34 ∨ n = 35 ∨ n = 36 ∨ n = 37 ∨ n = 38 ∨ n = 39 ∨ n = 40 ∨ n = 41 ∨ n = 42 ∨ n = 43 := by omega
theorem lz_test {L i : Nat} (hL : L ≤ 3072) (hi : i ≤ 4000) (c : ¬ nI L - nI 6 < nI i) : i + 6 ≤ L := by
  by_cases h6 : 6 ≤ L
  · rw [nI_subN h6] at c
    by_cases z : L - 6 < i
    · exact absurd ((nI_ltI (by omega) (by omega)).mpr z) c
    · omega
  · exfalso
    have h0 : nI 0 ≤ nI i := nI_pos' (by omega)
    have hn : nI L - nI 6 < nI 0 := by
      rcases (show L = 0 ∨ L = 1 ∨ L = 2 ∨ L = 3 ∨ L = 4 ∨ L = 5 by omega) with rfl | rfl | rfl | rfl | rfl | rfl <;> decide
    exact c (Int32.lt_of_lt_of_le hn h0)
section LZ3
variable {p : Program} {l : Launch} {e : Env} {s : State} {m : MethodId} {below : List Frame} {meth : Method} {c : Code}
variable {D : va_G} {cs : Nat → ClassId} {cl : ClassId} {ad : jm_K → Nat} {qo b L : Nat} {xs : Nat → Int32}
set_option maxHeartbeats 8000000 in
set_option maxRecDepth 20000 in
/-- a turn of the loop: the case, up to 1820 -/
theorem lz_turn {H : Heap} {locs : List Loc} {cells slots : Nat} {Q : State → Prop} {ls : Array Slot} {h : jm_M} (C0 : lw_At p s m meth c b L xs) (K0 : lz_K D cs cl s) (X0 : lz_X l s qo) (hL : L ≤ 3072) {i : Nat} (hi : i + 6 ≤ L) (hl : lv_has ls 8 (lz_L ad b qo i)) (Wd : lz_W D cs cl ad qo s h H locs) (J : jz h) (hroom : cells + 1 ≤ 601024 ∧ slots + 6 ≤ 7293034)
    (kk : ∀ (h2 : jm_M) (H1 : Heap) (locs1 : List Loc) (ls1 : Array Slot), lv_has ls1 8 (lz_L ad b qo i) → jz h2 → lz_W D cs cl ad qo s h2 H1 locs1 → W p l e room_1 s m #[Value.ref b] below meth c H1 locs1 (cells + 1) (slots + 6) Q (F0 m 1820 ls1 [])) {x : Int32} : W p l e room_1 s m #[Value.ref b] below meth c H locs cells slots Q (F0 m 40 ls [.int x]) := by
  obtain ⟨hx, hb, hr0, hml, hown, hts0, hX, hbl, hlocks, hgv⟩ := id C0
  have hroom0 : cells ≤ 601024 ∧ slots ≤ 7293034 := ⟨by omega, by omega⟩
  have kk0 : ∀ (h2 : jm_M) (H1 : Heap) (locs1 : List Loc), jz h2 → lz_W D cs cl ad qo s h2 H1 locs1 → W p l e room_1 s m #[Value.ref b] below meth c H1 locs1 cells slots Q (F0 m 1820 ls []) := fun h2 H1 locs1 j w => W.widen (k := cells + 1) (n := slots + 6) (by omega) (by omega) (kk h2 H1 locs1 ls hl j w)
  have hdec : decode code 40 = .ok (.tableswitch 1780 0 43 #[192, 217, 254, 291, 328, 365, 390, 427, 476, 513, 538, 587, 624, 649, 686, 711, 724, 761, 786, 847, 884, 897, 922, 959, 984, 1033, 1070, 1095, 1144, 1169, 1243, 1269, 1306, 1331, 1380, 1393, 1406, 1431, 1492, 1541, 1590, 1657, 1730, 1755], 192) := by decide +kernel
  by_cases hxr : x.toInt < 0 ∨ 43 < x.toInt
  · exact lv_tableOut (tgt := 1820) hx hb hdec hxr (by decide) (kk0 h H locs J Wd)
  · obtain ⟨k, hk, rfl⟩ : ∃ k : Nat, k < 44 ∧ x = nI k := by
      refine ⟨x.toInt.toNat, by omega, Int32.toInt_inj.mp ?_⟩
      rw [nI_toInt (by omega)]
      omega
    rcases jt_k44 hk with rfl | rfl | rfl | rfl | rfl | rfl | rfl | rfl | rfl | rfl | rfl | rfl | rfl | rfl | rfl | rfl | rfl | rfl | rfl | rfl | rfl | rfl | rfl | rfl | rfl | rfl | rfl | rfl | rfl | rfl | rfl | rfl | rfl | rfl | rfl | rfl | rfl | rfl | rfl | rfl | rfl | rfl | rfl | rfl
    · refine lv_tableIn (tgt := 232) (off := 192) hx hb hdec (by decide) (by decide) (by decide +kernel) (by decide) ?_
      exact lz_case (pc := 232) (n := 1) (i1 := 21) (i2 := 25) (mc := 73) (mr := 174) (p1 := [259, 260, 261, 38]) (p2 := [1045, 1046, 1047, 49]) (ll := false) C0 K0 hL hi hl Wd J (by decide) (by decide +kernel) (by decide +kernel) (by decide +kernel) (zz_frontier (xs (i + 1))) hroom0 kk0
    · refine lv_tableIn (tgt := 257) (off := 217) hx hb hdec (by decide) (by decide) (by decide +kernel) (by decide) ?_
      exact lz_case (pc := 257) (n := 2) (i1 := 26) (i2 := 30) (mc := 75) (mr := 175) (p1 := [487, 488, 489, 38]) (p2 := [1148, 1149, 1150, 49]) (ll := false) C0 K0 hL hi hl Wd J (by decide) (by decide +kernel) (by decide +kernel) (by decide +kernel) (zz_cat (xs (i + 1)) (xs (i + 2))) hroom0 kk0
    · refine lv_tableIn (tgt := 294) (off := 254) hx hb hdec (by decide) (by decide) (by decide +kernel) (by decide) ?_
      exact lz_case (pc := 294) (n := 2) (i1 := 31) (i2 := 34) (mc := 76) (mr := 176) (p1 := [501, 502, 503, 38]) (p2 := [1152, 1153, 1154, 49]) (ll := false) C0 K0 hL hi hl Wd J (by decide) (by decide +kernel) (by decide +kernel) (by decide +kernel) (zz_man (xs (i + 1)) (xs (i + 2))) hroom0 kk0
    · refine lv_tableIn (tgt := 331) (off := 291) hx hb hdec (by decide) (by decide) (by decide +kernel) (by decide) ?_
      exact lz_case (pc := 331) (n := 2) (i1 := 35) (i2 := 38) (mc := 77) (mr := 178) (p1 := [507, 508, 509, 38]) (p2 := [1156, 1157, 1158, 49]) (ll := false) C0 K0 hL hi hl Wd J (by decide) (by decide +kernel) (by decide +kernel) (by decide +kernel) (zz_place (xs (i + 1)) (xs (i + 2))) hroom0 kk0
    · refine lv_tableIn (tgt := 368) (off := 328) hx hb hdec (by decide) (by decide) (by decide +kernel) (by decide) ?_
      exact lz_case (pc := 368) (n := 2) (i1 := 39) (i2 := 42) (mc := 78) (mr := 179) (p1 := [516, 517, 518, 38]) (p2 := [1163, 1164, 1165, 49]) (ll := false) C0 K0 hL hi hl Wd J (by decide) (by decide +kernel) (by decide +kernel) (by decide +kernel) (zz_comes (xs (i + 1)) (xs (i + 2))) hroom0 kk0
    · refine lv_tableIn (tgt := 405) (off := 365) hx hb hdec (by decide) (by decide) (by decide +kernel) (by decide) ?_
      exact lz_case (pc := 405) (n := 1) (i1 := 43) (i2 := 46) (mc := 79) (mr := 180) (p1 := [525, 526, 527, 38]) (p2 := [1171, 1172, 1173, 49]) (ll := false) C0 K0 hL hi hl Wd J (by decide) (by decide +kernel) (by decide +kernel) (by decide +kernel) (zz_waits (xs (i + 1))) hroom0 kk0
    · refine lv_tableIn (tgt := 430) (off := 390) hx hb hdec (by decide) (by decide) (by decide +kernel) (by decide) ?_
      exact lz_case (pc := 430) (n := 2) (i1 := 47) (i2 := 50) (mc := 80) (mr := 181) (p1 := [531, 532, 533, 38]) (p2 := [1175, 1176, 1177, 49]) (ll := false) C0 K0 hL hi hl Wd J (by decide) (by decide +kernel) (by decide +kernel) (by decide +kernel) (zz_writes (xs (i + 1)) (xs (i + 2))) hroom0 kk0
    · refine lv_tableIn (tgt := 467) (off := 427) hx hb hdec (by decide) (by decide) (by decide +kernel) (by decide) ?_
      exact lz_case (pc := 467) (n := 3) (i1 := 51) (i2 := 55) (mc := 81) (mr := 182) (p1 := [537, 538, 539, 38]) (p2 := [1179, 1180, 1181, 49]) (ll := false) C0 K0 hL hi hl Wd J (by decide) (by decide +kernel) (by decide +kernel) (by decide +kernel) (zz_lays (xs (i + 1)) (xs (i + 2)) (xs (i + 3))) hroom0 kk0
    · refine lv_tableIn (tgt := 516) (off := 476) hx hb hdec (by decide) (by decide) (by decide +kernel) (by decide) ?_
      exact lz_case (pc := 516) (n := 2) (i1 := 56) (i2 := 59) (mc := 82) (mr := 183) (p1 := [541, 542, 543, 38]) (p2 := [1183, 1184, 1185, 49]) (ll := false) C0 K0 hL hi hl Wd J (by decide) (by decide +kernel) (by decide +kernel) (by decide +kernel) (zz_carries (xs (i + 1)) (xs (i + 2))) hroom0 kk0
    · refine lv_tableIn (tgt := 553) (off := 513) hx hb hdec (by decide) (by decide) (by decide +kernel) (by decide) ?_
      exact lz_case (pc := 553) (n := 1) (i1 := 60) (i2 := 63) (mc := 83) (mr := 184) (p1 := [545, 546, 547, 38]) (p2 := [1187, 1188, 1189, 49]) (ll := false) C0 K0 hL hi hl Wd J (by decide) (by decide +kernel) (by decide +kernel) (by decide +kernel) (zz_hours (xs (i + 1))) hroom0 kk0
    · refine lv_tableIn (tgt := 578) (off := 538) hx hb hdec (by decide) (by decide) (by decide +kernel) (by decide) ?_
      exact lz_case (pc := 578) (n := 3) (i1 := 64) (i2 := 67) (mc := 84) (mr := 186) (p1 := [557, 558, 559, 38]) (p2 := [1197, 1198, 1199, 49]) (ll := false) C0 K0 hL hi hl Wd J (by decide) (by decide +kernel) (by decide +kernel) (by decide +kernel) (zz_catThen (xs (i + 1)) (xs (i + 2)) (xs (i + 3))) hroom0 kk0
    · refine lv_tableIn (tgt := 627) (off := 587) hx hb hdec (by decide) (by decide) (by decide +kernel) (by decide) ?_
      exact lz_case (pc := 627) (n := 2) (i1 := 68) (i2 := 71) (mc := 85) (mr := 188) (p1 := [568, 569, 570, 38]) (p2 := [1205, 1206, 1207, 49]) (ll := false) C0 K0 hL hi hl Wd J (by decide) (by decide +kernel) (by decide +kernel) (by decide +kernel) (zz_then (xs (i + 1)) (xs (i + 2))) hroom0 kk0
    · refine lv_tableIn (tgt := 664) (off := 624) hx hb hdec (by decide) (by decide) (by decide +kernel) (by decide) ?_
      exact lz_case (pc := 664) (n := 1) (i1 := 72) (i2 := 75) (mc := 86) (mr := 189) (p1 := [576, 577, 578, 38]) (p2 := [1212, 1213, 1214, 49]) (ll := false) C0 K0 hL hi hl Wd J (by decide) (by decide +kernel) (by decide +kernel) (by decide +kernel) (zz_crosses (xs (i + 1))) hroom0 kk0
    · refine lv_tableIn (tgt := 689) (off := 649) hx hb hdec (by decide) (by decide) (by decide +kernel) (by decide) ?_
      exact lz_case (pc := 689) (n := 2) (i1 := 76) (i2 := 79) (mc := 87) (mr := 190) (p1 := [585, 586, 587, 38]) (p2 := [1219, 1220, 1221, 49]) (ll := false) C0 K0 hL hi hl Wd J (by decide) (by decide +kernel) (by decide +kernel) (by decide +kernel) (zz_crossings (xs (i + 1)) (xs (i + 2))) hroom0 kk0
    · refine lv_tableIn (tgt := 726) (off := 686) hx hb hdec (by decide) (by decide) (by decide +kernel) (by decide) ?_
      exact lz_case (pc := 726) (n := 1) (i1 := 80) (i2 := 83) (mc := 88) (mr := 193) (p1 := [589, 590, 591, 38]) (p2 := [1223, 1224, 1225, 49]) (ll := false) C0 K0 hL hi hl Wd J (by decide) (by decide +kernel) (by decide +kernel) (by decide +kernel) (zz_passes (xs (i + 1))) hroom0 kk0
    · refine lv_tableIn (tgt := 751) (off := 711) hx hb hdec (by decide) (by decide) (by decide +kernel) (by decide) ?_
      exact lz_case (pc := 751) (n := 0) (i1 := 84) (i2 := 88) (mc := 90) (mr := 194) (p1 := [597, 598, 599, 38]) (p2 := [1235, 1236, 1237, 49]) (ll := false) C0 K0 hL hi hl Wd J (by decide) (by decide +kernel) (by decide +kernel) (by decide +kernel) (zz_first ) hroom0 kk0
    · refine lv_tableIn (tgt := 764) (off := 724) hx hb hdec (by decide) (by decide) (by decide +kernel) (by decide) ?_
      exact lz_case (pc := 764) (n := 2) (i1 := 89) (i2 := 92) (mc := 91) (mr := 196) (p1 := [601, 602, 603, 38]) (p2 := [1240, 1241, 1242, 49]) (ll := false) C0 K0 hL hi hl Wd J (by decide) (by decide +kernel) (by decide +kernel) (by decide +kernel) (zz_write (xs (i + 1)) (xs (i + 2))) hroom0 kk0
    · refine lv_tableIn (tgt := 801) (off := 761) hx hb hdec (by decide) (by decide) (by decide +kernel) (by decide) ?_
      exact lz_case (pc := 801) (n := 1) (i1 := 93) (i2 := 96) (mc := 93) (mr := 197) (p1 := [609, 610, 611, 38]) (p2 := [1248, 1249, 1250, 49]) (ll := false) C0 K0 hL hi hl Wd J (by decide) (by decide +kernel) (by decide +kernel) (by decide +kernel) (zz_good (xs (i + 1))) hroom0 kk0
    · refine lv_tableIn (tgt := 826) (off := 786) hx hb hdec (by decide) (by decide) (by decide +kernel) (by decide) ?_
      exact lz_case (pc := 826) (n := 4) (i1 := 97) (i2 := 101) (mc := 94) (mr := 200) (p1 := [614, 615, 616, 38]) (p2 := [1252, 1253, 1254, 49]) (ll := false) C0 K0 hL hi hl Wd J (by decide) (by decide +kernel) (by decide +kernel) (by decide +kernel) (zz_putFish (xs (i + 1)) (xs (i + 2)) (xs (i + 3)) (xs (i + 4))) hroom0 kk0
    · refine lv_tableIn (tgt := 887) (off := 847) hx hb hdec (by decide) (by decide) (by decide +kernel) (by decide) ?_
      exact lz_case (pc := 887) (n := 2) (i1 := 102) (i2 := 105) (mc := 96) (mr := 201) (p1 := [626, 627, 628, 38]) (p2 := [1263, 1264, 1265, 49]) (ll := false) C0 K0 hL hi hl Wd J (by decide) (by decide +kernel) (by decide +kernel) (by decide +kernel) (zz_together (xs (i + 1)) (xs (i + 2))) hroom0 kk0
    · refine lv_tableIn (tgt := 924) (off := 884) hx hb hdec (by decide) (by decide) (by decide +kernel) (by decide) ?_
      exact lz_case (pc := 924) (n := 0) (i1 := 106) (i2 := 109) (mc := 97) (mr := 202) (p1 := [630, 631, 632, 38]) (p2 := [1267, 1268, 1269, 49]) (ll := false) C0 K0 hL hi hl Wd J (by decide) (by decide +kernel) (by decide +kernel) (by decide +kernel) (zz_all ) hroom0 kk0
    · refine lv_tableIn (tgt := 937) (off := 897) hx hb hdec (by decide) (by decide) (by decide +kernel) (by decide) ?_
      exact lz_case (pc := 937) (n := 1) (i1 := 110) (i2 := 113) (mc := 99) (mr := 203) (p1 := [638, 639, 640, 38]) (p2 := [1271, 1272, 1273, 49]) (ll := false) C0 K0 hL hi hl Wd J (by decide) (by decide +kernel) (by decide +kernel) (by decide +kernel) (zz_deserted (xs (i + 1))) hroom0 kk0
    · refine lv_tableIn (tgt := 962) (off := 922) hx hb hdec (by decide) (by decide) (by decide +kernel) (by decide) ?_
      exact lz_case (pc := 962) (n := 2) (i1 := 114) (i2 := 117) (mc := 100) (mr := 204) (p1 := [647, 648, 649, 38]) (p2 := [1276, 1277, 1278, 49]) (ll := false) C0 K0 hL hi hl Wd J (by decide) (by decide +kernel) (by decide +kernel) (by decide +kernel) (zz_meet (xs (i + 1)) (xs (i + 2))) hroom0 kk0
    · refine lv_tableIn (tgt := 999) (off := 959) hx hb hdec (by decide) (by decide) (by decide +kernel) (by decide) ?_
      exact lz_case (pc := 999) (n := 1) (i1 := 118) (i2 := 121) (mc := 101) (mr := 205) (p1 := [651, 652, 653, 38]) (p2 := [1280, 1281, 1282, 49]) (ll := false) C0 K0 hL hi hl Wd J (by decide) (by decide +kernel) (by decide +kernel) (by decide +kernel) (zz_shave (xs (i + 1))) hroom0 kk0
    · refine lv_tableIn (tgt := 1024) (off := 984) hx hb hdec (by decide) (by decide) (by decide +kernel) (by decide) ?_
      exact lz_case (pc := 1024) (n := 3) (i1 := 122) (i2 := 125) (mc := 102) (mr := 206) (p1 := [655, 656, 657, 38]) (p2 := [1284, 1285, 1286, 49]) (ll := false) C0 K0 hL hi hl Wd J (by decide) (by decide +kernel) (by decide +kernel) (by decide +kernel) (zz_bribe (xs (i + 1)) (xs (i + 2)) (xs (i + 3))) hroom0 kk0
    · refine lv_tableIn (tgt := 1073) (off := 1033) hx hb hdec (by decide) (by decide) (by decide +kernel) (by decide) ?_
      exact lz_case (pc := 1073) (n := 2) (i1 := 126) (i2 := 129) (mc := 103) (mr := 207) (p1 := [659, 660, 661, 38]) (p2 := [1288, 1289, 1290, 49]) (ll := false) C0 K0 hL hi hl Wd J (by decide) (by decide +kernel) (by decide +kernel) (by decide +kernel) (zz_busiest (xs (i + 1)) (xs (i + 2))) hroom0 kk0
    · refine lv_tableIn (tgt := 1110) (off := 1070) hx hb hdec (by decide) (by decide) (by decide +kernel) (by decide) ?_
      exact lz_case (pc := 1110) (n := 1) (i1 := 130) (i2 := 133) (mc := 105) (mr := 209) (p1 := [670, 671, 672, 38]) (p2 := [1292, 1293, 1294, 49]) (ll := false) C0 K0 hL hi hl Wd J (by decide) (by decide +kernel) (by decide +kernel) (by decide +kernel) (zz_nearest (xs (i + 1))) hroom0 kk0
    · refine lv_tableIn (tgt := 1135) (off := 1095) hx hb hdec (by decide) (by decide) (by decide +kernel) (by decide) ?_
      exact lz_case (pc := 1135) (n := 3) (i1 := 134) (i2 := 137) (mc := 107) (mr := 211) (p1 := [678, 679, 680, 38]) (p2 := [1300, 1301, 1302, 49]) (ll := false) C0 K0 hL hi hl Wd J (by decide) (by decide +kernel) (by decide +kernel) (by decide +kernel) (zz_whatIs (xs (i + 1)) (xs (i + 2)) (xs (i + 3))) hroom0 kk0
    · refine lv_tableIn (tgt := 1184) (off := 1144) hx hb hdec (by decide) (by decide) (by decide +kernel) (by decide) ?_
      exact lz_case (pc := 1184) (n := 1) (i1 := 138) (i2 := 141) (mc := 110) (mr := 214) (p1 := [696, 697, 698, 38]) (p2 := [1308, 1309, 1310, 49]) (ll := false) C0 K0 hL hi hl Wd J (by decide) (by decide +kernel) (by decide +kernel) (by decide +kernel) (zz_two (xs (i + 1))) hroom0 kk0
    · refine lv_tableIn (tgt := 1209) (off := 1169) hx hb hdec (by decide) (by decide) (by decide +kernel) (by decide) ?_
      exact lz_case (pc := 1209) (n := 5) (i1 := 142) (i2 := 146) (mc := 112) (mr := 217) (p1 := [708, 709, 710, 38]) (p2 := [1320, 1321, 1322, 49]) (ll := true) C0 K0 hL hi hl Wd J (by decide) (by decide +kernel) (by decide +kernel) (by decide +kernel) (zz_dogs (xs (i + 1)) (xs (i + 2)) (xs (i + 3)) (xs (i + 4)) (xs (i + 5))) hroom0 kk0
    · refine lv_tableIn (tgt := 1283) (off := 1243) hx hb hdec (by decide) (by decide) (by decide +kernel) (by decide) ?_
      exact lz_case (pc := 1283) (n := 1) (i1 := 147) (i2 := 151) (mc := 115) (mr := 218) (p1 := [730, 731, 732, 38]) (p2 := [1331, 1332, 1333, 49]) (ll := true) C0 K0 hL hi hl Wd J (by decide) (by decide +kernel) (by decide +kernel) (by decide +kernel) (zz_mean (xs (i + 1))) hroom0 kk0
    · refine lv_tableIn (tgt := 1309) (off := 1269) hx hb hdec (by decide) (by decide) (by decide +kernel) (by decide) ?_
      exact lz_case (pc := 1309) (n := 2) (i1 := 152) (i2 := 155) (mc := 118) (mr := 219) (p1 := [734, 735, 736, 38]) (p2 := [1335, 1336, 1337, 49]) (ll := false) C0 K0 hL hi hl Wd J (by decide) (by decide +kernel) (by decide +kernel) (by decide +kernel) (zz_forged (xs (i + 1)) (xs (i + 2))) hroom0 kk0
    · refine lv_tableIn (tgt := 1346) (off := 1306) hx hb hdec (by decide) (by decide) (by decide +kernel) (by decide) ?_
      exact lz_case (pc := 1346) (n := 1) (i1 := 156) (i2 := 159) (mc := 120) (mr := 220) (p1 := [743, 744, 745, 38]) (p2 := [1339, 1340, 1341, 49]) (ll := false) C0 K0 hL hi hl Wd J (by decide) (by decide +kernel) (by decide +kernel) (by decide +kernel) (zz_judge (xs (i + 1))) hroom0 kk0
    · refine lv_tableIn (tgt := 1371) (off := 1331) hx hb hdec (by decide) (by decide) (by decide +kernel) (by decide) ?_
      exact lz_case (pc := 1371) (n := 3) (i1 := 160) (i2 := 163) (mc := 121) (mr := 222) (p1 := [747, 748, 749, 38]) (p2 := [1343, 1344, 1345, 49]) (ll := false) C0 K0 hL hi hl Wd J (by decide) (by decide +kernel) (by decide +kernel) (by decide +kernel) (zz_nights (xs (i + 1)) (xs (i + 2)) (xs (i + 3))) hroom0 kk0
    · refine lv_tableIn (tgt := 1420) (off := 1380) hx hb hdec (by decide) (by decide) (by decide +kernel) (by decide) ?_
      exact lz_case (pc := 1420) (n := 0) (i1 := 164) (i2 := 167) (mc := 124) (mr := 223) (p1 := [760, 761, 762, 38]) (p2 := [1354, 1355, 1356, 49]) (ll := false) C0 K0 hL hi hl Wd J (by decide) (by decide +kernel) (by decide +kernel) (by decide +kernel) (zz_image ) hroom0 kk0
    · refine lv_tableIn (tgt := 1433) (off := 1393) hx hb hdec (by decide) (by decide) (by decide +kernel) (by decide) ?_
      exact lz_case (pc := 1433) (n := 0) (i1 := 168) (i2 := 171) (mc := 125) (mr := 224) (p1 := [764, 765, 766, 38]) (p2 := [1358, 1359, 1360, 49]) (ll := false) C0 K0 hL hi hl Wd J (by decide) (by decide +kernel) (by decide +kernel) (by decide +kernel) (zz_restore ) hroom0 kk0
    · refine lv_tableIn (tgt := 1446) (off := 1406) hx hb hdec (by decide) (by decide) (by decide +kernel) (by decide) ?_
      exact lz_case (pc := 1446) (n := 1) (i1 := 172) (i2 := 175) (mc := 126) (mr := 225) (p1 := [768, 769, 770, 38]) (p2 := [1362, 1363, 1364, 49]) (ll := false) C0 K0 hL hi hl Wd J (by decide) (by decide +kernel) (by decide +kernel) (by decide +kernel) (zz_count (xs (i + 1))) hroom0 kk0
    · refine lv_tableIn (tgt := 1471) (off := 1431) hx hb hdec (by decide) (by decide) (by decide +kernel) (by decide) ?_
      exact lz_case (pc := 1471) (n := 4) (i1 := 176) (i2 := 179) (mc := 127) (mr := 230) (p1 := [776, 777, 778, 38]) (p2 := [1370, 1371, 1372, 49]) (ll := false) C0 K0 hL hi hl Wd J (by decide) (by decide +kernel) (by decide +kernel) (by decide +kernel) (zz_keep (xs (i + 1)) (xs (i + 2)) (xs (i + 3)) (xs (i + 4))) hroom0 kk0
    · refine lv_tableIn (tgt := 1532) (off := 1492) hx hb hdec (by decide) (by decide) (by decide +kernel) (by decide) ?_
      exact lz_case (pc := 1532) (n := 3) (i1 := 180) (i2 := 183) (mc := 128) (mr := 231) (p1 := [789, 790, 791, 38]) (p2 := [1374, 1375, 1376, 49]) (ll := false) C0 K0 hL hi hl Wd J (by decide) (by decide +kernel) (by decide +kernel) (by decide +kernel) (zz_row (xs (i + 1)) (xs (i + 2)) (xs (i + 3))) hroom0 kk0
    · refine lv_tableIn (tgt := 1581) (off := 1541) hx hb hdec (by decide) (by decide) (by decide +kernel) (by decide) ?_
      exact lz_case (pc := 1581) (n := 3) (i1 := 184) (i2 := 187) (mc := 129) (mr := 232) (p1 := [798, 799, 800, 38]) (p2 := [1378, 1379, 1380, 49]) (ll := false) C0 K0 hL hi hl Wd J (by decide) (by decide +kernel) (by decide +kernel) (by decide +kernel) (zz_put (xs (i + 1)) (xs (i + 2)) (xs (i + 3))) hroom0 kk0
    · refine lv_tableIn (tgt := 1630) (off := 1590) hx hb hdec (by decide) (by decide) (by decide +kernel) (by decide) ?_
      exact lz_elem C0 K0 X0 hL hi hl Wd J hroom kk
    · refine lv_tableIn (tgt := 1697) (off := 1657) hx hb hdec (by decide) (by decide) (by decide +kernel) (by decide) ?_
      exact lz_case (pc := 1697) (n := 5) (i1 := 197) (i2 := 201) (mc := 130) (mr := 234) (p1 := [807, 808, 809, 38]) (p2 := [1386, 1387, 1388, 49]) (ll := false) C0 K0 hL hi hl Wd J (by decide) (by decide +kernel) (by decide +kernel) (by decide +kernel) (zz_copy (xs (i + 1)) (xs (i + 2)) (xs (i + 3)) (xs (i + 4)) (xs (i + 5))) hroom0 kk0
    · refine lv_tableIn (tgt := 1770) (off := 1730) hx hb hdec (by decide) (by decide) (by decide +kernel) (by decide) ?_
      exact lz_case (pc := 1770) (n := 1) (i1 := 202) (i2 := 205) (mc := 131) (mr := 236) (p1 := [816, 817, 818, 38]) (p2 := [1390, 1391, 1392, 49]) (ll := false) C0 K0 hL hi hl Wd J (by decide) (by decide +kernel) (by decide +kernel) (by decide +kernel) (zz_cost (xs (i + 1))) hroom0 kk0
    · refine lv_tableIn (tgt := 1795) (off := 1755) hx hb hdec (by decide) (by decide) (by decide +kernel) (by decide) ?_
      exact lz_toss C0 K0 X0 hL hi hl Wd J hroom (fun h2 H1 locs1 j w => kk h2 H1 locs1 ls hl j w)
end LZ3

