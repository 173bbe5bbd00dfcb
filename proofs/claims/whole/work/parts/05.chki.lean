set_option maxRecDepth 100000 in
theorem jm_is0_ok : (jm_is0.zip jm_mt0).all (fun q => q.1.all (jm_inok (jm_con.getD q.2.2.2.2.2.2.2 []) q.2.2.1)) = true := by decide +kernel
set_option maxRecDepth 100000 in
theorem jm_is1_ok : (jm_is1.zip jm_mt1).all (fun q => q.1.all (jm_inok (jm_con.getD q.2.2.2.2.2.2.2 []) q.2.2.1)) = true := by decide +kernel
set_option maxRecDepth 100000 in
theorem jm_is2_ok : (jm_is2.zip jm_mt2).all (fun q => q.1.all (jm_inok (jm_con.getD q.2.2.2.2.2.2.2 []) q.2.2.1)) = true := by decide +kernel
set_option maxRecDepth 100000 in
theorem jm_is3_ok : (jm_is3.zip jm_mt3).all (fun q => q.1.all (jm_inok (jm_con.getD q.2.2.2.2.2.2.2 []) q.2.2.1)) = true := by decide +kernel
set_option maxRecDepth 100000 in
theorem jm_is4_ok : (jm_is4.zip jm_mt4).all (fun q => q.1.all (jm_inok (jm_con.getD q.2.2.2.2.2.2.2 []) q.2.2.1)) = true := by decide +kernel
set_option maxRecDepth 100000 in
theorem jm_is5_ok : (jm_is5.zip jm_mt5).all (fun q => q.1.all (jm_inok (jm_con.getD q.2.2.2.2.2.2.2 []) q.2.2.1)) = true := by decide +kernel
set_option maxRecDepth 100000 in
theorem jm_is6_ok : (jm_is6.zip jm_mt6).all (fun q => q.1.all (jm_inok (jm_con.getD q.2.2.2.2.2.2.2 []) q.2.2.1)) = true := by decide +kernel
set_option maxRecDepth 100000 in
theorem jm_is7_ok : (jm_is7.zip jm_mt7).all (fun q => q.1.all (jm_inok (jm_con.getD q.2.2.2.2.2.2.2 []) q.2.2.1)) = true := by decide +kernel
set_option maxRecDepth 100000 in
theorem jm_is8_ok : (jm_is8.zip jm_mt8).all (fun q => q.1.all (jm_inok (jm_con.getD q.2.2.2.2.2.2.2 []) q.2.2.1)) = true := by decide +kernel
set_option maxRecDepth 100000 in
theorem jm_is9_ok : (jm_is9.zip jm_mt9).all (fun q => q.1.all (jm_inok (jm_con.getD q.2.2.2.2.2.2.2 []) q.2.2.1)) = true := by decide +kernel
