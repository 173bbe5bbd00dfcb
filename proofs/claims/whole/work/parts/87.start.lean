/-! THE LAW'S START, walked. -/
theorem jo_ad0 (q m0 : Nat) (u : jn_S) (v : Nat → Nat) : jo_ad q m0 u v (0, 0, 0) = q := by
  obtain ⟨q7, q16, q24, a0, a1, a2, a3, a4, a5, a6, a7, b0, v0, b1, v1, b2, v2, d0, w0, d1, w1, d2, w2, d3, w3, d4, w4, d5, w5, d6, w6, d7, w7⟩ := u
  rfl
theorem jo_ad4 (q m0 : Nat) (u : jn_S) (v : Nat → Nat) : jo_ad q m0 u v (4, 0, 0) = m0 := by
  obtain ⟨q7, q16, q24, a0, a1, a2, a3, a4, a5, a6, a7, b0, v0, b1, v1, b2, v2, d0, w0, d1, w1, d2, w2, d3, w3, d4, w4, d5, w5, d6, w6, d7, w7⟩ := u
  rfl
set_option maxHeartbeats 8000000 in
set_option maxRecDepth 100000 in
/-- from the entry, for every script of at most 3072 ints, the law comes to its end with true -/
theorem whole_start {p : Program} {e : Env} {s : State} {m : MethodId} {below : List Frame} {meth : Method} {c : Code} (l : Launch) (hflags : l.flags = flags0) {b L : Nat} {xs : Nat → Int32} (hL : L ≤ 3072) (C0 : lw_At p s m meth c b L xs) : W p l e room_1 s m #[Value.ref b] below meth c s.heap [] 0 0 (lw_Z below #[Value.ref b] s) (entryFrame m ([Value.ref b] : List Value).toArray 8) := by
  obtain ⟨hx, hb, hr, hml, hown, hts0, hX, hbl, hlocks, hgv⟩ := id C0
  have hts := lz_hts C0
  obtain ⟨D, cs, cl, K0, hI⟩ := jo_K hts0
  have hK := hI.1
  have hA : ∀ q : Nat, s.heap.size ≤ q → (fun q : Nat => s.heap.size ≤ q) q := fun q h => h
  have hS : va_S (fun q : Nat => s.heap.size ≤ q) s.heap s.heap [] := va_S.rf
  have hP : va_P D jm_cl0 [] s.heap := fun k q h => by cases h
  have hD : va_D (fun q : Nat => s.heap.size ≤ q) [] := ⟨fun i j p q h => (by cases h), fun k q h => (by cases h)⟩
  have hl := lv_entry ([.ref b]) (n := 8) (Nat.le_of_ble_eq_true rfl)
  rw [lg_entry_eq]
  generalize (lg_sl ([.ref b]) ++ List.replicate (8 - (lg_sl ([.ref b])).length) Slot.unset).toArray = ls at hl ⊢
  have hl : lv_has ls 8 [(0, .ref b)] := hl
  refine va_new (cl := jm_cl0) (ci := 10) (fs := [.null, .null, .null, .null, .int 0, .null, .null]) (C := RX11) (T := TX11) (N := 7) (index := 8) hx hb hts (jm_uws (ci := 10) rfl) tyX11 tyX11_ok hown (hts _ (jm_at_T (i := 60) (by decide +kernel))) (hts _ (jm_at_T (i := 61) (by decide +kernel))) (hts _ (jm_at_T (i := 38) (by decide +kernel))) hK hP hD hS hA rfl (fun j hj => by rcases (show j = 0 ∨ j = 1 ∨ j = 2 ∨ j = 3 ∨ j = 4 ∨ j = 5 ∨ j = 6 by omega) with rfl | rfl | rfl | rfl | rfl | rfl | rfl <;> rfl) (Nat.le_of_ble_eq_true rfl) (Nat.le_of_ble_eq_true rfl) (show decode code 0 = .ok (.new 8, 3) by decide +kernel) (fun qX11 H hP hD hS => ?_)
  refine lv_dup hx hb (show decode code 3 = .ok (.dup, 1) by decide +kernel) rfl ?_
  refine jn_callL (jn_runP (As := []) (b := qX11) (n := 0) (index := 17) (i1 := 64) (i2 := 62) (i3 := 38) (i4 := 63) ⟨hx, hb, hml, hown, hts⟩ hI (jn_iX11 l D cs qX11 H.size) (by decide +kernel) (by decide +kernel) (by decide +kernel) (by decide +kernel) (by decide +kernel) rfl rfl rfl ⟨Nat.le_of_ble_eq_true rfl, Nat.le_of_ble_eq_true rfl⟩ hP hD [0] rfl rfl rfl hl.1 (lv_room (Nat.le_of_ble_eq_true rfl)) (show decode code 4 = .ok (.invokespecial 17, 3) by decide +kernel) ⟨(Nat.le_of_ble_eq_true rfl), (Nat.le_of_ble_eq_true rfl)⟩) hP hD hS hA (fun u H locs hP hD hS => ?_)
  have hP : va_P D jm_cl0 (jn_ma cs qX11 u) H := hP
  have hD : va_D (fun q : Nat => s.heap.size ≤ q) (jn_ma cs qX11 u) := hD
  refine lv_astore_n hx hb (show decode code 7 = .ok (.astore_n 1, 1) by decide +kernel) rfl hl (by decide) (lv' := [(1, .ref qX11), (0, .ref b)]) rfl (fun ls hl => ?_)
  refine va_new (cl := jm_cl0) (ci := 11) (fs := [.null, .null, .null, .null, .int 0, .int 0, .int 0, .int 0, .null, .null, .int 0, .null, .null, .null, .null, .null, .null, .int 0]) (C := RX12) (T := TX12) (N := 18) (index := 18) hx hb hts (jm_uws (ci := 11) rfl) tyX12 tyX12_ok hown (hts _ (jm_at_T (i := 984) (by decide +kernel))) (hts _ (jm_at_T (i := 985) (by decide +kernel))) (hts _ (jm_at_T (i := 49) (by decide +kernel))) hK hP hD hS hA rfl (fun j hj => by rcases (show j = 0 ∨ j = 1 ∨ j = 2 ∨ j = 3 ∨ j = 4 ∨ j = 5 ∨ j = 6 ∨ j = 7 ∨ j = 8 ∨ j = 9 ∨ j = 10 ∨ j = 11 ∨ j = 12 ∨ j = 13 ∨ j = 14 ∨ j = 15 ∨ j = 16 ∨ j = 17 by omega) with rfl | rfl | rfl | rfl | rfl | rfl | rfl | rfl | rfl | rfl | rfl | rfl | rfl | rfl | rfl | rfl | rfl | rfl <;> rfl) (Nat.le_of_ble_eq_true rfl) (Nat.le_of_ble_eq_true rfl) (show decode code 8 = .ok (.new 18, 3) by decide +kernel) (fun qX12 H hP hD hS => ?_)
  refine lv_dup hx hb (show decode code 11 = .ok (.dup, 1) by decide +kernel) rfl ?_
  refine jn_callL (jn_runP (As := []) (b := qX12) (n := 0) (index := 20) (i1 := 988) (i2 := 986) (i3 := 49) (i4 := 987) ⟨hx, hb, hml, hown, hts⟩ hI (jn_iX12 l D cs qX12 H.size) (by decide +kernel) (by decide +kernel) (by decide +kernel) (by decide +kernel) (by decide +kernel) rfl rfl rfl ⟨Nat.le_of_ble_eq_true rfl, Nat.le_of_ble_eq_true rfl⟩ hP hD [(jn_ma cs qX11 u).length] (by simp [jn_gr]) rfl rfl hl.1 (lv_room (Nat.le_of_ble_eq_true rfl)) (show decode code 12 = .ok (.invokespecial 20, 3) by decide +kernel) ⟨(Nat.le_of_ble_eq_true rfl), (Nat.le_of_ble_eq_true rfl)⟩) hP hD hS hA (fun v H locs hP hD hS => ?_)
  refine lv_astore_n hx hb (show decode code 15 = .ok (.astore_n 2, 1) by decide +kernel) rfl hl (by decide) (lv' := [(2, .ref qX12), (1, .ref qX11), (0, .ref b)]) rfl (fun ls hl => ?_)
  refine lv_iconst (v := 1) hx hb (show decode code 16 = .ok (.iconst 1, 1) by decide +kernel) (by decide) ?_
  refine va_newa (a0 := (1, .inr (.inl (fun _ => 0)))) (ty := .long) (N' := 1) hx hb (hts _ (jm_at_T (i := 1401) (by decide +kernel))) rfl hK hP hD hS hA (fun _ => rfl) (by decide) (by decide) (by decide) (Nat.le_of_ble_eq_true rfl) (Nat.le_of_ble_eq_true rfl) (show decode code 17 = .ok (.newarray .long, 2) by decide +kernel) (fun qo cA H hK1 hP hD hS => ?_)
  have h1 : s.vm.findClass ("[" ++ FieldType.long.toString) = some cA := (hK1.2 3 _ rfl).2
  have h2 : s.vm.findClass ("[" ++ FieldType.long.toString) = some cl := (K0.2.2.2 0 _ rfl).2
  have h3 : cA = cl := Option.some.inj (h1.symm.trans h2)
  rw [h3] at hP hD
  refine lv_astore_n hx hb (show decode code 19 = .ok (.astore_n 3, 1) by decide +kernel) rfl hl (by decide) (lv' := [(3, .ref qo), (2, .ref qX12), (1, .ref qX11), (0, .ref b)]) rfl (fun ls hl => ?_)
  refine lv_iconst (v := nI 0) hx hb (show decode code 20 = .ok (.iconst 0, 1) by decide +kernel) (by decide) ?_
  refine lv_istore hx hb (show decode code 21 = .ok (.istore 4, 2) by decide +kernel) hl (by decide) (lv' := [(4, .int (nI 0)), (3, .ref qo), (2, .ref qX12), (1, .ref qX11), (0, .ref b)]) rfl (fun ls hl => ?_)
  have hP8 : va_P D jm_cl0 (jn_ma cs qX11 u ++ jn_mo cs qX12 v) H := fun k q hq => hP k q (jn_gl hq _)
  have hlast := jn_gr (jn_ma cs qX11 u ++ jn_mo cs qX12 v) (qo, (.inl (cl, 1, .inr (.inl (fun _ => 0))) : va_E)) []
  have hD8 : va_D (lz_A s qo) (jn_ma cs qX11 u ++ jn_mo cs qX12 v) := ⟨fun i j p q hp hq => hD.1 i j p q (jn_gl hp _) (jn_gl hq _), fun k q hq => ⟨hD.2 k q (jn_gl hq _), fun z => by
    have h4 := hD.1 k _ q _ (jn_gl hq _) hlast z
    have h5 := (List.getElem?_eq_some_iff.mp hq).1
    rw [h4] at h5
    exact Nat.lt_irrefl _ h5⟩⟩
  obtain ⟨hPw, hDw⟩ := jo_end hP8 hD8
  have hl2 : lv_has ls 8 (lz_L (jo_ad qX11 qX12 u v) b qo 0) := by
    unfold lz_L
    rw [jo_ad0, jo_ad4]
    exact lv_sub hl [4, 3, 2, 1, 0] rfl
  have Wd : lz_W D cs cl (jo_ad qX11 qX12 u v) qo s jo_h H locs := ⟨hPw, hDw, ⟨_, hP _ _ hlast⟩, hD.2 _ _ hlast, hS⟩
  refine W.widen (k := 100 + 0) (n := 3000 + 6 * 0) (Nat.le_of_ble_eq_true rfl) (Nat.le_of_ble_eq_true rfl) ?_
  exact lz_loop C0 K0 (jo_X hflags hts0 hgv hI.2.2.1 qo) hL (L + 1) 0 jo_h H locs ls (Nat.zero_le _) (by omega) hl2 Wd jo_jz

