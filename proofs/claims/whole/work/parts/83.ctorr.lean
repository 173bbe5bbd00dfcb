/-! THE CONSTRUCTOR of the class: its rows, over any world. -/
theorem jn_gl {ws : va_W} {k : Nat} {x : Nat × va_E} (h : ws[k]? = some x) (r : va_W) : (ws ++ r)[k]? = some x := by
  rw [List.getElem?_append_left (List.getElem?_eq_some_iff.mp h).1]; exact h
theorem jn_gr (ws : va_W) (x : Nat × va_E) (r : va_W) : (ws ++ x :: r)[ws.length]? = some x := by
  rw [List.getElem?_append_right (Nat.le_refl _), Nat.sub_self]; rfl
theorem jn_map (ws r : va_W) : (List.range ws.length).map (fun i => (ws ++ r)[i]?) = ws.map some := by
  apply List.ext_getElem?
  intro j
  simp only [List.getElem?_map]
  by_cases hj : j < ws.length
  · rw [List.getElem?_range hj, List.getElem?_eq_getElem hj, Option.map_some, Option.map_some, List.getElem?_append_left hj, List.getElem?_eq_getElem hj]
  · rw [List.getElem?_eq_none (by rw [List.length_range]; omega), List.getElem?_eq_none (by omega)]; rfl
theorem jn_ndN : ∀ (l : List Nat), l.Nodup → va_nd l = true
  | [], _ => rfl
  | a :: l, h => by
    obtain ⟨h1, h2⟩ := List.nodup_cons.mp h
    simp only [va_nd, Bool.and_eq_true, decide_eq_true_eq]
    exact ⟨h1, jn_ndN l h2⟩
theorem jn_nd (n : Nat) : va_nd (List.range n) = true := jn_ndN _ List.nodup_range
section JR
variable {p : Program} {l : Launch} {e : Env} {R : Room} {s : State} {m : MethodId} {args : Array Value} {below : List Frame} {meth : Method} {c : Code} {H : Heap} {locs : List Loc} {cells slots : Nat} {Q : State → Prop}
variable {D : va_G} {A : Nat → Prop} {cs : Nat → ClassId} {ls : Array Slot} {st : List Value} {ws : va_W} {H0 : Heap}
/-- a call that makes the last cell's world -/
theorem jn_callL {pc : Nat} {S0 : Type} {F : S0 → va_W} {x : Nat × va_E} {mc ms : Nat} {st0 : List Value} {av : Array Value} (hr : va_Run p l e R s m args below meth c H locs cells slots mc ms (F0 m pc ls st0) st (jn_Q D [x] H.size F av) (va_A [x] H.size)) (hP : va_P D jm_cl0 (ws ++ [x]) H) (hD : va_D A (ws ++ [x])) (hS : va_S A H0 H locs) (hA : ∀ q, H0.size ≤ q → A q)
    (kk : ∀ (u : S0) (H1 : Heap) (locs1 : List Loc), va_P D jm_cl0 (ws ++ F u) H1 → va_D A (ws ++ F u) → va_S A H0 H1 locs1 → W p l e R s m args below meth c H1 locs1 (cells + mc) (slots + ms) Q (F0 m (pc + 3) ls st)) : W p l e R s m args below meth c H locs cells slots Q (F0 m pc ls st0) :=
  jn_call hr hP hD hS hA [ws.length] (List.range ws.length) (by simp [jn_gr]) (jn_map ws [x]) (jn_nd _) (fun i hi hc => by rw [List.mem_range] at hi; rw [List.mem_singleton] at hc; omega) kk
/-- one that makes nothing -/
theorem jn_callE {pc : Nat} {mc ms : Nat} {st0 : List Value} {av : Array Value} (hr : va_Run p l e R s m args below meth c H locs cells slots mc ms (F0 m pc ls st0) st (jn_Q D [] H.size (fun _ : Nat → Nat => []) av) (va_A [] H.size)) (hP : va_P D jm_cl0 ws H) (hD : va_D A ws) (hS : va_S A H0 H locs) (hA : ∀ q, H0.size ≤ q → A q)
    (kk : ∀ (H1 : Heap) (locs1 : List Loc), va_P D jm_cl0 ws H1 → va_D A ws → va_S A H0 H1 locs1 → W p l e R s m args below meth c H1 locs1 (cells + mc) (slots + ms) Q (F0 m (pc + 3) ls st)) : W p l e R s m args below meth c H locs cells slots Q (F0 m pc ls st0) :=
  jn_call hr hP hD hS hA [] (List.range ws.length) rfl (by have h := jn_map ws []; rwa [List.append_nil] at h) (jn_nd _) (fun i _ hc => nomatch hc) (fun u H1 locs1 h1 h2 h3 => by rw [List.append_nil] at h1 h2; exact kk H1 locs1 h1 h2 h3)
/-- the class's constructor, at work -/
abbrev jn_C (D : va_G) (cs : Nat → ClassId) (p : Program) (s : State) (m : MethodId) (args : Array Value) (meth : Method) (c : Code) : Prop := CallFix p m c prog_1_method_1_code 2 s args jm_T "PapersAreOnCats" ∧ jn_I D cs s ∧ meth.name = "<init>"
set_option maxHeartbeats 4000000 in
set_option maxRecDepth 100000 in
theorem jn_k0 (C : jn_C D cs p s m args meth c) (hsz : ls.size = 2) (hP : va_P D jm_cl0 ws H) (hD : va_D A ws) (hS : va_S A H0 H locs) (hA : ∀ q, H0.size ≤ q → A q) {k qa : Nat} {f : Nat → Option Nat} {qz : Nat} (hk : ws[k]? = some (qa, .inl (cs 1, 8, .inr (.inr (.inr (.inr f)))))) (hR : 4 ≤ R.frames ∧ 72 ≤ R.locals) (hc : cells + 1 ≤ R.cells) (hs : slots ≤ R.slots)
    (kk : ∀ (q : Nat) (H1 : Heap) (locs1 : List Loc), va_P D jm_cl0 ((ws ++ ([(q, .inr (0, []))] : va_W)).set k (qa, .inl (cs 1, 8, .inr (.inr (.inr (.inr (va_up f 0 (some q)))))))) H1 → va_D A ((ws ++ ([(q, .inr (0, []))] : va_W)).set k (qa, .inl (cs 1, 8, .inr (.inr (.inr (.inr (va_up f 0 (some q)))))))) → va_S A H0 H1 locs1 → W p l e R s m args below meth c H1 locs1 (cells + 1) slots Q (F0 m 37 ls [.ref qa, .ref qz])) : W p l e R s m args below meth c H locs cells slots Q (F0 m 27 ls [.ref qa, .ref qz]) := by
  obtain ⟨⟨hx, hb, hml, hown, hts⟩, hI, hin⟩ := C
  have hK := hI.1
  refine lv_dup hx hb (show decode prog_1_method_1_code 27 = .ok (.dup, 1) by decide +kernel) rfl ?_
  refine lv_iconst (v := 0) hx hb (show decode prog_1_method_1_code 28 = .ok (.iconst 0, 1) by decide +kernel) (by decide) ?_
  refine va_new (cl := jm_cl0) (ci := 0) (fs := []) (C := RX0) (T := TX0) (N := 0) (index := 19) hx hb hts (jm_uws (ci := 0) rfl) tyX0 tyX0_ok hown (hts _ (jm_at_T (i := 70) (by decide +kernel))) (hts _ (jm_at_T (i := 72) (by decide +kernel))) (hts _ (jm_at_T (i := 39) (by decide +kernel))) hK hP hD hS hA rfl (fun j hj => absurd hj (Nat.not_lt_zero j)) hc (by omega) (show decode prog_1_method_1_code 29 = .ok (.new 19, 3) by decide +kernel) (fun q H hP hD hS => ?_)
  refine lv_dup hx hb (show decode prog_1_method_1_code 32 = .ok (.dup, 1) by decide +kernel) rfl ?_
  refine jn_callE (jn_runN (As := []) (b := q) (n := 0) (index := 21) (i1 := 75) (i2 := 73) (i3 := 39) (i4 := 74) ⟨hx, hb, hml, hown, hts⟩ hI (jn_iX0 l D cs q H.size) (by decide +kernel) (by decide +kernel) (by decide +kernel) (by decide +kernel) (by decide +kernel) rfl rfl rfl ⟨Nat.le_trans (by decide) hR.1, Nat.le_trans (by decide) hR.2⟩ hP hD [] rfl rfl rfl hsz (lv_room (Nat.le_of_ble_eq_true rfl)) (show decode prog_1_method_1_code 33 = .ok (.invokespecial 21, 3) by decide +kernel) ⟨hc, by omega⟩) hP hD hS hA (fun H locs hP hD hS => ?_)
  refine va_astq (D := D) (cl := jm_cl0) hx hb hK hP hD hS k 1 ws.length 0 (jn_gl hk _) rfl (jn_gr ws _ []) rfl (i := 0) (by unfold vp_in; decide) (show decode prog_1_method_1_code 36 = .ok (.aastore, 1) by decide +kernel) (fun H locs hP hD hS => ?_)
  exact kk q H locs hP hD hS
set_option maxHeartbeats 4000000 in
set_option maxRecDepth 100000 in
theorem jn_k1 (C : jn_C D cs p s m args meth c) (hsz : ls.size = 2) (hP : va_P D jm_cl0 ws H) (hD : va_D A ws) (hS : va_S A H0 H locs) (hA : ∀ q, H0.size ≤ q → A q) {k qa : Nat} {f : Nat → Option Nat} {qz : Nat} (hk : ws[k]? = some (qa, .inl (cs 1, 8, .inr (.inr (.inr (.inr f)))))) (hR : 4 ≤ R.frames ∧ 72 ≤ R.locals) (hc : cells + 1 ≤ R.cells) (hs : slots ≤ R.slots)
    (kk : ∀ (q : Nat) (H1 : Heap) (locs1 : List Loc), va_P D jm_cl0 ((ws ++ ([(q, .inr (3, []))] : va_W)).set k (qa, .inl (cs 1, 8, .inr (.inr (.inr (.inr (va_up f 1 (some q)))))))) H1 → va_D A ((ws ++ ([(q, .inr (3, []))] : va_W)).set k (qa, .inl (cs 1, 8, .inr (.inr (.inr (.inr (va_up f 1 (some q)))))))) → va_S A H0 H1 locs1 → W p l e R s m args below meth c H1 locs1 (cells + 1) slots Q (F0 m 47 ls [.ref qa, .ref qz])) : W p l e R s m args below meth c H locs cells slots Q (F0 m 37 ls [.ref qa, .ref qz]) := by
  obtain ⟨⟨hx, hb, hml, hown, hts⟩, hI, hin⟩ := C
  have hK := hI.1
  refine lv_dup hx hb (show decode prog_1_method_1_code 37 = .ok (.dup, 1) by decide +kernel) rfl ?_
  refine lv_iconst (v := 1) hx hb (show decode prog_1_method_1_code 38 = .ok (.iconst 1, 1) by decide +kernel) (by decide) ?_
  refine va_new (cl := jm_cl0) (ci := 3) (fs := []) (C := RX3) (T := TX3) (N := 0) (index := 22) hx hb hts (jm_uws (ci := 3) rfl) tyX3 tyX3_ok hown (hts _ (jm_at_T (i := 79) (by decide +kernel))) (hts _ (jm_at_T (i := 80) (by decide +kernel))) (hts _ (jm_at_T (i := 40) (by decide +kernel))) hK hP hD hS hA rfl (fun j hj => absurd hj (Nat.not_lt_zero j)) hc (by omega) (show decode prog_1_method_1_code 39 = .ok (.new 22, 3) by decide +kernel) (fun q H hP hD hS => ?_)
  refine lv_dup hx hb (show decode prog_1_method_1_code 42 = .ok (.dup, 1) by decide +kernel) rfl ?_
  refine jn_callE (jn_runN (As := []) (b := q) (n := 0) (index := 24) (i1 := 83) (i2 := 81) (i3 := 40) (i4 := 82) ⟨hx, hb, hml, hown, hts⟩ hI (jn_iX3 l D cs q H.size) (by decide +kernel) (by decide +kernel) (by decide +kernel) (by decide +kernel) (by decide +kernel) rfl rfl rfl ⟨Nat.le_trans (by decide) hR.1, Nat.le_trans (by decide) hR.2⟩ hP hD [] rfl rfl rfl hsz (lv_room (Nat.le_of_ble_eq_true rfl)) (show decode prog_1_method_1_code 43 = .ok (.invokespecial 24, 3) by decide +kernel) ⟨hc, by omega⟩) hP hD hS hA (fun H locs hP hD hS => ?_)
  refine va_astqO (D := D) (cl := jm_cl0) hx hb hK hP hD hS k 1 ws.length 3 (jn_gl hk _) rfl (hI.2.2.1 _ (List.mem_filter.mpr ⟨List.mem_of_getElem? (i := 1409) (by decide +kernel), rfl⟩)) (jn_gr ws _ []) rfl (i := 1) (by unfold vp_in; decide) (show decode prog_1_method_1_code 46 = .ok (.aastore, 1) by decide +kernel) (fun H locs hP hD hS => ?_)
  exact kk q H locs hP hD hS
set_option maxHeartbeats 4000000 in
set_option maxRecDepth 100000 in
theorem jn_k2 (C : jn_C D cs p s m args meth c) (hsz : ls.size = 2) (hP : va_P D jm_cl0 ws H) (hD : va_D A ws) (hS : va_S A H0 H locs) (hA : ∀ q, H0.size ≤ q → A q) {k qa : Nat} {f : Nat → Option Nat} {qz : Nat} (hk : ws[k]? = some (qa, .inl (cs 1, 8, .inr (.inr (.inr (.inr f)))))) (hR : 4 ≤ R.frames ∧ 72 ≤ R.locals) (hc : cells + 1 ≤ R.cells) (hs : slots ≤ R.slots)
    (kk : ∀ (q : Nat) (H1 : Heap) (locs1 : List Loc), va_P D jm_cl0 ((ws ++ ([(q, .inr (8, []))] : va_W)).set k (qa, .inl (cs 1, 8, .inr (.inr (.inr (.inr (va_up f 2 (some q)))))))) H1 → va_D A ((ws ++ ([(q, .inr (8, []))] : va_W)).set k (qa, .inl (cs 1, 8, .inr (.inr (.inr (.inr (va_up f 2 (some q)))))))) → va_S A H0 H1 locs1 → W p l e R s m args below meth c H1 locs1 (cells + 1) slots Q (F0 m 57 ls [.ref qa, .ref qz])) : W p l e R s m args below meth c H locs cells slots Q (F0 m 47 ls [.ref qa, .ref qz]) := by
  obtain ⟨⟨hx, hb, hml, hown, hts⟩, hI, hin⟩ := C
  have hK := hI.1
  refine lv_dup hx hb (show decode prog_1_method_1_code 47 = .ok (.dup, 1) by decide +kernel) rfl ?_
  refine lv_iconst (v := 2) hx hb (show decode prog_1_method_1_code 48 = .ok (.iconst 2, 1) by decide +kernel) (by decide) ?_
  refine va_new (cl := jm_cl0) (ci := 8) (fs := []) (C := RX9) (T := TX9) (N := 0) (index := 25) hx hb hts (jm_uws (ci := 8) rfl) tyX9 tyX9_ok hown (hts _ (jm_at_T (i := 86) (by decide +kernel))) (hts _ (jm_at_T (i := 87) (by decide +kernel))) (hts _ (jm_at_T (i := 41) (by decide +kernel))) hK hP hD hS hA rfl (fun j hj => absurd hj (Nat.not_lt_zero j)) hc (by omega) (show decode prog_1_method_1_code 49 = .ok (.new 25, 3) by decide +kernel) (fun q H hP hD hS => ?_)
  refine lv_dup hx hb (show decode prog_1_method_1_code 52 = .ok (.dup, 1) by decide +kernel) rfl ?_
  refine jn_callE (jn_runN (As := []) (b := q) (n := 0) (index := 27) (i1 := 90) (i2 := 88) (i3 := 41) (i4 := 89) ⟨hx, hb, hml, hown, hts⟩ hI (jn_iX9 l D cs q H.size) (by decide +kernel) (by decide +kernel) (by decide +kernel) (by decide +kernel) (by decide +kernel) rfl rfl rfl ⟨Nat.le_trans (by decide) hR.1, Nat.le_trans (by decide) hR.2⟩ hP hD [] rfl rfl rfl hsz (lv_room (Nat.le_of_ble_eq_true rfl)) (show decode prog_1_method_1_code 53 = .ok (.invokespecial 27, 3) by decide +kernel) ⟨hc, by omega⟩) hP hD hS hA (fun H locs hP hD hS => ?_)
  refine va_astqO (D := D) (cl := jm_cl0) hx hb hK hP hD hS k 1 ws.length 8 (jn_gl hk _) rfl (hI.2.2.1 _ (List.mem_filter.mpr ⟨List.mem_of_getElem? (i := 1410) (by decide +kernel), rfl⟩)) (jn_gr ws _ []) rfl (i := 2) (by unfold vp_in; decide) (show decode prog_1_method_1_code 56 = .ok (.aastore, 1) by decide +kernel) (fun H locs hP hD hS => ?_)
  exact kk q H locs hP hD hS
set_option maxHeartbeats 4000000 in
set_option maxRecDepth 100000 in
theorem jn_k3 (C : jn_C D cs p s m args meth c) (hsz : ls.size = 2) (hP : va_P D jm_cl0 ws H) (hD : va_D A ws) (hS : va_S A H0 H locs) (hA : ∀ q, H0.size ≤ q → A q) {k qa : Nat} {f : Nat → Option Nat} {qz : Nat} (hk : ws[k]? = some (qa, .inl (cs 1, 8, .inr (.inr (.inr (.inr f)))))) (hR : 4 ≤ R.frames ∧ 72 ≤ R.locals) (hc : cells + 1 ≤ R.cells) (hs : slots ≤ R.slots)
    (kk : ∀ (q : Nat) (H1 : Heap) (locs1 : List Loc), va_P D jm_cl0 ((ws ++ ([(q, .inr (9, []))] : va_W)).set k (qa, .inl (cs 1, 8, .inr (.inr (.inr (.inr (va_up f 3 (some q)))))))) H1 → va_D A ((ws ++ ([(q, .inr (9, []))] : va_W)).set k (qa, .inl (cs 1, 8, .inr (.inr (.inr (.inr (va_up f 3 (some q)))))))) → va_S A H0 H1 locs1 → W p l e R s m args below meth c H1 locs1 (cells + 1) slots Q (F0 m 67 ls [.ref qa, .ref qz])) : W p l e R s m args below meth c H locs cells slots Q (F0 m 57 ls [.ref qa, .ref qz]) := by
  obtain ⟨⟨hx, hb, hml, hown, hts⟩, hI, hin⟩ := C
  have hK := hI.1
  refine lv_dup hx hb (show decode prog_1_method_1_code 57 = .ok (.dup, 1) by decide +kernel) rfl ?_
  refine lv_iconst (v := 3) hx hb (show decode prog_1_method_1_code 58 = .ok (.iconst 3, 1) by decide +kernel) (by decide) ?_
  refine va_new (cl := jm_cl0) (ci := 9) (fs := []) (C := RX10) (T := TX10) (N := 0) (index := 28) hx hb hts (jm_uws (ci := 9) rfl) tyX10 tyX10_ok hown (hts _ (jm_at_T (i := 93) (by decide +kernel))) (hts _ (jm_at_T (i := 94) (by decide +kernel))) (hts _ (jm_at_T (i := 42) (by decide +kernel))) hK hP hD hS hA rfl (fun j hj => absurd hj (Nat.not_lt_zero j)) hc (by omega) (show decode prog_1_method_1_code 59 = .ok (.new 28, 3) by decide +kernel) (fun q H hP hD hS => ?_)
  refine lv_dup hx hb (show decode prog_1_method_1_code 62 = .ok (.dup, 1) by decide +kernel) rfl ?_
  refine jn_callE (jn_runN (As := []) (b := q) (n := 0) (index := 30) (i1 := 97) (i2 := 95) (i3 := 42) (i4 := 96) ⟨hx, hb, hml, hown, hts⟩ hI (jn_iX10 l D cs q H.size) (by decide +kernel) (by decide +kernel) (by decide +kernel) (by decide +kernel) (by decide +kernel) rfl rfl rfl ⟨Nat.le_trans (by decide) hR.1, Nat.le_trans (by decide) hR.2⟩ hP hD [] rfl rfl rfl hsz (lv_room (Nat.le_of_ble_eq_true rfl)) (show decode prog_1_method_1_code 63 = .ok (.invokespecial 30, 3) by decide +kernel) ⟨hc, by omega⟩) hP hD hS hA (fun H locs hP hD hS => ?_)
  refine va_astqO (D := D) (cl := jm_cl0) hx hb hK hP hD hS k 1 ws.length 9 (jn_gl hk _) rfl (hI.2.2.1 _ (List.mem_filter.mpr ⟨List.mem_of_getElem? (i := 1411) (by decide +kernel), rfl⟩)) (jn_gr ws _ []) rfl (i := 3) (by unfold vp_in; decide) (show decode prog_1_method_1_code 66 = .ok (.aastore, 1) by decide +kernel) (fun H locs hP hD hS => ?_)
  exact kk q H locs hP hD hS
set_option maxHeartbeats 4000000 in
set_option maxRecDepth 100000 in
theorem jn_k4 (C : jn_C D cs p s m args meth c) (hsz : ls.size = 2) (hP : va_P D jm_cl0 ws H) (hD : va_D A ws) (hS : va_S A H0 H locs) (hA : ∀ q, H0.size ≤ q → A q) {k qa : Nat} {f : Nat → Option Nat} {qz : Nat} (hk : ws[k]? = some (qa, .inl (cs 1, 8, .inr (.inr (.inr (.inr f)))))) (hR : 4 ≤ R.frames ∧ 72 ≤ R.locals) (hc : cells + 1 ≤ R.cells) (hs : slots ≤ R.slots)
    (kk : ∀ (q : Nat) (H1 : Heap) (locs1 : List Loc), va_P D jm_cl0 ((ws ++ ([(q, .inr (2, []))] : va_W)).set k (qa, .inl (cs 1, 8, .inr (.inr (.inr (.inr (va_up f 4 (some q)))))))) H1 → va_D A ((ws ++ ([(q, .inr (2, []))] : va_W)).set k (qa, .inl (cs 1, 8, .inr (.inr (.inr (.inr (va_up f 4 (some q)))))))) → va_S A H0 H1 locs1 → W p l e R s m args below meth c H1 locs1 (cells + 1) slots Q (F0 m 77 ls [.ref qa, .ref qz])) : W p l e R s m args below meth c H locs cells slots Q (F0 m 67 ls [.ref qa, .ref qz]) := by
  obtain ⟨⟨hx, hb, hml, hown, hts⟩, hI, hin⟩ := C
  have hK := hI.1
  refine lv_dup hx hb (show decode prog_1_method_1_code 67 = .ok (.dup, 1) by decide +kernel) rfl ?_
  refine lv_iconst (v := 4) hx hb (show decode prog_1_method_1_code 68 = .ok (.iconst 4, 1) by decide +kernel) (by decide) ?_
  refine va_new (cl := jm_cl0) (ci := 2) (fs := []) (C := RX2) (T := TX2) (N := 0) (index := 31) hx hb hts (jm_uws (ci := 2) rfl) tyX2 tyX2_ok hown (hts _ (jm_at_T (i := 100) (by decide +kernel))) (hts _ (jm_at_T (i := 101) (by decide +kernel))) (hts _ (jm_at_T (i := 43) (by decide +kernel))) hK hP hD hS hA rfl (fun j hj => absurd hj (Nat.not_lt_zero j)) hc (by omega) (show decode prog_1_method_1_code 69 = .ok (.new 31, 3) by decide +kernel) (fun q H hP hD hS => ?_)
  refine lv_dup hx hb (show decode prog_1_method_1_code 72 = .ok (.dup, 1) by decide +kernel) rfl ?_
  refine jn_callE (jn_runN (As := []) (b := q) (n := 0) (index := 33) (i1 := 104) (i2 := 102) (i3 := 43) (i4 := 103) ⟨hx, hb, hml, hown, hts⟩ hI (jn_iX2 l D cs q H.size) (by decide +kernel) (by decide +kernel) (by decide +kernel) (by decide +kernel) (by decide +kernel) rfl rfl rfl ⟨Nat.le_trans (by decide) hR.1, Nat.le_trans (by decide) hR.2⟩ hP hD [] rfl rfl rfl hsz (lv_room (Nat.le_of_ble_eq_true rfl)) (show decode prog_1_method_1_code 73 = .ok (.invokespecial 33, 3) by decide +kernel) ⟨hc, by omega⟩) hP hD hS hA (fun H locs hP hD hS => ?_)
  refine va_astqO (D := D) (cl := jm_cl0) hx hb hK hP hD hS k 1 ws.length 2 (jn_gl hk _) rfl (hI.2.2.1 _ (List.mem_filter.mpr ⟨List.mem_of_getElem? (i := 1412) (by decide +kernel), rfl⟩)) (jn_gr ws _ []) rfl (i := 4) (by unfold vp_in; decide) (show decode prog_1_method_1_code 76 = .ok (.aastore, 1) by decide +kernel) (fun H locs hP hD hS => ?_)
  exact kk q H locs hP hD hS
set_option maxHeartbeats 4000000 in
set_option maxRecDepth 100000 in
theorem jn_k5 (C : jn_C D cs p s m args meth c) (hsz : ls.size = 2) (hP : va_P D jm_cl0 ws H) (hD : va_D A ws) (hS : va_S A H0 H locs) (hA : ∀ q, H0.size ≤ q → A q) {k qa : Nat} {f : Nat → Option Nat} {qz : Nat} (hk : ws[k]? = some (qa, .inl (cs 1, 8, .inr (.inr (.inr (.inr f)))))) (hR : 4 ≤ R.frames ∧ 72 ≤ R.locals) (hc : cells + 1 ≤ R.cells) (hs : slots ≤ R.slots)
    (kk : ∀ (q : Nat) (H1 : Heap) (locs1 : List Loc), va_P D jm_cl0 ((ws ++ ([(q, .inr (6, []))] : va_W)).set k (qa, .inl (cs 1, 8, .inr (.inr (.inr (.inr (va_up f 5 (some q)))))))) H1 → va_D A ((ws ++ ([(q, .inr (6, []))] : va_W)).set k (qa, .inl (cs 1, 8, .inr (.inr (.inr (.inr (va_up f 5 (some q)))))))) → va_S A H0 H1 locs1 → W p l e R s m args below meth c H1 locs1 (cells + 1) slots Q (F0 m 87 ls [.ref qa, .ref qz])) : W p l e R s m args below meth c H locs cells slots Q (F0 m 77 ls [.ref qa, .ref qz]) := by
  obtain ⟨⟨hx, hb, hml, hown, hts⟩, hI, hin⟩ := C
  have hK := hI.1
  refine lv_dup hx hb (show decode prog_1_method_1_code 77 = .ok (.dup, 1) by decide +kernel) rfl ?_
  refine lv_iconst (v := 5) hx hb (show decode prog_1_method_1_code 78 = .ok (.iconst 5, 1) by decide +kernel) (by decide) ?_
  refine va_new (cl := jm_cl0) (ci := 6) (fs := []) (C := RX6) (T := TX6) (N := 0) (index := 34) hx hb hts (jm_uws (ci := 6) rfl) tyX6 tyX6_ok hown (hts _ (jm_at_T (i := 107) (by decide +kernel))) (hts _ (jm_at_T (i := 108) (by decide +kernel))) (hts _ (jm_at_T (i := 44) (by decide +kernel))) hK hP hD hS hA rfl (fun j hj => absurd hj (Nat.not_lt_zero j)) hc (by omega) (show decode prog_1_method_1_code 79 = .ok (.new 34, 3) by decide +kernel) (fun q H hP hD hS => ?_)
  refine lv_dup hx hb (show decode prog_1_method_1_code 82 = .ok (.dup, 1) by decide +kernel) rfl ?_
  refine jn_callE (jn_runN (As := []) (b := q) (n := 0) (index := 36) (i1 := 111) (i2 := 109) (i3 := 44) (i4 := 110) ⟨hx, hb, hml, hown, hts⟩ hI (jn_iX6 l D cs q H.size) (by decide +kernel) (by decide +kernel) (by decide +kernel) (by decide +kernel) (by decide +kernel) rfl rfl rfl ⟨Nat.le_trans (by decide) hR.1, Nat.le_trans (by decide) hR.2⟩ hP hD [] rfl rfl rfl hsz (lv_room (Nat.le_of_ble_eq_true rfl)) (show decode prog_1_method_1_code 83 = .ok (.invokespecial 36, 3) by decide +kernel) ⟨hc, by omega⟩) hP hD hS hA (fun H locs hP hD hS => ?_)
  refine va_astqO (D := D) (cl := jm_cl0) hx hb hK hP hD hS k 1 ws.length 6 (jn_gl hk _) rfl (hI.2.2.1 _ (List.mem_filter.mpr ⟨List.mem_of_getElem? (i := 1413) (by decide +kernel), rfl⟩)) (jn_gr ws _ []) rfl (i := 5) (by unfold vp_in; decide) (show decode prog_1_method_1_code 86 = .ok (.aastore, 1) by decide +kernel) (fun H locs hP hD hS => ?_)
  exact kk q H locs hP hD hS
set_option maxHeartbeats 4000000 in
set_option maxRecDepth 100000 in
theorem jn_k6 (C : jn_C D cs p s m args meth c) (hsz : ls.size = 2) (hP : va_P D jm_cl0 ws H) (hD : va_D A ws) (hS : va_S A H0 H locs) (hA : ∀ q, H0.size ≤ q → A q) {k qa : Nat} {f : Nat → Option Nat} {qz : Nat} (hk : ws[k]? = some (qa, .inl (cs 1, 8, .inr (.inr (.inr (.inr f)))))) (hR : 4 ≤ R.frames ∧ 72 ≤ R.locals) (hc : cells + 1 ≤ R.cells) (hs : slots ≤ R.slots)
    (kk : ∀ (q : Nat) (H1 : Heap) (locs1 : List Loc), va_P D jm_cl0 ((ws ++ ([(q, .inr (7, []))] : va_W)).set k (qa, .inl (cs 1, 8, .inr (.inr (.inr (.inr (va_up f 6 (some q)))))))) H1 → va_D A ((ws ++ ([(q, .inr (7, []))] : va_W)).set k (qa, .inl (cs 1, 8, .inr (.inr (.inr (.inr (va_up f 6 (some q)))))))) → va_S A H0 H1 locs1 → W p l e R s m args below meth c H1 locs1 (cells + 1) slots Q (F0 m 98 ls [.ref qa, .ref qz])) : W p l e R s m args below meth c H locs cells slots Q (F0 m 87 ls [.ref qa, .ref qz]) := by
  obtain ⟨⟨hx, hb, hml, hown, hts⟩, hI, hin⟩ := C
  have hK := hI.1
  refine lv_dup hx hb (show decode prog_1_method_1_code 87 = .ok (.dup, 1) by decide +kernel) rfl ?_
  refine lv_bipush (v := 6) hx hb (show decode prog_1_method_1_code 88 = .ok (.bipush 6, 2) by decide +kernel) (by decide) ?_
  refine va_new (cl := jm_cl0) (ci := 7) (fs := []) (C := RX7) (T := TX7) (N := 0) (index := 37) hx hb hts (jm_uws (ci := 7) rfl) tyX7 tyX7_ok hown (hts _ (jm_at_T (i := 114) (by decide +kernel))) (hts _ (jm_at_T (i := 115) (by decide +kernel))) (hts _ (jm_at_T (i := 45) (by decide +kernel))) hK hP hD hS hA rfl (fun j hj => absurd hj (Nat.not_lt_zero j)) hc (by omega) (show decode prog_1_method_1_code 90 = .ok (.new 37, 3) by decide +kernel) (fun q H hP hD hS => ?_)
  refine lv_dup hx hb (show decode prog_1_method_1_code 93 = .ok (.dup, 1) by decide +kernel) rfl ?_
  refine jn_callE (jn_runN (As := []) (b := q) (n := 0) (index := 39) (i1 := 118) (i2 := 116) (i3 := 45) (i4 := 117) ⟨hx, hb, hml, hown, hts⟩ hI (jn_iX7 l D cs q H.size) (by decide +kernel) (by decide +kernel) (by decide +kernel) (by decide +kernel) (by decide +kernel) rfl rfl rfl ⟨Nat.le_trans (by decide) hR.1, Nat.le_trans (by decide) hR.2⟩ hP hD [] rfl rfl rfl hsz (lv_room (Nat.le_of_ble_eq_true rfl)) (show decode prog_1_method_1_code 94 = .ok (.invokespecial 39, 3) by decide +kernel) ⟨hc, by omega⟩) hP hD hS hA (fun H locs hP hD hS => ?_)
  refine va_astqO (D := D) (cl := jm_cl0) hx hb hK hP hD hS k 1 ws.length 7 (jn_gl hk _) rfl (hI.2.2.1 _ (List.mem_filter.mpr ⟨List.mem_of_getElem? (i := 1414) (by decide +kernel), rfl⟩)) (jn_gr ws _ []) rfl (i := 6) (by unfold vp_in; decide) (show decode prog_1_method_1_code 97 = .ok (.aastore, 1) by decide +kernel) (fun H locs hP hD hS => ?_)
  exact kk q H locs hP hD hS
set_option maxHeartbeats 4000000 in
set_option maxRecDepth 100000 in
theorem jn_k7 (C : jn_C D cs p s m args meth c) (hsz : ls.size = 2) (hP : va_P D jm_cl0 ws H) (hD : va_D A ws) (hS : va_S A H0 H locs) (hA : ∀ q, H0.size ≤ q → A q) {k qa : Nat} {f : Nat → Option Nat} {qz : Nat} (hk : ws[k]? = some (qa, .inl (cs 1, 8, .inr (.inr (.inr (.inr f)))))) (hR : 4 ≤ R.frames ∧ 72 ≤ R.locals) (hc : cells + 1 ≤ R.cells) (hs : slots ≤ R.slots)
    (kk : ∀ (q : Nat) (H1 : Heap) (locs1 : List Loc), va_P D jm_cl0 ((ws ++ ([(q, .inr (4, []))] : va_W)).set k (qa, .inl (cs 1, 8, .inr (.inr (.inr (.inr (va_up f 7 (some q)))))))) H1 → va_D A ((ws ++ ([(q, .inr (4, []))] : va_W)).set k (qa, .inl (cs 1, 8, .inr (.inr (.inr (.inr (va_up f 7 (some q)))))))) → va_S A H0 H1 locs1 → W p l e R s m args below meth c H1 locs1 (cells + 1) slots Q (F0 m 109 ls [.ref qa, .ref qz])) : W p l e R s m args below meth c H locs cells slots Q (F0 m 98 ls [.ref qa, .ref qz]) := by
  obtain ⟨⟨hx, hb, hml, hown, hts⟩, hI, hin⟩ := C
  have hK := hI.1
  refine lv_dup hx hb (show decode prog_1_method_1_code 98 = .ok (.dup, 1) by decide +kernel) rfl ?_
  refine lv_bipush (v := 7) hx hb (show decode prog_1_method_1_code 99 = .ok (.bipush 7, 2) by decide +kernel) (by decide) ?_
  refine va_new (cl := jm_cl0) (ci := 4) (fs := []) (C := RX4) (T := TX4) (N := 0) (index := 40) hx hb hts (jm_uws (ci := 4) rfl) tyX4 tyX4_ok hown (hts _ (jm_at_T (i := 121) (by decide +kernel))) (hts _ (jm_at_T (i := 122) (by decide +kernel))) (hts _ (jm_at_T (i := 46) (by decide +kernel))) hK hP hD hS hA rfl (fun j hj => absurd hj (Nat.not_lt_zero j)) hc (by omega) (show decode prog_1_method_1_code 101 = .ok (.new 40, 3) by decide +kernel) (fun q H hP hD hS => ?_)
  refine lv_dup hx hb (show decode prog_1_method_1_code 104 = .ok (.dup, 1) by decide +kernel) rfl ?_
  refine jn_callE (jn_runN (As := []) (b := q) (n := 0) (index := 42) (i1 := 125) (i2 := 123) (i3 := 46) (i4 := 124) ⟨hx, hb, hml, hown, hts⟩ hI (jn_iX4 l D cs q H.size) (by decide +kernel) (by decide +kernel) (by decide +kernel) (by decide +kernel) (by decide +kernel) rfl rfl rfl ⟨Nat.le_trans (by decide) hR.1, Nat.le_trans (by decide) hR.2⟩ hP hD [] rfl rfl rfl hsz (lv_room (Nat.le_of_ble_eq_true rfl)) (show decode prog_1_method_1_code 105 = .ok (.invokespecial 42, 3) by decide +kernel) ⟨hc, by omega⟩) hP hD hS hA (fun H locs hP hD hS => ?_)
  refine va_astqO (D := D) (cl := jm_cl0) hx hb hK hP hD hS k 1 ws.length 4 (jn_gl hk _) rfl (hI.2.2.1 _ (List.mem_filter.mpr ⟨List.mem_of_getElem? (i := 1415) (by decide +kernel), rfl⟩)) (jn_gr ws _ []) rfl (i := 7) (by unfold vp_in; decide) (show decode prog_1_method_1_code 108 = .ok (.aastore, 1) by decide +kernel) (fun H locs hP hD hS => ?_)
  exact kk q H locs hP hD hS
set_option maxHeartbeats 4000000 in
set_option maxRecDepth 100000 in
theorem jn_f0 (C : jn_C D cs p s m args meth c) {h0 kq : Nat} (hl : lv_has ls 2 [(0, .ref h0)]) (hP : va_P D jm_cl0 ws H) (hD : va_D A ws) (hS : va_S A H0 H locs) (hA : ∀ q, H0.size ≤ q → A q) {fs : List Value} (h0w : ws[0]? = some (h0, .inr (10, fs))) (hk : fs[0]? = some (.ref kq)) (hfs : 1 < fs.length) (hR : 4 ≤ R.frames ∧ 72 ≤ R.locals) (hc : cells + 9 ≤ R.cells) (hs : slots + 83 ≤ R.slots)
    (kk : ∀ (q : Nat) (u : Nat → Nat) (H1 : Heap) (locs1 : List Loc), va_P D jm_cl0 ((ws ++ jn_fr cs q kq u).set 0 (h0, .inr (10, fs.set 1 (.ref q)))) H1 → va_D A ((ws ++ jn_fr cs q kq u).set 0 (h0, .inr (10, fs.set 1 (.ref q)))) → va_S A H0 H1 locs1 → W p l e R s m args below meth c H1 locs1 (cells + 9) (slots + 83) Q (F0 m 127 ls [])) : W p l e R s m args below meth c H locs cells slots Q (F0 m 112 ls []) := by
  obtain ⟨⟨hx, hb, hml, hown, hts⟩, hI, hin⟩ := C
  have hK := hI.1
  refine lv_aload_n hx hb (show decode prog_1_method_1_code 112 = .ok (.aload_n 0, 1) by decide +kernel) rfl (lv_at hl 0 rfl) ?_
  refine va_new (cl := jm_cl0) (ci := 1) (fs := [.null, .null, .null, .null, .null, .null, .null, .null, .null, .int 0, .int 0, .int 0, .int 0, .int 0, .int 0]) (C := RX1) (T := TX1) (N := 15) (index := 47) hx hb hts (jm_uws (ci := 1) rfl) tyX1 tyX1_ok hown (hts _ (jm_at_T (i := 128) (by decide +kernel))) (hts _ (jm_at_T (i := 129) (by decide +kernel))) (hts _ (jm_at_T (i := 47) (by decide +kernel))) hK hP hD hS hA rfl (fun j hj => by rcases (show j = 0 ∨ j = 1 ∨ j = 2 ∨ j = 3 ∨ j = 4 ∨ j = 5 ∨ j = 6 ∨ j = 7 ∨ j = 8 ∨ j = 9 ∨ j = 10 ∨ j = 11 ∨ j = 12 ∨ j = 13 ∨ j = 14 by omega) with rfl | rfl | rfl | rfl | rfl | rfl | rfl | rfl | rfl | rfl | rfl | rfl | rfl | rfl | rfl <;> rfl) (by omega) (by omega) (show decode prog_1_method_1_code 113 = .ok (.new 47, 3) by decide +kernel) (fun q H hP hD hS => ?_)
  refine lv_dup hx hb (show decode prog_1_method_1_code 116 = .ok (.dup, 1) by decide +kernel) rfl ?_
  refine lv_aload_n hx hb (show decode prog_1_method_1_code 117 = .ok (.aload_n 0, 1) by decide +kernel) rfl (lv_at hl 0 rfl) ?_
  refine va_get (D := D) (cl := jm_cl0) (ci := 10) (v := .ref kq) (C := RX11) (T := TX11) (N := 7) (index := 43) hx hb hts (jm_uws (ci := 10) rfl) hown hK hP 0 (jn_gl h0w _) rfl 0 (by decide) (hts _ (jm_at_T (i := 237) (by decide +kernel))) (fun _ h9 => h9) hk (show decode prog_1_method_1_code 118 = .ok (.getfield 43, 3) by decide +kernel) ?_
  refine jn_callL (jn_runP (As := [.ref kq]) (b := q) (n := 1) (index := 49) (i1 := 132) (i2 := 130) (i3 := 47) (i4 := 131) ⟨hx, hb, hml, hown, hts⟩ hI (jn_iX1 l D cs q kq H.size) (by decide +kernel) (by decide +kernel) (by decide +kernel) (by decide +kernel) (by decide +kernel) rfl rfl rfl ⟨Nat.le_trans (by decide) hR.1, Nat.le_trans (by decide) hR.2⟩ hP hD [ws.length] (by simp [jn_gr]) rfl rfl hl.1 (lv_room (Nat.le_of_ble_eq_true rfl)) (show decode prog_1_method_1_code 121 = .ok (.invokespecial 49, 3) by decide +kernel) ⟨by omega, by omega⟩) hP hD hS hA (fun u H locs hP hD hS => ?_)
  refine va_putF (D := D) (cl := jm_cl0) (ci := 10) (v := .ref q) (ty := .object "PapersAreOnCats$Frontier") (C := RX11) (T := TX11) (N := 7) (index := 52) hx hb hts (jm_uws (ci := 10) rfl) tyX11 tyX11_ok nmX11 hown hK hP hD hS 0 (jn_gl h0w _) rfl 1 (by decide) (hts _ (jm_at_T (i := 238) (by decide +kernel))) (fun _ h9 => h9) rfl hin rfl (by decide +kernel) rfl rfl hfs (show decode prog_1_method_1_code 124 = .ok (.putfield 52, 3) by decide +kernel) (fun H locs hP hD hS => ?_)
  refine W.widen (k := cells + 9) (n := slots + 83) (by omega) (by omega) ?_
  exact kk q u H locs hP hD hS
set_option maxHeartbeats 4000000 in
set_option maxRecDepth 100000 in
theorem jn_f1 (C : jn_C D cs p s m args meth c) {h0 kq : Nat} (hl : lv_has ls 2 [(0, .ref h0)]) (hP : va_P D jm_cl0 ws H) (hD : va_D A ws) (hS : va_S A H0 H locs) (hA : ∀ q, H0.size ≤ q → A q) {fs : List Value} (h0w : ws[0]? = some (h0, .inr (10, fs))) (hk : fs[0]? = some (.ref kq)) (hfs : 2 < fs.length) (hR : 4 ≤ R.frames ∧ 72 ≤ R.locals) (hc : cells + 9 ≤ R.cells) (hs : slots + 83 ≤ R.slots)
    (kk : ∀ (q : Nat) (u : Nat → Nat) (H1 : Heap) (locs1 : List Loc), va_P D jm_cl0 ((ws ++ jn_fr cs q kq u).set 0 (h0, .inr (10, fs.set 2 (.ref q)))) H1 → va_D A ((ws ++ jn_fr cs q kq u).set 0 (h0, .inr (10, fs.set 2 (.ref q)))) → va_S A H0 H1 locs1 → W p l e R s m args below meth c H1 locs1 (cells + 9) (slots + 83) Q (F0 m 142 ls [])) : W p l e R s m args below meth c H locs cells slots Q (F0 m 127 ls []) := by
  obtain ⟨⟨hx, hb, hml, hown, hts⟩, hI, hin⟩ := C
  have hK := hI.1
  refine lv_aload_n hx hb (show decode prog_1_method_1_code 127 = .ok (.aload_n 0, 1) by decide +kernel) rfl (lv_at hl 0 rfl) ?_
  refine va_new (cl := jm_cl0) (ci := 1) (fs := [.null, .null, .null, .null, .null, .null, .null, .null, .null, .int 0, .int 0, .int 0, .int 0, .int 0, .int 0]) (C := RX1) (T := TX1) (N := 15) (index := 47) hx hb hts (jm_uws (ci := 1) rfl) tyX1 tyX1_ok hown (hts _ (jm_at_T (i := 128) (by decide +kernel))) (hts _ (jm_at_T (i := 129) (by decide +kernel))) (hts _ (jm_at_T (i := 47) (by decide +kernel))) hK hP hD hS hA rfl (fun j hj => by rcases (show j = 0 ∨ j = 1 ∨ j = 2 ∨ j = 3 ∨ j = 4 ∨ j = 5 ∨ j = 6 ∨ j = 7 ∨ j = 8 ∨ j = 9 ∨ j = 10 ∨ j = 11 ∨ j = 12 ∨ j = 13 ∨ j = 14 by omega) with rfl | rfl | rfl | rfl | rfl | rfl | rfl | rfl | rfl | rfl | rfl | rfl | rfl | rfl | rfl <;> rfl) (by omega) (by omega) (show decode prog_1_method_1_code 128 = .ok (.new 47, 3) by decide +kernel) (fun q H hP hD hS => ?_)
  refine lv_dup hx hb (show decode prog_1_method_1_code 131 = .ok (.dup, 1) by decide +kernel) rfl ?_
  refine lv_aload_n hx hb (show decode prog_1_method_1_code 132 = .ok (.aload_n 0, 1) by decide +kernel) rfl (lv_at hl 0 rfl) ?_
  refine va_get (D := D) (cl := jm_cl0) (ci := 10) (v := .ref kq) (C := RX11) (T := TX11) (N := 7) (index := 43) hx hb hts (jm_uws (ci := 10) rfl) hown hK hP 0 (jn_gl h0w _) rfl 0 (by decide) (hts _ (jm_at_T (i := 237) (by decide +kernel))) (fun _ h9 => h9) hk (show decode prog_1_method_1_code 133 = .ok (.getfield 43, 3) by decide +kernel) ?_
  refine jn_callL (jn_runP (As := [.ref kq]) (b := q) (n := 1) (index := 49) (i1 := 132) (i2 := 130) (i3 := 47) (i4 := 131) ⟨hx, hb, hml, hown, hts⟩ hI (jn_iX1 l D cs q kq H.size) (by decide +kernel) (by decide +kernel) (by decide +kernel) (by decide +kernel) (by decide +kernel) rfl rfl rfl ⟨Nat.le_trans (by decide) hR.1, Nat.le_trans (by decide) hR.2⟩ hP hD [ws.length] (by simp [jn_gr]) rfl rfl hl.1 (lv_room (Nat.le_of_ble_eq_true rfl)) (show decode prog_1_method_1_code 136 = .ok (.invokespecial 49, 3) by decide +kernel) ⟨by omega, by omega⟩) hP hD hS hA (fun u H locs hP hD hS => ?_)
  refine va_putF (D := D) (cl := jm_cl0) (ci := 10) (v := .ref q) (ty := .object "PapersAreOnCats$Frontier") (C := RX11) (T := TX11) (N := 7) (index := 56) hx hb hts (jm_uws (ci := 10) rfl) tyX11 tyX11_ok nmX11 hown hK hP hD hS 0 (jn_gl h0w _) rfl 2 (by decide) (hts _ (jm_at_T (i := 239) (by decide +kernel))) (fun _ h9 => h9) rfl hin rfl (by decide +kernel) rfl rfl hfs (show decode prog_1_method_1_code 139 = .ok (.putfield 56, 3) by decide +kernel) (fun H locs hP hD hS => ?_)
  refine W.widen (k := cells + 9) (n := slots + 83) (by omega) (by omega) ?_
  exact kk q u H locs hP hD hS
set_option maxHeartbeats 4000000 in
set_option maxRecDepth 100000 in
theorem jn_f2 (C : jn_C D cs p s m args meth c) {h0 kq : Nat} (hl : lv_has ls 2 [(0, .ref h0)]) (hP : va_P D jm_cl0 ws H) (hD : va_D A ws) (hS : va_S A H0 H locs) (hA : ∀ q, H0.size ≤ q → A q) {fs : List Value} (h0w : ws[0]? = some (h0, .inr (10, fs))) (hk : fs[0]? = some (.ref kq)) (hfs : 3 < fs.length) (hR : 4 ≤ R.frames ∧ 72 ≤ R.locals) (hc : cells + 9 ≤ R.cells) (hs : slots + 83 ≤ R.slots)
    (kk : ∀ (q : Nat) (u : Nat → Nat) (H1 : Heap) (locs1 : List Loc), va_P D jm_cl0 ((ws ++ jn_fr cs q kq u).set 0 (h0, .inr (10, fs.set 3 (.ref q)))) H1 → va_D A ((ws ++ jn_fr cs q kq u).set 0 (h0, .inr (10, fs.set 3 (.ref q)))) → va_S A H0 H1 locs1 → W p l e R s m args below meth c H1 locs1 (cells + 9) (slots + 83) Q (F0 m 157 ls [])) : W p l e R s m args below meth c H locs cells slots Q (F0 m 142 ls []) := by
  obtain ⟨⟨hx, hb, hml, hown, hts⟩, hI, hin⟩ := C
  have hK := hI.1
  refine lv_aload_n hx hb (show decode prog_1_method_1_code 142 = .ok (.aload_n 0, 1) by decide +kernel) rfl (lv_at hl 0 rfl) ?_
  refine va_new (cl := jm_cl0) (ci := 1) (fs := [.null, .null, .null, .null, .null, .null, .null, .null, .null, .int 0, .int 0, .int 0, .int 0, .int 0, .int 0]) (C := RX1) (T := TX1) (N := 15) (index := 47) hx hb hts (jm_uws (ci := 1) rfl) tyX1 tyX1_ok hown (hts _ (jm_at_T (i := 128) (by decide +kernel))) (hts _ (jm_at_T (i := 129) (by decide +kernel))) (hts _ (jm_at_T (i := 47) (by decide +kernel))) hK hP hD hS hA rfl (fun j hj => by rcases (show j = 0 ∨ j = 1 ∨ j = 2 ∨ j = 3 ∨ j = 4 ∨ j = 5 ∨ j = 6 ∨ j = 7 ∨ j = 8 ∨ j = 9 ∨ j = 10 ∨ j = 11 ∨ j = 12 ∨ j = 13 ∨ j = 14 by omega) with rfl | rfl | rfl | rfl | rfl | rfl | rfl | rfl | rfl | rfl | rfl | rfl | rfl | rfl | rfl <;> rfl) (by omega) (by omega) (show decode prog_1_method_1_code 143 = .ok (.new 47, 3) by decide +kernel) (fun q H hP hD hS => ?_)
  refine lv_dup hx hb (show decode prog_1_method_1_code 146 = .ok (.dup, 1) by decide +kernel) rfl ?_
  refine lv_aload_n hx hb (show decode prog_1_method_1_code 147 = .ok (.aload_n 0, 1) by decide +kernel) rfl (lv_at hl 0 rfl) ?_
  refine va_get (D := D) (cl := jm_cl0) (ci := 10) (v := .ref kq) (C := RX11) (T := TX11) (N := 7) (index := 43) hx hb hts (jm_uws (ci := 10) rfl) hown hK hP 0 (jn_gl h0w _) rfl 0 (by decide) (hts _ (jm_at_T (i := 237) (by decide +kernel))) (fun _ h9 => h9) hk (show decode prog_1_method_1_code 148 = .ok (.getfield 43, 3) by decide +kernel) ?_
  refine jn_callL (jn_runP (As := [.ref kq]) (b := q) (n := 1) (index := 49) (i1 := 132) (i2 := 130) (i3 := 47) (i4 := 131) ⟨hx, hb, hml, hown, hts⟩ hI (jn_iX1 l D cs q kq H.size) (by decide +kernel) (by decide +kernel) (by decide +kernel) (by decide +kernel) (by decide +kernel) rfl rfl rfl ⟨Nat.le_trans (by decide) hR.1, Nat.le_trans (by decide) hR.2⟩ hP hD [ws.length] (by simp [jn_gr]) rfl rfl hl.1 (lv_room (Nat.le_of_ble_eq_true rfl)) (show decode prog_1_method_1_code 151 = .ok (.invokespecial 49, 3) by decide +kernel) ⟨by omega, by omega⟩) hP hD hS hA (fun u H locs hP hD hS => ?_)
  refine va_putF (D := D) (cl := jm_cl0) (ci := 10) (v := .ref q) (ty := .object "PapersAreOnCats$Frontier") (C := RX11) (T := TX11) (N := 7) (index := 59) hx hb hts (jm_uws (ci := 10) rfl) tyX11 tyX11_ok nmX11 hown hK hP hD hS 0 (jn_gl h0w _) rfl 3 (by decide) (hts _ (jm_at_T (i := 240) (by decide +kernel))) (fun _ h9 => h9) rfl hin rfl (by decide +kernel) rfl rfl hfs (show decode prog_1_method_1_code 154 = .ok (.putfield 59, 3) by decide +kernel) (fun H locs hP hD hS => ?_)
  refine W.widen (k := cells + 9) (n := slots + 83) (by omega) (by omega) ?_
  exact kk q u H locs hP hD hS
set_option maxHeartbeats 4000000 in
set_option maxRecDepth 100000 in
theorem jn_s (C : jn_C D cs p s m args meth c) {h0 sq ks i : Nat} (hi : i < 8) (hl : lv_has ls 2 [(1, .int (nI i)), (0, .ref h0)]) (hP : va_P D jm_cl0 ws H) (hD : va_D A ws) (hS : va_S A H0 H locs) (hA : ∀ q, H0.size ≤ q → A q) {fs : List Value} {f : Nat → Option Nat} (h0w : ws[0]? = some (h0, .inr (10, fs))) (hk : fs[5]? = some (.ref sq)) (hks : ws[ks]? = some (sq, .inl (cs 2, 8, .inr (.inr (.inr (.inr f)))))) (hR : 4 ≤ R.frames ∧ 72 ≤ R.locals) (hc : cells + 2 ≤ R.cells) (hs : slots + 106 ≤ R.slots)
    (kk : ∀ (q : Nat) (u : Nat → Nat) (H1 : Heap) (locs1 : List Loc) (ls1 : Array Slot), lv_has ls1 2 [(1, .int (nI (i + 1))), (0, .ref h0)] → va_P D jm_cl0 ((ws ++ jn_sh cs q u).set ks (sq, .inl (cs 2, 8, .inr (.inr (.inr (.inr (va_up f i (some q)))))))) H1 → va_D A ((ws ++ jn_sh cs q u).set ks (sq, .inl (cs 2, 8, .inr (.inr (.inr (.inr (va_up f i (some q)))))))) → va_S A H0 H1 locs1 → W p l e R s m args below meth c H1 locs1 (cells + 2) (slots + 106) Q (F0 m 159 ls1 [])) : W p l e R s m args below meth c H locs cells slots Q (F0 m 159 ls []) := by
  obtain ⟨⟨hx, hb, hml, hown, hts⟩, hI, hin⟩ := C
  have hK := hI.1
  refine lv_iload_n hx hb (show decode prog_1_method_1_code 159 = .ok (.iload_n 1, 1) by decide +kernel) rfl (lv_at hl 0 rfl) ?_
  refine lv_bipush (v := nI 8) hx hb (show decode prog_1_method_1_code 160 = .ok (.bipush 8, 2) by decide +kernel) (by decide) ?_
  refine lv_icmp_ge (tgt := 184) hx hb (show decode prog_1_method_1_code 162 = .ok (.if_icmp .ge 22, 3) by decide +kernel) (by decide) (fun cz => absurd cz (nI_ge hi (by decide))) (fun cz => ?_)
  refine lv_aload_n hx hb (show decode prog_1_method_1_code 165 = .ok (.aload_n 0, 1) by decide +kernel) rfl (lv_at hl 1 rfl) ?_
  refine va_get (D := D) (cl := jm_cl0) (ci := 10) (v := .ref sq) (C := RX11) (T := TX11) (N := 7) (index := 11) hx hb hts (jm_uws (ci := 10) rfl) hown hK hP 0 h0w rfl 5 (by decide) (hts _ (jm_at_T (i := 242) (by decide +kernel))) (fun _ h9 => h9) hk (show decode prog_1_method_1_code 166 = .ok (.getfield 11, 3) by decide +kernel) ?_
  refine lv_iload_n hx hb (show decode prog_1_method_1_code 169 = .ok (.iload_n 1, 1) by decide +kernel) rfl (lv_at hl 0 rfl) ?_
  refine va_new (cl := jm_cl0) (ci := 5) (fs := [.int 0, .int 0, .int 0, .int 0, .int 0, .null]) (C := RX5) (T := TX5) (N := 6) (index := 9) hx hb hts (jm_uws (ci := 5) rfl) tyX5 tyX5_ok hown (hts _ (jm_at_T (i := 68) (by decide +kernel))) (hts _ (jm_at_T (i := 206) (by decide +kernel))) (hts _ (jm_at_T (i := 48) (by decide +kernel))) hK hP hD hS hA rfl (fun j hj => by rcases (show j = 0 ∨ j = 1 ∨ j = 2 ∨ j = 3 ∨ j = 4 ∨ j = 5 by omega) with rfl | rfl | rfl | rfl | rfl | rfl <;> rfl) (by omega) (by omega) (show decode prog_1_method_1_code 170 = .ok (.new 9, 3) by decide +kernel) (fun q H hP hD hS => ?_)
  refine lv_dup hx hb (show decode prog_1_method_1_code 173 = .ok (.dup, 1) by decide +kernel) rfl ?_
  refine jn_callL (jn_runN (As := []) (b := q) (n := 0) (index := 62) (i1 := 209) (i2 := 207) (i3 := 48) (i4 := 208) ⟨hx, hb, hml, hown, hts⟩ hI (jn_iX5 l D cs q H.size) (by decide +kernel) (by decide +kernel) (by decide +kernel) (by decide +kernel) (by decide +kernel) rfl rfl rfl ⟨Nat.le_trans (by decide) hR.1, Nat.le_trans (by decide) hR.2⟩ hP hD [ws.length] (by simp [jn_gr]) rfl rfl hl.1 (lv_room (Nat.le_of_ble_eq_true rfl)) (show decode prog_1_method_1_code 174 = .ok (.invokespecial 62, 3) by decide +kernel) ⟨by omega, by omega⟩) hP hD hS hA (fun u H locs hP hD hS => ?_)
  refine va_astq (D := D) (cl := jm_cl0) hx hb hK hP hD hS ks 2 ws.length 5 (jn_gl hks _) rfl (jn_gr ws _ _) rfl (i := nI i) (vp_in_nI hi (by omega)) (show decode prog_1_method_1_code 177 = .ok (.aastore, 1) by decide +kernel) (fun H locs hP hD hS => ?_)
  rw [nI_clamp (by omega)] at hP hD
  refine lv_iinc (k := 0) (x := nI i) (v := nI (i + 1)) (lv' := [(1, .int (nI (i + 1))), (0, .ref h0)]) hx hb (show decode prog_1_method_1_code 178 = .ok (.iinc 1 1, 3) by decide +kernel) hl rfl (nI_add i 1) (by decide) rfl (fun ls2 hl2 => ?_)
  refine lv_goto (tgt := 159) hx hb (show decode prog_1_method_1_code 181 = .ok (.goto (-22), 3) by decide +kernel) (by decide) ?_
  refine W.widen (k := cells + 2) (n := slots + 106) (by omega) (by omega) ?_
  exact kk q u H locs ls2 hl2 hP hD hS
end JR

