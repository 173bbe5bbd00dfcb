/-! THE CONSTRUCTORS of the cats' kinds, of shelves, frontiers, the reference. -/
set_option maxHeartbeats 8000000 in
set_option maxRecDepth 100000 in
/-- Cat() -/
theorem jn_iX0 (l : Launch) (D : va_G) (cs : Nat → ClassId) (h0 : Nat) (sz : Nat) : Met l ⟨"PapersAreOnCats$Cat", "<init>", "()V"⟩ (Cond.code ⟨"PapersAreOnCats$Cat", "<init>", "()V"⟩ prog_2_method_1_code 1 none :: jm_T) (jn_r 1 0 0 12) (jn_P D cs [.ref h0] [] sz) (jn_Q D [] sz (fun _ : Nat → Nat => [])) 0 0 (va_A [] sz) := by
  refine Met.ofW (cc := prog_2_method_1_code) (maxL := 1) (ret := none) (by decide) rfl ?_
  intro p e s m args below meth c s₁ B hml hv
  obtain ⟨rfl, hsz, hP, hD0, hI⟩ := hv
  have hx := B.exec
  have hb := B.bytes
  have hr := B.returns
  have hts := jn_hts (atoms_spec (ws := Cond.code ⟨"PapersAreOnCats$Cat", "<init>", "()V"⟩ prog_2_method_1_code 1 none :: jm_T) B.pre)
  have hown : s.vm.findClass "PapersAreOnCats$Cat" = some m.cls := findClass_of_methodNamed B.named
  have hlocks := B.notSynchronized
  have hin : meth.name = "<init>" := (name_of_methodNamed B.named B.method).1
  have hK := hI.1
  subst hsz
  have hD := hD0.self (sz := s.heap.size)
  generalize hAe : va_A [] s.heap.size = A at hD ⊢
  have hA : ∀ q : Nat, s.heap.size ≤ q → A q := fun q h => by rw [← hAe]; exact Or.inr h
  have hS : va_S A s.heap s.heap [] := va_S.rf
  have hP : va_P D jm_cl0 [] s.heap := hP
  have hl := lv_entry ([.ref h0]) (n := 1) (Nat.le_of_ble_eq_true rfl)
  rw [lg_entry_eq]
  generalize (lg_sl ([.ref h0]) ++ List.replicate (1 - (lg_sl ([.ref h0])).length) Slot.unset).toArray = ls at hl ⊢
  have hl : lv_has ls 1 [(0, .ref h0)] := hl
  refine lv_aload_n hx hb (show decode prog_2_method_1_code 0 = .ok (.aload_n 0, 1) by decide +kernel) rfl (lv_at hl 0 rfl) ?_
  refine W.objInit hx hb hown (hts _ (jm_at_T (i := 76) (w := .methodLink "PapersAreOnCats$Cat" 3 objectInit) (by decide +kernel))) (hts _ (jm_at_T (i := 66) (w := .instanceMethod objectInit) (by decide +kernel))) (hts _ (jm_at_T (i := 67) (w := .code objectInit ⟨#[0xb1]⟩ 1 none) (by decide +kernel))) rfl (by rw [hml]; exact hl.1) rfl (show decode prog_2_method_1_code 1 = .ok (.invokespecial 3, 3) by decide +kernel) (Nat.le_of_ble_eq_true rfl) (Nat.le_of_ble_eq_true rfl) ?_
  refine W.eq (g2 := F0 m 4 ls []) rfl ?_
  refine W.widen (k := 0) (n := 0) (by omega) (by omega) ?_
  subst hAe
  exact W.vret hx hb hr (fun t ht hW => ⟨⟨(fun _ => 0), rfl, trivial, by rw [ht]; exact hP, hD⟩, hS.F ht⟩) hS.2.2 (show decode prog_2_method_1_code 4 = .ok (.return_, 1) by decide +kernel)
set_option maxHeartbeats 8000000 in
set_option maxRecDepth 100000 in
/-- Mouser() -/
theorem jn_iX3 (l : Launch) (D : va_G) (cs : Nat → ClassId) (h0 : Nat) (sz : Nat) : Met l ⟨"PapersAreOnCats$Mouser", "<init>", "()V"⟩ (Cond.code ⟨"PapersAreOnCats$Mouser", "<init>", "()V"⟩ prog_5_method_1_code 1 none :: jm_T) (jn_r 2 0 0 32) (jn_P D cs [.ref h0] [] sz) (jn_Q D [] sz (fun _ : Nat → Nat => [])) 0 0 (va_A [] sz) := by
  refine Met.ofW (cc := prog_5_method_1_code) (maxL := 1) (ret := none) (by decide) rfl ?_
  intro p e s m args below meth c s₁ B hml hv
  obtain ⟨rfl, hsz, hP, hD0, hI⟩ := hv
  have hx := B.exec
  have hb := B.bytes
  have hr := B.returns
  have hts := jn_hts (atoms_spec (ws := Cond.code ⟨"PapersAreOnCats$Mouser", "<init>", "()V"⟩ prog_5_method_1_code 1 none :: jm_T) B.pre)
  have hown : s.vm.findClass "PapersAreOnCats$Mouser" = some m.cls := findClass_of_methodNamed B.named
  have hlocks := B.notSynchronized
  have hin : meth.name = "<init>" := (name_of_methodNamed B.named B.method).1
  have hK := hI.1
  subst hsz
  have hD := hD0.self (sz := s.heap.size)
  generalize hAe : va_A [] s.heap.size = A at hD ⊢
  have hA : ∀ q : Nat, s.heap.size ≤ q → A q := fun q h => by rw [← hAe]; exact Or.inr h
  have hS : va_S A s.heap s.heap [] := va_S.rf
  have hP : va_P D jm_cl0 [] s.heap := hP
  have hl := lv_entry ([.ref h0]) (n := 1) (Nat.le_of_ble_eq_true rfl)
  rw [lg_entry_eq]
  generalize (lg_sl ([.ref h0]) ++ List.replicate (1 - (lg_sl ([.ref h0])).length) Slot.unset).toArray = ls at hl ⊢
  have hl : lv_has ls 1 [(0, .ref h0)] := hl
  refine lv_aload_n hx hb (show decode prog_5_method_1_code 0 = .ok (.aload_n 0, 1) by decide +kernel) rfl (lv_at hl 0 rfl) ?_
  have hc1 : 0 ≤ 0 := by decide
  have hs1 : 0 ≤ 0 := by decide
  refine jn_call (wr := []) (jn_runN (As := []) (b := h0) (n := 0) (index := 1) (i1 := 75) (i2 := 84) (i3 := 39) (i4 := 74) ⟨hx, hb, hml, hown, hts⟩ hI (jn_iX0 l D cs h0 s.heap.size) (by decide +kernel) (by decide +kernel) (by decide +kernel) (by decide +kernel) (by decide +kernel) rfl rfl rfl ⟨Nat.le_of_ble_eq_true rfl, Nat.le_of_ble_eq_true rfl⟩ hP hD [] rfl rfl rfl hl.1 (lv_room (Nat.le_of_ble_eq_true rfl)) (show decode prog_5_method_1_code 1 = .ok (.invokespecial 1, 3) by decide +kernel) ⟨hc1, hs1⟩) hP hD hS hA [] [] rfl rfl (by decide) (by decide) (fun u1 H locs hP hD hS => ?_)
  have hP : va_P D jm_cl0 [] H := hP
  have hD : va_D A [] := hD
  refine W.widen (k := 0) (n := 0) (by omega) (by omega) ?_
  refine W.widen (k := 0) (n := 0) (by omega) (by omega) ?_
  subst hAe
  exact W.vret hx hb hr (fun t ht hW => ⟨⟨(fun _ => 0), rfl, trivial, by rw [ht]; exact hP, hD⟩, hS.F ht⟩) hS.2.2 (show decode prog_5_method_1_code 4 = .ok (.return_, 1) by decide +kernel)
set_option maxHeartbeats 8000000 in
set_option maxRecDepth 100000 in
/-- Tom() -/
theorem jn_iX9 (l : Launch) (D : va_G) (cs : Nat → ClassId) (h0 : Nat) (sz : Nat) : Met l ⟨"PapersAreOnCats$Tom", "<init>", "()V"⟩ (Cond.code ⟨"PapersAreOnCats$Tom", "<init>", "()V"⟩ prog_11_method_1_code 1 none :: jm_T) (jn_r 2 0 0 32) (jn_P D cs [.ref h0] [] sz) (jn_Q D [] sz (fun _ : Nat → Nat => [])) 0 0 (va_A [] sz) := by
  refine Met.ofW (cc := prog_11_method_1_code) (maxL := 1) (ret := none) (by decide) rfl ?_
  intro p e s m args below meth c s₁ B hml hv
  obtain ⟨rfl, hsz, hP, hD0, hI⟩ := hv
  have hx := B.exec
  have hb := B.bytes
  have hr := B.returns
  have hts := jn_hts (atoms_spec (ws := Cond.code ⟨"PapersAreOnCats$Tom", "<init>", "()V"⟩ prog_11_method_1_code 1 none :: jm_T) B.pre)
  have hown : s.vm.findClass "PapersAreOnCats$Tom" = some m.cls := findClass_of_methodNamed B.named
  have hlocks := B.notSynchronized
  have hin : meth.name = "<init>" := (name_of_methodNamed B.named B.method).1
  have hK := hI.1
  subst hsz
  have hD := hD0.self (sz := s.heap.size)
  generalize hAe : va_A [] s.heap.size = A at hD ⊢
  have hA : ∀ q : Nat, s.heap.size ≤ q → A q := fun q h => by rw [← hAe]; exact Or.inr h
  have hS : va_S A s.heap s.heap [] := va_S.rf
  have hP : va_P D jm_cl0 [] s.heap := hP
  have hl := lv_entry ([.ref h0]) (n := 1) (Nat.le_of_ble_eq_true rfl)
  rw [lg_entry_eq]
  generalize (lg_sl ([.ref h0]) ++ List.replicate (1 - (lg_sl ([.ref h0])).length) Slot.unset).toArray = ls at hl ⊢
  have hl : lv_has ls 1 [(0, .ref h0)] := hl
  refine lv_aload_n hx hb (show decode prog_11_method_1_code 0 = .ok (.aload_n 0, 1) by decide +kernel) rfl (lv_at hl 0 rfl) ?_
  have hc1 : 0 ≤ 0 := by decide
  have hs1 : 0 ≤ 0 := by decide
  refine jn_call (wr := []) (jn_runN (As := []) (b := h0) (n := 0) (index := 1) (i1 := 75) (i2 := 91) (i3 := 39) (i4 := 74) ⟨hx, hb, hml, hown, hts⟩ hI (jn_iX0 l D cs h0 s.heap.size) (by decide +kernel) (by decide +kernel) (by decide +kernel) (by decide +kernel) (by decide +kernel) rfl rfl rfl ⟨Nat.le_of_ble_eq_true rfl, Nat.le_of_ble_eq_true rfl⟩ hP hD [] rfl rfl rfl hl.1 (lv_room (Nat.le_of_ble_eq_true rfl)) (show decode prog_11_method_1_code 1 = .ok (.invokespecial 1, 3) by decide +kernel) ⟨hc1, hs1⟩) hP hD hS hA [] [] rfl rfl (by decide) (by decide) (fun u1 H locs hP hD hS => ?_)
  have hP : va_P D jm_cl0 [] H := hP
  have hD : va_D A [] := hD
  refine W.widen (k := 0) (n := 0) (by omega) (by omega) ?_
  refine W.widen (k := 0) (n := 0) (by omega) (by omega) ?_
  subst hAe
  exact W.vret hx hb hr (fun t ht hW => ⟨⟨(fun _ => 0), rfl, trivial, by rw [ht]; exact hP, hD⟩, hS.F ht⟩) hS.2.2 (show decode prog_11_method_1_code 4 = .ok (.return_, 1) by decide +kernel)
set_option maxHeartbeats 8000000 in
set_option maxRecDepth 100000 in
/-- White() -/
theorem jn_iX10 (l : Launch) (D : va_G) (cs : Nat → ClassId) (h0 : Nat) (sz : Nat) : Met l ⟨"PapersAreOnCats$White", "<init>", "()V"⟩ (Cond.code ⟨"PapersAreOnCats$White", "<init>", "()V"⟩ prog_12_method_1_code 1 none :: jm_T) (jn_r 2 0 0 32) (jn_P D cs [.ref h0] [] sz) (jn_Q D [] sz (fun _ : Nat → Nat => [])) 0 0 (va_A [] sz) := by
  refine Met.ofW (cc := prog_12_method_1_code) (maxL := 1) (ret := none) (by decide) rfl ?_
  intro p e s m args below meth c s₁ B hml hv
  obtain ⟨rfl, hsz, hP, hD0, hI⟩ := hv
  have hx := B.exec
  have hb := B.bytes
  have hr := B.returns
  have hts := jn_hts (atoms_spec (ws := Cond.code ⟨"PapersAreOnCats$White", "<init>", "()V"⟩ prog_12_method_1_code 1 none :: jm_T) B.pre)
  have hown : s.vm.findClass "PapersAreOnCats$White" = some m.cls := findClass_of_methodNamed B.named
  have hlocks := B.notSynchronized
  have hin : meth.name = "<init>" := (name_of_methodNamed B.named B.method).1
  have hK := hI.1
  subst hsz
  have hD := hD0.self (sz := s.heap.size)
  generalize hAe : va_A [] s.heap.size = A at hD ⊢
  have hA : ∀ q : Nat, s.heap.size ≤ q → A q := fun q h => by rw [← hAe]; exact Or.inr h
  have hS : va_S A s.heap s.heap [] := va_S.rf
  have hP : va_P D jm_cl0 [] s.heap := hP
  have hl := lv_entry ([.ref h0]) (n := 1) (Nat.le_of_ble_eq_true rfl)
  rw [lg_entry_eq]
  generalize (lg_sl ([.ref h0]) ++ List.replicate (1 - (lg_sl ([.ref h0])).length) Slot.unset).toArray = ls at hl ⊢
  have hl : lv_has ls 1 [(0, .ref h0)] := hl
  refine lv_aload_n hx hb (show decode prog_12_method_1_code 0 = .ok (.aload_n 0, 1) by decide +kernel) rfl (lv_at hl 0 rfl) ?_
  have hc1 : 0 ≤ 0 := by decide
  have hs1 : 0 ≤ 0 := by decide
  refine jn_call (wr := []) (jn_runN (As := []) (b := h0) (n := 0) (index := 1) (i1 := 75) (i2 := 98) (i3 := 39) (i4 := 74) ⟨hx, hb, hml, hown, hts⟩ hI (jn_iX0 l D cs h0 s.heap.size) (by decide +kernel) (by decide +kernel) (by decide +kernel) (by decide +kernel) (by decide +kernel) rfl rfl rfl ⟨Nat.le_of_ble_eq_true rfl, Nat.le_of_ble_eq_true rfl⟩ hP hD [] rfl rfl rfl hl.1 (lv_room (Nat.le_of_ble_eq_true rfl)) (show decode prog_12_method_1_code 1 = .ok (.invokespecial 1, 3) by decide +kernel) ⟨hc1, hs1⟩) hP hD hS hA [] [] rfl rfl (by decide) (by decide) (fun u1 H locs hP hD hS => ?_)
  have hP : va_P D jm_cl0 [] H := hP
  have hD : va_D A [] := hD
  refine W.widen (k := 0) (n := 0) (by omega) (by omega) ?_
  refine W.widen (k := 0) (n := 0) (by omega) (by omega) ?_
  subst hAe
  exact W.vret hx hb hr (fun t ht hW => ⟨⟨(fun _ => 0), rfl, trivial, by rw [ht]; exact hP, hD⟩, hS.F ht⟩) hS.2.2 (show decode prog_12_method_1_code 4 = .ok (.return_, 1) by decide +kernel)
set_option maxHeartbeats 8000000 in
set_option maxRecDepth 100000 in
/-- Old() -/
theorem jn_iX4 (l : Launch) (D : va_G) (cs : Nat → ClassId) (h0 : Nat) (sz : Nat) : Met l ⟨"PapersAreOnCats$Old", "<init>", "()V"⟩ (Cond.code ⟨"PapersAreOnCats$Old", "<init>", "()V"⟩ prog_6_method_1_code 1 none :: jm_T) (jn_r 2 0 0 32) (jn_P D cs [.ref h0] [] sz) (jn_Q D [] sz (fun _ : Nat → Nat => [])) 0 0 (va_A [] sz) := by
  refine Met.ofW (cc := prog_6_method_1_code) (maxL := 1) (ret := none) (by decide) rfl ?_
  intro p e s m args below meth c s₁ B hml hv
  obtain ⟨rfl, hsz, hP, hD0, hI⟩ := hv
  have hx := B.exec
  have hb := B.bytes
  have hr := B.returns
  have hts := jn_hts (atoms_spec (ws := Cond.code ⟨"PapersAreOnCats$Old", "<init>", "()V"⟩ prog_6_method_1_code 1 none :: jm_T) B.pre)
  have hown : s.vm.findClass "PapersAreOnCats$Old" = some m.cls := findClass_of_methodNamed B.named
  have hlocks := B.notSynchronized
  have hin : meth.name = "<init>" := (name_of_methodNamed B.named B.method).1
  have hK := hI.1
  subst hsz
  have hD := hD0.self (sz := s.heap.size)
  generalize hAe : va_A [] s.heap.size = A at hD ⊢
  have hA : ∀ q : Nat, s.heap.size ≤ q → A q := fun q h => by rw [← hAe]; exact Or.inr h
  have hS : va_S A s.heap s.heap [] := va_S.rf
  have hP : va_P D jm_cl0 [] s.heap := hP
  have hl := lv_entry ([.ref h0]) (n := 1) (Nat.le_of_ble_eq_true rfl)
  rw [lg_entry_eq]
  generalize (lg_sl ([.ref h0]) ++ List.replicate (1 - (lg_sl ([.ref h0])).length) Slot.unset).toArray = ls at hl ⊢
  have hl : lv_has ls 1 [(0, .ref h0)] := hl
  refine lv_aload_n hx hb (show decode prog_6_method_1_code 0 = .ok (.aload_n 0, 1) by decide +kernel) rfl (lv_at hl 0 rfl) ?_
  have hc1 : 0 ≤ 0 := by decide
  have hs1 : 0 ≤ 0 := by decide
  refine jn_call (wr := []) (jn_runN (As := []) (b := h0) (n := 0) (index := 1) (i1 := 75) (i2 := 126) (i3 := 39) (i4 := 74) ⟨hx, hb, hml, hown, hts⟩ hI (jn_iX0 l D cs h0 s.heap.size) (by decide +kernel) (by decide +kernel) (by decide +kernel) (by decide +kernel) (by decide +kernel) rfl rfl rfl ⟨Nat.le_of_ble_eq_true rfl, Nat.le_of_ble_eq_true rfl⟩ hP hD [] rfl rfl rfl hl.1 (lv_room (Nat.le_of_ble_eq_true rfl)) (show decode prog_6_method_1_code 1 = .ok (.invokespecial 1, 3) by decide +kernel) ⟨hc1, hs1⟩) hP hD hS hA [] [] rfl rfl (by decide) (by decide) (fun u1 H locs hP hD hS => ?_)
  have hP : va_P D jm_cl0 [] H := hP
  have hD : va_D A [] := hD
  refine W.widen (k := 0) (n := 0) (by omega) (by omega) ?_
  refine W.widen (k := 0) (n := 0) (by omega) (by omega) ?_
  subst hAe
  exact W.vret hx hb hr (fun t ht hW => ⟨⟨(fun _ => 0), rfl, trivial, by rw [ht]; exact hP, hD⟩, hS.F ht⟩) hS.2.2 (show decode prog_6_method_1_code 4 = .ok (.return_, 1) by decide +kernel)
set_option maxHeartbeats 8000000 in
set_option maxRecDepth 100000 in
/-- Kitten() -/
theorem jn_iX2 (l : Launch) (D : va_G) (cs : Nat → ClassId) (h0 : Nat) (sz : Nat) : Met l ⟨"PapersAreOnCats$Kitten", "<init>", "()V"⟩ (Cond.code ⟨"PapersAreOnCats$Kitten", "<init>", "()V"⟩ prog_4_method_1_code 1 none :: jm_T) (jn_r 3 0 0 52) (jn_P D cs [.ref h0] [] sz) (jn_Q D [] sz (fun _ : Nat → Nat => [])) 0 0 (va_A [] sz) := by
  refine Met.ofW (cc := prog_4_method_1_code) (maxL := 1) (ret := none) (by decide) rfl ?_
  intro p e s m args below meth c s₁ B hml hv
  obtain ⟨rfl, hsz, hP, hD0, hI⟩ := hv
  have hx := B.exec
  have hb := B.bytes
  have hr := B.returns
  have hts := jn_hts (atoms_spec (ws := Cond.code ⟨"PapersAreOnCats$Kitten", "<init>", "()V"⟩ prog_4_method_1_code 1 none :: jm_T) B.pre)
  have hown : s.vm.findClass "PapersAreOnCats$Kitten" = some m.cls := findClass_of_methodNamed B.named
  have hlocks := B.notSynchronized
  have hin : meth.name = "<init>" := (name_of_methodNamed B.named B.method).1
  have hK := hI.1
  subst hsz
  have hD := hD0.self (sz := s.heap.size)
  generalize hAe : va_A [] s.heap.size = A at hD ⊢
  have hA : ∀ q : Nat, s.heap.size ≤ q → A q := fun q h => by rw [← hAe]; exact Or.inr h
  have hS : va_S A s.heap s.heap [] := va_S.rf
  have hP : va_P D jm_cl0 [] s.heap := hP
  have hl := lv_entry ([.ref h0]) (n := 1) (Nat.le_of_ble_eq_true rfl)
  rw [lg_entry_eq]
  generalize (lg_sl ([.ref h0]) ++ List.replicate (1 - (lg_sl ([.ref h0])).length) Slot.unset).toArray = ls at hl ⊢
  have hl : lv_has ls 1 [(0, .ref h0)] := hl
  refine lv_aload_n hx hb (show decode prog_4_method_1_code 0 = .ok (.aload_n 0, 1) by decide +kernel) rfl (lv_at hl 0 rfl) ?_
  have hc1 : 0 ≤ 0 := by decide
  have hs1 : 0 ≤ 0 := by decide
  refine jn_call (wr := []) (jn_runN (As := []) (b := h0) (n := 0) (index := 3) (i1 := 83) (i2 := 105) (i3 := 40) (i4 := 82) ⟨hx, hb, hml, hown, hts⟩ hI (jn_iX3 l D cs h0 s.heap.size) (by decide +kernel) (by decide +kernel) (by decide +kernel) (by decide +kernel) (by decide +kernel) rfl rfl rfl ⟨Nat.le_of_ble_eq_true rfl, Nat.le_of_ble_eq_true rfl⟩ hP hD [] rfl rfl rfl hl.1 (lv_room (Nat.le_of_ble_eq_true rfl)) (show decode prog_4_method_1_code 1 = .ok (.invokespecial 3, 3) by decide +kernel) ⟨hc1, hs1⟩) hP hD hS hA [] [] rfl rfl (by decide) (by decide) (fun u1 H locs hP hD hS => ?_)
  have hP : va_P D jm_cl0 [] H := hP
  have hD : va_D A [] := hD
  refine W.widen (k := 0) (n := 0) (by omega) (by omega) ?_
  refine W.widen (k := 0) (n := 0) (by omega) (by omega) ?_
  subst hAe
  exact W.vret hx hb hr (fun t ht hW => ⟨⟨(fun _ => 0), rfl, trivial, by rw [ht]; exact hP, hD⟩, hS.F ht⟩) hS.2.2 (show decode prog_4_method_1_code 4 = .ok (.return_, 1) by decide +kernel)
set_option maxHeartbeats 8000000 in
set_option maxRecDepth 100000 in
/-- Shell() -/
theorem jn_iX6 (l : Launch) (D : va_G) (cs : Nat → ClassId) (h0 : Nat) (sz : Nat) : Met l ⟨"PapersAreOnCats$Shell", "<init>", "()V"⟩ (Cond.code ⟨"PapersAreOnCats$Shell", "<init>", "()V"⟩ prog_8_method_1_code 1 none :: jm_T) (jn_r 3 0 0 52) (jn_P D cs [.ref h0] [] sz) (jn_Q D [] sz (fun _ : Nat → Nat => [])) 0 0 (va_A [] sz) := by
  refine Met.ofW (cc := prog_8_method_1_code) (maxL := 1) (ret := none) (by decide) rfl ?_
  intro p e s m args below meth c s₁ B hml hv
  obtain ⟨rfl, hsz, hP, hD0, hI⟩ := hv
  have hx := B.exec
  have hb := B.bytes
  have hr := B.returns
  have hts := jn_hts (atoms_spec (ws := Cond.code ⟨"PapersAreOnCats$Shell", "<init>", "()V"⟩ prog_8_method_1_code 1 none :: jm_T) B.pre)
  have hown : s.vm.findClass "PapersAreOnCats$Shell" = some m.cls := findClass_of_methodNamed B.named
  have hlocks := B.notSynchronized
  have hin : meth.name = "<init>" := (name_of_methodNamed B.named B.method).1
  have hK := hI.1
  subst hsz
  have hD := hD0.self (sz := s.heap.size)
  generalize hAe : va_A [] s.heap.size = A at hD ⊢
  have hA : ∀ q : Nat, s.heap.size ≤ q → A q := fun q h => by rw [← hAe]; exact Or.inr h
  have hS : va_S A s.heap s.heap [] := va_S.rf
  have hP : va_P D jm_cl0 [] s.heap := hP
  have hl := lv_entry ([.ref h0]) (n := 1) (Nat.le_of_ble_eq_true rfl)
  rw [lg_entry_eq]
  generalize (lg_sl ([.ref h0]) ++ List.replicate (1 - (lg_sl ([.ref h0])).length) Slot.unset).toArray = ls at hl ⊢
  have hl : lv_has ls 1 [(0, .ref h0)] := hl
  refine lv_aload_n hx hb (show decode prog_8_method_1_code 0 = .ok (.aload_n 0, 1) by decide +kernel) rfl (lv_at hl 0 rfl) ?_
  have hc1 : 0 ≤ 0 := by decide
  have hs1 : 0 ≤ 0 := by decide
  refine jn_call (wr := []) (jn_runN (As := []) (b := h0) (n := 0) (index := 1) (i1 := 97) (i2 := 112) (i3 := 42) (i4 := 96) ⟨hx, hb, hml, hown, hts⟩ hI (jn_iX10 l D cs h0 s.heap.size) (by decide +kernel) (by decide +kernel) (by decide +kernel) (by decide +kernel) (by decide +kernel) rfl rfl rfl ⟨Nat.le_of_ble_eq_true rfl, Nat.le_of_ble_eq_true rfl⟩ hP hD [] rfl rfl rfl hl.1 (lv_room (Nat.le_of_ble_eq_true rfl)) (show decode prog_8_method_1_code 1 = .ok (.invokespecial 1, 3) by decide +kernel) ⟨hc1, hs1⟩) hP hD hS hA [] [] rfl rfl (by decide) (by decide) (fun u1 H locs hP hD hS => ?_)
  have hP : va_P D jm_cl0 [] H := hP
  have hD : va_D A [] := hD
  refine W.widen (k := 0) (n := 0) (by omega) (by omega) ?_
  refine W.widen (k := 0) (n := 0) (by omega) (by omega) ?_
  subst hAe
  exact W.vret hx hb hr (fun t ht hW => ⟨⟨(fun _ => 0), rfl, trivial, by rw [ht]; exact hP, hD⟩, hS.F ht⟩) hS.2.2 (show decode prog_8_method_1_code 4 = .ok (.return_, 1) by decide +kernel)
set_option maxHeartbeats 8000000 in
set_option maxRecDepth 100000 in
/-- Spy() -/
theorem jn_iX7 (l : Launch) (D : va_G) (cs : Nat → ClassId) (h0 : Nat) (sz : Nat) : Met l ⟨"PapersAreOnCats$Spy", "<init>", "()V"⟩ (Cond.code ⟨"PapersAreOnCats$Spy", "<init>", "()V"⟩ prog_9_method_1_code 1 none :: jm_T) (jn_r 3 0 0 52) (jn_P D cs [.ref h0] [] sz) (jn_Q D [] sz (fun _ : Nat → Nat => [])) 0 0 (va_A [] sz) := by
  refine Met.ofW (cc := prog_9_method_1_code) (maxL := 1) (ret := none) (by decide) rfl ?_
  intro p e s m args below meth c s₁ B hml hv
  obtain ⟨rfl, hsz, hP, hD0, hI⟩ := hv
  have hx := B.exec
  have hb := B.bytes
  have hr := B.returns
  have hts := jn_hts (atoms_spec (ws := Cond.code ⟨"PapersAreOnCats$Spy", "<init>", "()V"⟩ prog_9_method_1_code 1 none :: jm_T) B.pre)
  have hown : s.vm.findClass "PapersAreOnCats$Spy" = some m.cls := findClass_of_methodNamed B.named
  have hlocks := B.notSynchronized
  have hin : meth.name = "<init>" := (name_of_methodNamed B.named B.method).1
  have hK := hI.1
  subst hsz
  have hD := hD0.self (sz := s.heap.size)
  generalize hAe : va_A [] s.heap.size = A at hD ⊢
  have hA : ∀ q : Nat, s.heap.size ≤ q → A q := fun q h => by rw [← hAe]; exact Or.inr h
  have hS : va_S A s.heap s.heap [] := va_S.rf
  have hP : va_P D jm_cl0 [] s.heap := hP
  have hl := lv_entry ([.ref h0]) (n := 1) (Nat.le_of_ble_eq_true rfl)
  rw [lg_entry_eq]
  generalize (lg_sl ([.ref h0]) ++ List.replicate (1 - (lg_sl ([.ref h0])).length) Slot.unset).toArray = ls at hl ⊢
  have hl : lv_has ls 1 [(0, .ref h0)] := hl
  refine lv_aload_n hx hb (show decode prog_9_method_1_code 0 = .ok (.aload_n 0, 1) by decide +kernel) rfl (lv_at hl 0 rfl) ?_
  have hc1 : 0 ≤ 0 := by decide
  have hs1 : 0 ≤ 0 := by decide
  refine jn_call (wr := []) (jn_runN (As := []) (b := h0) (n := 0) (index := 1) (i1 := 90) (i2 := 119) (i3 := 41) (i4 := 89) ⟨hx, hb, hml, hown, hts⟩ hI (jn_iX9 l D cs h0 s.heap.size) (by decide +kernel) (by decide +kernel) (by decide +kernel) (by decide +kernel) (by decide +kernel) rfl rfl rfl ⟨Nat.le_of_ble_eq_true rfl, Nat.le_of_ble_eq_true rfl⟩ hP hD [] rfl rfl rfl hl.1 (lv_room (Nat.le_of_ble_eq_true rfl)) (show decode prog_9_method_1_code 1 = .ok (.invokespecial 1, 3) by decide +kernel) ⟨hc1, hs1⟩) hP hD hS hA [] [] rfl rfl (by decide) (by decide) (fun u1 H locs hP hD hS => ?_)
  have hP : va_P D jm_cl0 [] H := hP
  have hD : va_D A [] := hD
  refine W.widen (k := 0) (n := 0) (by omega) (by omega) ?_
  refine W.widen (k := 0) (n := 0) (by omega) (by omega) ?_
  subst hAe
  exact W.vret hx hb hr (fun t ht hW => ⟨⟨(fun _ => 0), rfl, trivial, by rw [ht]; exact hP, hD⟩, hS.F ht⟩) hS.2.2 (show decode prog_9_method_1_code 4 = .ok (.return_, 1) by decide +kernel)
def jn_sh (cs : Nat → ClassId) (h0 : Nat) (u : Nat → Nat) : va_W := [(h0, .inr (5, [.int 0, .int 0, .int 0, .int 0, .int 0, .ref (u 0)])), (u 0, .inl (cs 0, 100, .inl (fun _ => 0)))]
set_option maxHeartbeats 8000000 in
set_option maxRecDepth 100000 in
/-- Shelf() -/
theorem jn_iX5 (l : Launch) (D : va_G) (cs : Nat → ClassId) (h0 : Nat) (sz : Nat) : Met l ⟨"PapersAreOnCats$Shelf", "<init>", "()V"⟩ (Cond.code ⟨"PapersAreOnCats$Shelf", "<init>", "()V"⟩ prog_7_method_1_code 1 none :: jm_T) (jn_r 1 1 100 12) (jn_P D cs [.ref h0] [(h0, .inr (5, [.int 0, .int 0, .int 0, .int 0, .int 0, .null]))] sz) (jn_Q D [(h0, .inr (5, [.int 0, .int 0, .int 0, .int 0, .int 0, .null]))] sz (jn_sh cs h0)) 1 100 (va_A [(h0, .inr (5, [.int 0, .int 0, .int 0, .int 0, .int 0, .null]))] sz) := by
  refine Met.ofW (cc := prog_7_method_1_code) (maxL := 1) (ret := none) (by decide) rfl ?_
  intro p e s m args below meth c s₁ B hml hv
  obtain ⟨rfl, hsz, hP, hD0, hI⟩ := hv
  have hx := B.exec
  have hb := B.bytes
  have hr := B.returns
  have hts := jn_hts (atoms_spec (ws := Cond.code ⟨"PapersAreOnCats$Shelf", "<init>", "()V"⟩ prog_7_method_1_code 1 none :: jm_T) B.pre)
  have hown : s.vm.findClass "PapersAreOnCats$Shelf" = some m.cls := findClass_of_methodNamed B.named
  have hlocks := B.notSynchronized
  have hin : meth.name = "<init>" := (name_of_methodNamed B.named B.method).1
  have hK := hI.1
  subst hsz
  have hD := hD0.self (sz := s.heap.size)
  generalize hAe : va_A [(h0, .inr (5, [.int 0, .int 0, .int 0, .int 0, .int 0, .null]))] s.heap.size = A at hD ⊢
  have hA : ∀ q : Nat, s.heap.size ≤ q → A q := fun q h => by rw [← hAe]; exact Or.inr h
  have hS : va_S A s.heap s.heap [] := va_S.rf
  have hP : va_P D jm_cl0 [(h0, .inr (5, [.int 0, .int 0, .int 0, .int 0, .int 0, .null]))] s.heap := hP
  have hl := lv_entry ([.ref h0]) (n := 1) (Nat.le_of_ble_eq_true rfl)
  rw [lg_entry_eq]
  generalize (lg_sl ([.ref h0]) ++ List.replicate (1 - (lg_sl ([.ref h0])).length) Slot.unset).toArray = ls at hl ⊢
  have hl : lv_has ls 1 [(0, .ref h0)] := hl
  refine lv_aload_n hx hb (show decode prog_7_method_1_code 0 = .ok (.aload_n 0, 1) by decide +kernel) rfl (lv_at hl 0 rfl) ?_
  refine W.objInit hx hb hown (hts _ (jm_at_T (i := 210) (w := .methodLink "PapersAreOnCats$Shelf" 3 objectInit) (by decide +kernel))) (hts _ (jm_at_T (i := 66) (w := .instanceMethod objectInit) (by decide +kernel))) (hts _ (jm_at_T (i := 67) (w := .code objectInit ⟨#[0xb1]⟩ 1 none) (by decide +kernel))) rfl (by rw [hml]; exact hl.1) rfl (show decode prog_7_method_1_code 1 = .ok (.invokespecial 3, 3) by decide +kernel) (Nat.le_of_ble_eq_true rfl) (Nat.le_of_ble_eq_true rfl) ?_
  refine W.eq (g2 := F0 m 4 ls []) rfl ?_
  refine lv_aload_n hx hb (show decode prog_7_method_1_code 4 = .ok (.aload_n 0, 1) by decide +kernel) rfl (lv_at hl 0 rfl) ?_
  refine lv_iconst (v := 0) hx hb (show decode prog_7_method_1_code 5 = .ok (.iconst 0, 1) by decide +kernel) (by decide) ?_
  refine va_put (D := D) (cl := jm_cl0) (ci := 5) (v := .int 0) (ty := .int) (C := RX5) (T := TX5) (N := 6) (index := 11) hx hb hts (jm_uws (ci := 5) rfl) tyX5 tyX5_ok nmX5 hown hK hP hD hS 0 rfl rfl 0 (by decide) (hts _ (jm_at_T (i := 211) (by decide +kernel))) (fun _ h9 => h9) rfl (by decide +kernel) rfl rfl (Nat.le_of_ble_eq_true rfl) (show decode prog_7_method_1_code 6 = .ok (.putfield 11, 3) by decide +kernel) (fun H locs hP hD hS => ?_)
  have hP : va_P D jm_cl0 [(h0, .inr (5, [.int 0, .int 0, .int 0, .int 0, .int 0, .null]))] H := hP
  have hD : va_D A [(h0, .inr (5, [.int 0, .int 0, .int 0, .int 0, .int 0, .null]))] := hD
  refine lv_aload_n hx hb (show decode prog_7_method_1_code 9 = .ok (.aload_n 0, 1) by decide +kernel) rfl (lv_at hl 0 rfl) ?_
  refine lv_bipush (v := 100) hx hb (show decode prog_7_method_1_code 10 = .ok (.bipush 100, 2) by decide +kernel) (by decide) ?_
  have hc1 : 1 ≤ 1 := by decide
  have hs1 : 100 ≤ 100 := by decide
  refine jn_newa (N' := 100) hx hb hts hK hP hD hS hA (by decide) (by decide) (by decide) hc1 hs1 (show decode prog_7_method_1_code 12 = .ok (.newarray .int, 2) by decide +kernel) (fun q12 H hP hD hS => ?_)
  have hP : va_P D jm_cl0 [(h0, .inr (5, [.int 0, .int 0, .int 0, .int 0, .int 0, .null])), (q12, .inl (cs 0, 100, .inl (fun _ => 0)))] H := hP
  have hD : va_D A [(h0, .inr (5, [.int 0, .int 0, .int 0, .int 0, .int 0, .null])), (q12, .inl (cs 0, 100, .inl (fun _ => 0)))] := hD
  refine W.widen (k := 1) (n := 100) (by omega) (by omega) ?_
  refine va_putF (D := D) (cl := jm_cl0) (ci := 5) (v := .ref q12) (ty := .array .int) (C := RX5) (T := TX5) (N := 6) (index := 15) hx hb hts (jm_uws (ci := 5) rfl) tyX5 tyX5_ok nmX5 hown hK hP hD hS 0 rfl rfl 5 (by decide) (hts _ (jm_at_T (i := 222) (by decide +kernel))) (fun _ h9 => h9) rfl hin rfl (by decide +kernel) rfl rfl (Nat.le_of_ble_eq_true rfl) (show decode prog_7_method_1_code 14 = .ok (.putfield 15, 3) by decide +kernel) (fun H locs hP hD hS => ?_)
  have hP : va_P D jm_cl0 [(h0, .inr (5, [.int 0, .int 0, .int 0, .int 0, .int 0, .ref q12])), (q12, .inl (cs 0, 100, .inl (fun _ => 0)))] H := hP
  have hD : va_D A [(h0, .inr (5, [.int 0, .int 0, .int 0, .int 0, .int 0, .ref q12])), (q12, .inl (cs 0, 100, .inl (fun _ => 0)))] := hD
  refine W.widen (k := 1) (n := 100) (by omega) (by omega) ?_
  subst hAe
  exact W.vret hx hb hr (fun t ht hW => ⟨⟨(fun i => [q12].getD i 0), rfl, trivial, by rw [ht]; exact hP, hD⟩, hS.F ht⟩) hS.2.2 (show decode prog_7_method_1_code 17 = .ok (.return_, 1) by decide +kernel)
def jn_fr (cs : Nat → ClassId) (h0 k0 : Nat) (u : Nat → Nat) : va_W := [(h0, .inr (1, [.ref k0, .ref (u 0), .ref (u 1), .ref (u 2), .ref (u 3), .ref (u 4), .ref (u 5), .ref (u 6), .ref (u 7), .int 0, .int 0, .int 8, .int 0, .int 0, .int 0])), ((u 0), .inl (cs 0, 6, .inl (fun _ => 0))), ((u 1), .inl (cs 0, 6, .inl (fun _ => 0))), ((u 2), .inl (cs 0, 6, .inl (fun _ => 0))), ((u 3), .inl (cs 0, 6, .inl (fun _ => 0))), ((u 4), .inl (cs 0, 6, .inl (fun _ => 0))), ((u 5), .inl (cs 0, 6, .inl (fun _ => 0))), ((u 6), .inl (cs 0, 16, .inl (fun _ => 0))), ((u 7), .inl (cs 0, 16, .inl (fun _ => 0)))]
set_option maxHeartbeats 8000000 in
set_option maxRecDepth 100000 in
/-- Frontier(kinds) -/
theorem jn_iX1 (l : Launch) (D : va_G) (cs : Nat → ClassId) (h0 k0 : Nat) (sz : Nat) : Met l ⟨"PapersAreOnCats$Frontier", "<init>", "([LPapersAreOnCats$Cat;)V"⟩ (Cond.code ⟨"PapersAreOnCats$Frontier", "<init>", "([LPapersAreOnCats$Cat;)V"⟩ prog_3_method_1_code 2 none :: jm_T) (jn_r 1 8 68 12) (jn_P D cs [.ref h0, .ref k0] [(h0, .inr (1, [.null, .null, .null, .null, .null, .null, .null, .null, .null, .int 0, .int 0, .int 0, .int 0, .int 0, .int 0]))] sz) (jn_Q D [(h0, .inr (1, [.null, .null, .null, .null, .null, .null, .null, .null, .null, .int 0, .int 0, .int 0, .int 0, .int 0, .int 0]))] sz (jn_fr cs h0 k0)) 8 68 (va_A [(h0, .inr (1, [.null, .null, .null, .null, .null, .null, .null, .null, .null, .int 0, .int 0, .int 0, .int 0, .int 0, .int 0]))] sz) := by
  refine Met.ofW (cc := prog_3_method_1_code) (maxL := 2) (ret := none) (by decide) rfl ?_
  intro p e s m args below meth c s₁ B hml hv
  obtain ⟨rfl, hsz, hP, hD0, hI⟩ := hv
  have hx := B.exec
  have hb := B.bytes
  have hr := B.returns
  have hts := jn_hts (atoms_spec (ws := Cond.code ⟨"PapersAreOnCats$Frontier", "<init>", "([LPapersAreOnCats$Cat;)V"⟩ prog_3_method_1_code 2 none :: jm_T) B.pre)
  have hown : s.vm.findClass "PapersAreOnCats$Frontier" = some m.cls := findClass_of_methodNamed B.named
  have hlocks := B.notSynchronized
  have hin : meth.name = "<init>" := (name_of_methodNamed B.named B.method).1
  have hK := hI.1
  subst hsz
  have hD := hD0.self (sz := s.heap.size)
  generalize hAe : va_A [(h0, .inr (1, [.null, .null, .null, .null, .null, .null, .null, .null, .null, .int 0, .int 0, .int 0, .int 0, .int 0, .int 0]))] s.heap.size = A at hD ⊢
  have hA : ∀ q : Nat, s.heap.size ≤ q → A q := fun q h => by rw [← hAe]; exact Or.inr h
  have hS : va_S A s.heap s.heap [] := va_S.rf
  have hP : va_P D jm_cl0 [(h0, .inr (1, [.null, .null, .null, .null, .null, .null, .null, .null, .null, .int 0, .int 0, .int 0, .int 0, .int 0, .int 0]))] s.heap := hP
  have hl := lv_entry ([.ref h0, .ref k0]) (n := 2) (Nat.le_of_ble_eq_true rfl)
  rw [lg_entry_eq]
  generalize (lg_sl ([.ref h0, .ref k0]) ++ List.replicate (2 - (lg_sl ([.ref h0, .ref k0])).length) Slot.unset).toArray = ls at hl ⊢
  have hl : lv_has ls 2 [(0, .ref h0), (1, .ref k0)] := hl
  refine lv_aload_n hx hb (show decode prog_3_method_1_code 0 = .ok (.aload_n 0, 1) by decide +kernel) rfl (lv_at hl 0 rfl) ?_
  refine W.objInit hx hb hown (hts _ (jm_at_T (i := 133) (w := .methodLink "PapersAreOnCats$Frontier" 3 objectInit) (by decide +kernel))) (hts _ (jm_at_T (i := 66) (w := .instanceMethod objectInit) (by decide +kernel))) (hts _ (jm_at_T (i := 67) (w := .code objectInit ⟨#[0xb1]⟩ 1 none) (by decide +kernel))) rfl (by rw [hml]; exact hl.1) rfl (show decode prog_3_method_1_code 1 = .ok (.invokespecial 3, 3) by decide +kernel) (Nat.le_of_ble_eq_true rfl) (Nat.le_of_ble_eq_true rfl) ?_
  refine W.eq (g2 := F0 m 4 ls []) rfl ?_
  refine lv_aload_n hx hb (show decode prog_3_method_1_code 4 = .ok (.aload_n 0, 1) by decide +kernel) rfl (lv_at hl 0 rfl) ?_
  refine lv_bipush (v := 6) hx hb (show decode prog_3_method_1_code 5 = .ok (.bipush 6, 2) by decide +kernel) (by decide) ?_
  have hc1 : 1 ≤ 8 := by decide
  have hs1 : 6 ≤ 68 := by decide
  refine jn_newa (N' := 6) hx hb hts hK hP hD hS hA (by decide) (by decide) (by decide) hc1 hs1 (show decode prog_3_method_1_code 7 = .ok (.newarray .int, 2) by decide +kernel) (fun q7 H hP hD hS => ?_)
  have hP : va_P D jm_cl0 [(h0, .inr (1, [.null, .null, .null, .null, .null, .null, .null, .null, .null, .int 0, .int 0, .int 0, .int 0, .int 0, .int 0])), (q7, .inl (cs 0, 6, .inl (fun _ => 0)))] H := hP
  have hD : va_D A [(h0, .inr (1, [.null, .null, .null, .null, .null, .null, .null, .null, .null, .int 0, .int 0, .int 0, .int 0, .int 0, .int 0])), (q7, .inl (cs 0, 6, .inl (fun _ => 0)))] := hD
  refine W.widen (k := 1) (n := 6) (by omega) (by omega) ?_
  refine va_putF (D := D) (cl := jm_cl0) (ci := 1) (v := .ref q7) (ty := .array .int) (C := RX1) (T := TX1) (N := 15) (index := 9) hx hb hts (jm_uws (ci := 1) rfl) tyX1 tyX1_ok nmX1 hown hK hP hD hS 0 rfl rfl 1 (by decide) (hts _ (jm_at_T (i := 135) (by decide +kernel))) (fun _ h9 => h9) rfl hin rfl (by decide +kernel) rfl rfl (Nat.le_of_ble_eq_true rfl) (show decode prog_3_method_1_code 9 = .ok (.putfield 9, 3) by decide +kernel) (fun H locs hP hD hS => ?_)
  have hP : va_P D jm_cl0 [(h0, .inr (1, [.null, .ref q7, .null, .null, .null, .null, .null, .null, .null, .int 0, .int 0, .int 0, .int 0, .int 0, .int 0])), (q7, .inl (cs 0, 6, .inl (fun _ => 0)))] H := hP
  have hD : va_D A [(h0, .inr (1, [.null, .ref q7, .null, .null, .null, .null, .null, .null, .null, .int 0, .int 0, .int 0, .int 0, .int 0, .int 0])), (q7, .inl (cs 0, 6, .inl (fun _ => 0)))] := hD
  refine lv_aload_n hx hb (show decode prog_3_method_1_code 12 = .ok (.aload_n 0, 1) by decide +kernel) rfl (lv_at hl 0 rfl) ?_
  refine lv_bipush (v := 6) hx hb (show decode prog_3_method_1_code 13 = .ok (.bipush 6, 2) by decide +kernel) (by decide) ?_
  have hc2 : 2 ≤ 8 := by decide
  have hs2 : 12 ≤ 68 := by decide
  refine jn_newa (N' := 6) hx hb hts hK hP hD hS hA (by decide) (by decide) (by decide) hc2 hs2 (show decode prog_3_method_1_code 15 = .ok (.newarray .int, 2) by decide +kernel) (fun q15 H hP hD hS => ?_)
  have hP : va_P D jm_cl0 [(h0, .inr (1, [.null, .ref q7, .null, .null, .null, .null, .null, .null, .null, .int 0, .int 0, .int 0, .int 0, .int 0, .int 0])), (q7, .inl (cs 0, 6, .inl (fun _ => 0))), (q15, .inl (cs 0, 6, .inl (fun _ => 0)))] H := hP
  have hD : va_D A [(h0, .inr (1, [.null, .ref q7, .null, .null, .null, .null, .null, .null, .null, .int 0, .int 0, .int 0, .int 0, .int 0, .int 0])), (q7, .inl (cs 0, 6, .inl (fun _ => 0))), (q15, .inl (cs 0, 6, .inl (fun _ => 0)))] := hD
  refine W.widen (k := 2) (n := 12) (by omega) (by omega) ?_
  refine va_putF (D := D) (cl := jm_cl0) (ci := 1) (v := .ref q15) (ty := .array .int) (C := RX1) (T := TX1) (N := 15) (index := 15) hx hb hts (jm_uws (ci := 1) rfl) tyX1 tyX1_ok nmX1 hown hK hP hD hS 0 rfl rfl 2 (by decide) (hts _ (jm_at_T (i := 137) (by decide +kernel))) (fun _ h9 => h9) rfl hin rfl (by decide +kernel) rfl rfl (Nat.le_of_ble_eq_true rfl) (show decode prog_3_method_1_code 17 = .ok (.putfield 15, 3) by decide +kernel) (fun H locs hP hD hS => ?_)
  have hP : va_P D jm_cl0 [(h0, .inr (1, [.null, .ref q7, .ref q15, .null, .null, .null, .null, .null, .null, .int 0, .int 0, .int 0, .int 0, .int 0, .int 0])), (q7, .inl (cs 0, 6, .inl (fun _ => 0))), (q15, .inl (cs 0, 6, .inl (fun _ => 0)))] H := hP
  have hD : va_D A [(h0, .inr (1, [.null, .ref q7, .ref q15, .null, .null, .null, .null, .null, .null, .int 0, .int 0, .int 0, .int 0, .int 0, .int 0])), (q7, .inl (cs 0, 6, .inl (fun _ => 0))), (q15, .inl (cs 0, 6, .inl (fun _ => 0)))] := hD
  refine lv_aload_n hx hb (show decode prog_3_method_1_code 20 = .ok (.aload_n 0, 1) by decide +kernel) rfl (lv_at hl 0 rfl) ?_
  refine lv_bipush (v := 6) hx hb (show decode prog_3_method_1_code 21 = .ok (.bipush 6, 2) by decide +kernel) (by decide) ?_
  have hc3 : 3 ≤ 8 := by decide
  have hs3 : 18 ≤ 68 := by decide
  refine jn_newa (N' := 6) hx hb hts hK hP hD hS hA (by decide) (by decide) (by decide) hc3 hs3 (show decode prog_3_method_1_code 23 = .ok (.newarray .int, 2) by decide +kernel) (fun q23 H hP hD hS => ?_)
  have hP : va_P D jm_cl0 [(h0, .inr (1, [.null, .ref q7, .ref q15, .null, .null, .null, .null, .null, .null, .int 0, .int 0, .int 0, .int 0, .int 0, .int 0])), (q7, .inl (cs 0, 6, .inl (fun _ => 0))), (q15, .inl (cs 0, 6, .inl (fun _ => 0))), (q23, .inl (cs 0, 6, .inl (fun _ => 0)))] H := hP
  have hD : va_D A [(h0, .inr (1, [.null, .ref q7, .ref q15, .null, .null, .null, .null, .null, .null, .int 0, .int 0, .int 0, .int 0, .int 0, .int 0])), (q7, .inl (cs 0, 6, .inl (fun _ => 0))), (q15, .inl (cs 0, 6, .inl (fun _ => 0))), (q23, .inl (cs 0, 6, .inl (fun _ => 0)))] := hD
  refine W.widen (k := 3) (n := 18) (by omega) (by omega) ?_
  refine va_putF (D := D) (cl := jm_cl0) (ci := 1) (v := .ref q23) (ty := .array .int) (C := RX1) (T := TX1) (N := 15) (index := 18) hx hb hts (jm_uws (ci := 1) rfl) tyX1 tyX1_ok nmX1 hown hK hP hD hS 0 rfl rfl 3 (by decide) (hts _ (jm_at_T (i := 139) (by decide +kernel))) (fun _ h9 => h9) rfl hin rfl (by decide +kernel) rfl rfl (Nat.le_of_ble_eq_true rfl) (show decode prog_3_method_1_code 25 = .ok (.putfield 18, 3) by decide +kernel) (fun H locs hP hD hS => ?_)
  have hP : va_P D jm_cl0 [(h0, .inr (1, [.null, .ref q7, .ref q15, .ref q23, .null, .null, .null, .null, .null, .int 0, .int 0, .int 0, .int 0, .int 0, .int 0])), (q7, .inl (cs 0, 6, .inl (fun _ => 0))), (q15, .inl (cs 0, 6, .inl (fun _ => 0))), (q23, .inl (cs 0, 6, .inl (fun _ => 0)))] H := hP
  have hD : va_D A [(h0, .inr (1, [.null, .ref q7, .ref q15, .ref q23, .null, .null, .null, .null, .null, .int 0, .int 0, .int 0, .int 0, .int 0, .int 0])), (q7, .inl (cs 0, 6, .inl (fun _ => 0))), (q15, .inl (cs 0, 6, .inl (fun _ => 0))), (q23, .inl (cs 0, 6, .inl (fun _ => 0)))] := hD
  refine lv_aload_n hx hb (show decode prog_3_method_1_code 28 = .ok (.aload_n 0, 1) by decide +kernel) rfl (lv_at hl 0 rfl) ?_
  refine lv_bipush (v := 6) hx hb (show decode prog_3_method_1_code 29 = .ok (.bipush 6, 2) by decide +kernel) (by decide) ?_
  have hc4 : 4 ≤ 8 := by decide
  have hs4 : 24 ≤ 68 := by decide
  refine jn_newa (N' := 6) hx hb hts hK hP hD hS hA (by decide) (by decide) (by decide) hc4 hs4 (show decode prog_3_method_1_code 31 = .ok (.newarray .int, 2) by decide +kernel) (fun q31 H hP hD hS => ?_)
  have hP : va_P D jm_cl0 [(h0, .inr (1, [.null, .ref q7, .ref q15, .ref q23, .null, .null, .null, .null, .null, .int 0, .int 0, .int 0, .int 0, .int 0, .int 0])), (q7, .inl (cs 0, 6, .inl (fun _ => 0))), (q15, .inl (cs 0, 6, .inl (fun _ => 0))), (q23, .inl (cs 0, 6, .inl (fun _ => 0))), (q31, .inl (cs 0, 6, .inl (fun _ => 0)))] H := hP
  have hD : va_D A [(h0, .inr (1, [.null, .ref q7, .ref q15, .ref q23, .null, .null, .null, .null, .null, .int 0, .int 0, .int 0, .int 0, .int 0, .int 0])), (q7, .inl (cs 0, 6, .inl (fun _ => 0))), (q15, .inl (cs 0, 6, .inl (fun _ => 0))), (q23, .inl (cs 0, 6, .inl (fun _ => 0))), (q31, .inl (cs 0, 6, .inl (fun _ => 0)))] := hD
  refine W.widen (k := 4) (n := 24) (by omega) (by omega) ?_
  refine va_putF (D := D) (cl := jm_cl0) (ci := 1) (v := .ref q31) (ty := .array .int) (C := RX1) (T := TX1) (N := 15) (index := 21) hx hb hts (jm_uws (ci := 1) rfl) tyX1 tyX1_ok nmX1 hown hK hP hD hS 0 rfl rfl 4 (by decide) (hts _ (jm_at_T (i := 146) (by decide +kernel))) (fun _ h9 => h9) rfl hin rfl (by decide +kernel) rfl rfl (Nat.le_of_ble_eq_true rfl) (show decode prog_3_method_1_code 33 = .ok (.putfield 21, 3) by decide +kernel) (fun H locs hP hD hS => ?_)
  have hP : va_P D jm_cl0 [(h0, .inr (1, [.null, .ref q7, .ref q15, .ref q23, .ref q31, .null, .null, .null, .null, .int 0, .int 0, .int 0, .int 0, .int 0, .int 0])), (q7, .inl (cs 0, 6, .inl (fun _ => 0))), (q15, .inl (cs 0, 6, .inl (fun _ => 0))), (q23, .inl (cs 0, 6, .inl (fun _ => 0))), (q31, .inl (cs 0, 6, .inl (fun _ => 0)))] H := hP
  have hD : va_D A [(h0, .inr (1, [.null, .ref q7, .ref q15, .ref q23, .ref q31, .null, .null, .null, .null, .int 0, .int 0, .int 0, .int 0, .int 0, .int 0])), (q7, .inl (cs 0, 6, .inl (fun _ => 0))), (q15, .inl (cs 0, 6, .inl (fun _ => 0))), (q23, .inl (cs 0, 6, .inl (fun _ => 0))), (q31, .inl (cs 0, 6, .inl (fun _ => 0)))] := hD
  refine lv_aload_n hx hb (show decode prog_3_method_1_code 36 = .ok (.aload_n 0, 1) by decide +kernel) rfl (lv_at hl 0 rfl) ?_
  refine lv_bipush (v := 6) hx hb (show decode prog_3_method_1_code 37 = .ok (.bipush 6, 2) by decide +kernel) (by decide) ?_
  have hc5 : 5 ≤ 8 := by decide
  have hs5 : 30 ≤ 68 := by decide
  refine jn_newa (N' := 6) hx hb hts hK hP hD hS hA (by decide) (by decide) (by decide) hc5 hs5 (show decode prog_3_method_1_code 39 = .ok (.newarray .int, 2) by decide +kernel) (fun q39 H hP hD hS => ?_)
  have hP : va_P D jm_cl0 [(h0, .inr (1, [.null, .ref q7, .ref q15, .ref q23, .ref q31, .null, .null, .null, .null, .int 0, .int 0, .int 0, .int 0, .int 0, .int 0])), (q7, .inl (cs 0, 6, .inl (fun _ => 0))), (q15, .inl (cs 0, 6, .inl (fun _ => 0))), (q23, .inl (cs 0, 6, .inl (fun _ => 0))), (q31, .inl (cs 0, 6, .inl (fun _ => 0))), (q39, .inl (cs 0, 6, .inl (fun _ => 0)))] H := hP
  have hD : va_D A [(h0, .inr (1, [.null, .ref q7, .ref q15, .ref q23, .ref q31, .null, .null, .null, .null, .int 0, .int 0, .int 0, .int 0, .int 0, .int 0])), (q7, .inl (cs 0, 6, .inl (fun _ => 0))), (q15, .inl (cs 0, 6, .inl (fun _ => 0))), (q23, .inl (cs 0, 6, .inl (fun _ => 0))), (q31, .inl (cs 0, 6, .inl (fun _ => 0))), (q39, .inl (cs 0, 6, .inl (fun _ => 0)))] := hD
  refine W.widen (k := 5) (n := 30) (by omega) (by omega) ?_
  refine va_putF (D := D) (cl := jm_cl0) (ci := 1) (v := .ref q39) (ty := .array .int) (C := RX1) (T := TX1) (N := 15) (index := 24) hx hb hts (jm_uws (ci := 1) rfl) tyX1 tyX1_ok nmX1 hown hK hP hD hS 0 rfl rfl 5 (by decide) (hts _ (jm_at_T (i := 148) (by decide +kernel))) (fun _ h9 => h9) rfl hin rfl (by decide +kernel) rfl rfl (Nat.le_of_ble_eq_true rfl) (show decode prog_3_method_1_code 41 = .ok (.putfield 24, 3) by decide +kernel) (fun H locs hP hD hS => ?_)
  have hP : va_P D jm_cl0 [(h0, .inr (1, [.null, .ref q7, .ref q15, .ref q23, .ref q31, .ref q39, .null, .null, .null, .int 0, .int 0, .int 0, .int 0, .int 0, .int 0])), (q7, .inl (cs 0, 6, .inl (fun _ => 0))), (q15, .inl (cs 0, 6, .inl (fun _ => 0))), (q23, .inl (cs 0, 6, .inl (fun _ => 0))), (q31, .inl (cs 0, 6, .inl (fun _ => 0))), (q39, .inl (cs 0, 6, .inl (fun _ => 0)))] H := hP
  have hD : va_D A [(h0, .inr (1, [.null, .ref q7, .ref q15, .ref q23, .ref q31, .ref q39, .null, .null, .null, .int 0, .int 0, .int 0, .int 0, .int 0, .int 0])), (q7, .inl (cs 0, 6, .inl (fun _ => 0))), (q15, .inl (cs 0, 6, .inl (fun _ => 0))), (q23, .inl (cs 0, 6, .inl (fun _ => 0))), (q31, .inl (cs 0, 6, .inl (fun _ => 0))), (q39, .inl (cs 0, 6, .inl (fun _ => 0)))] := hD
  refine lv_aload_n hx hb (show decode prog_3_method_1_code 44 = .ok (.aload_n 0, 1) by decide +kernel) rfl (lv_at hl 0 rfl) ?_
  refine lv_bipush (v := 6) hx hb (show decode prog_3_method_1_code 45 = .ok (.bipush 6, 2) by decide +kernel) (by decide) ?_
  have hc6 : 6 ≤ 8 := by decide
  have hs6 : 36 ≤ 68 := by decide
  refine jn_newa (N' := 6) hx hb hts hK hP hD hS hA (by decide) (by decide) (by decide) hc6 hs6 (show decode prog_3_method_1_code 47 = .ok (.newarray .int, 2) by decide +kernel) (fun q47 H hP hD hS => ?_)
  have hP : va_P D jm_cl0 [(h0, .inr (1, [.null, .ref q7, .ref q15, .ref q23, .ref q31, .ref q39, .null, .null, .null, .int 0, .int 0, .int 0, .int 0, .int 0, .int 0])), (q7, .inl (cs 0, 6, .inl (fun _ => 0))), (q15, .inl (cs 0, 6, .inl (fun _ => 0))), (q23, .inl (cs 0, 6, .inl (fun _ => 0))), (q31, .inl (cs 0, 6, .inl (fun _ => 0))), (q39, .inl (cs 0, 6, .inl (fun _ => 0))), (q47, .inl (cs 0, 6, .inl (fun _ => 0)))] H := hP
  have hD : va_D A [(h0, .inr (1, [.null, .ref q7, .ref q15, .ref q23, .ref q31, .ref q39, .null, .null, .null, .int 0, .int 0, .int 0, .int 0, .int 0, .int 0])), (q7, .inl (cs 0, 6, .inl (fun _ => 0))), (q15, .inl (cs 0, 6, .inl (fun _ => 0))), (q23, .inl (cs 0, 6, .inl (fun _ => 0))), (q31, .inl (cs 0, 6, .inl (fun _ => 0))), (q39, .inl (cs 0, 6, .inl (fun _ => 0))), (q47, .inl (cs 0, 6, .inl (fun _ => 0)))] := hD
  refine W.widen (k := 6) (n := 36) (by omega) (by omega) ?_
  refine va_putF (D := D) (cl := jm_cl0) (ci := 1) (v := .ref q47) (ty := .array .int) (C := RX1) (T := TX1) (N := 15) (index := 27) hx hb hts (jm_uws (ci := 1) rfl) tyX1 tyX1_ok nmX1 hown hK hP hD hS 0 rfl rfl 6 (by decide) (hts _ (jm_at_T (i := 150) (by decide +kernel))) (fun _ h9 => h9) rfl hin rfl (by decide +kernel) rfl rfl (Nat.le_of_ble_eq_true rfl) (show decode prog_3_method_1_code 49 = .ok (.putfield 27, 3) by decide +kernel) (fun H locs hP hD hS => ?_)
  have hP : va_P D jm_cl0 [(h0, .inr (1, [.null, .ref q7, .ref q15, .ref q23, .ref q31, .ref q39, .ref q47, .null, .null, .int 0, .int 0, .int 0, .int 0, .int 0, .int 0])), (q7, .inl (cs 0, 6, .inl (fun _ => 0))), (q15, .inl (cs 0, 6, .inl (fun _ => 0))), (q23, .inl (cs 0, 6, .inl (fun _ => 0))), (q31, .inl (cs 0, 6, .inl (fun _ => 0))), (q39, .inl (cs 0, 6, .inl (fun _ => 0))), (q47, .inl (cs 0, 6, .inl (fun _ => 0)))] H := hP
  have hD : va_D A [(h0, .inr (1, [.null, .ref q7, .ref q15, .ref q23, .ref q31, .ref q39, .ref q47, .null, .null, .int 0, .int 0, .int 0, .int 0, .int 0, .int 0])), (q7, .inl (cs 0, 6, .inl (fun _ => 0))), (q15, .inl (cs 0, 6, .inl (fun _ => 0))), (q23, .inl (cs 0, 6, .inl (fun _ => 0))), (q31, .inl (cs 0, 6, .inl (fun _ => 0))), (q39, .inl (cs 0, 6, .inl (fun _ => 0))), (q47, .inl (cs 0, 6, .inl (fun _ => 0)))] := hD
  refine lv_aload_n hx hb (show decode prog_3_method_1_code 52 = .ok (.aload_n 0, 1) by decide +kernel) rfl (lv_at hl 0 rfl) ?_
  refine lv_bipush (v := 16) hx hb (show decode prog_3_method_1_code 53 = .ok (.bipush 16, 2) by decide +kernel) (by decide) ?_
  have hc7 : 7 ≤ 8 := by decide
  have hs7 : 52 ≤ 68 := by decide
  refine jn_newa (N' := 16) hx hb hts hK hP hD hS hA (by decide) (by decide) (by decide) hc7 hs7 (show decode prog_3_method_1_code 55 = .ok (.newarray .int, 2) by decide +kernel) (fun q55 H hP hD hS => ?_)
  have hP : va_P D jm_cl0 [(h0, .inr (1, [.null, .ref q7, .ref q15, .ref q23, .ref q31, .ref q39, .ref q47, .null, .null, .int 0, .int 0, .int 0, .int 0, .int 0, .int 0])), (q7, .inl (cs 0, 6, .inl (fun _ => 0))), (q15, .inl (cs 0, 6, .inl (fun _ => 0))), (q23, .inl (cs 0, 6, .inl (fun _ => 0))), (q31, .inl (cs 0, 6, .inl (fun _ => 0))), (q39, .inl (cs 0, 6, .inl (fun _ => 0))), (q47, .inl (cs 0, 6, .inl (fun _ => 0))), (q55, .inl (cs 0, 16, .inl (fun _ => 0)))] H := hP
  have hD : va_D A [(h0, .inr (1, [.null, .ref q7, .ref q15, .ref q23, .ref q31, .ref q39, .ref q47, .null, .null, .int 0, .int 0, .int 0, .int 0, .int 0, .int 0])), (q7, .inl (cs 0, 6, .inl (fun _ => 0))), (q15, .inl (cs 0, 6, .inl (fun _ => 0))), (q23, .inl (cs 0, 6, .inl (fun _ => 0))), (q31, .inl (cs 0, 6, .inl (fun _ => 0))), (q39, .inl (cs 0, 6, .inl (fun _ => 0))), (q47, .inl (cs 0, 6, .inl (fun _ => 0))), (q55, .inl (cs 0, 16, .inl (fun _ => 0)))] := hD
  refine W.widen (k := 7) (n := 52) (by omega) (by omega) ?_
  refine va_putF (D := D) (cl := jm_cl0) (ci := 1) (v := .ref q55) (ty := .array .int) (C := RX1) (T := TX1) (N := 15) (index := 30) hx hb hts (jm_uws (ci := 1) rfl) tyX1 tyX1_ok nmX1 hown hK hP hD hS 0 rfl rfl 7 (by decide) (hts _ (jm_at_T (i := 152) (by decide +kernel))) (fun _ h9 => h9) rfl hin rfl (by decide +kernel) rfl rfl (Nat.le_of_ble_eq_true rfl) (show decode prog_3_method_1_code 57 = .ok (.putfield 30, 3) by decide +kernel) (fun H locs hP hD hS => ?_)
  have hP : va_P D jm_cl0 [(h0, .inr (1, [.null, .ref q7, .ref q15, .ref q23, .ref q31, .ref q39, .ref q47, .ref q55, .null, .int 0, .int 0, .int 0, .int 0, .int 0, .int 0])), (q7, .inl (cs 0, 6, .inl (fun _ => 0))), (q15, .inl (cs 0, 6, .inl (fun _ => 0))), (q23, .inl (cs 0, 6, .inl (fun _ => 0))), (q31, .inl (cs 0, 6, .inl (fun _ => 0))), (q39, .inl (cs 0, 6, .inl (fun _ => 0))), (q47, .inl (cs 0, 6, .inl (fun _ => 0))), (q55, .inl (cs 0, 16, .inl (fun _ => 0)))] H := hP
  have hD : va_D A [(h0, .inr (1, [.null, .ref q7, .ref q15, .ref q23, .ref q31, .ref q39, .ref q47, .ref q55, .null, .int 0, .int 0, .int 0, .int 0, .int 0, .int 0])), (q7, .inl (cs 0, 6, .inl (fun _ => 0))), (q15, .inl (cs 0, 6, .inl (fun _ => 0))), (q23, .inl (cs 0, 6, .inl (fun _ => 0))), (q31, .inl (cs 0, 6, .inl (fun _ => 0))), (q39, .inl (cs 0, 6, .inl (fun _ => 0))), (q47, .inl (cs 0, 6, .inl (fun _ => 0))), (q55, .inl (cs 0, 16, .inl (fun _ => 0)))] := hD
  refine lv_aload_n hx hb (show decode prog_3_method_1_code 60 = .ok (.aload_n 0, 1) by decide +kernel) rfl (lv_at hl 0 rfl) ?_
  refine lv_bipush (v := 16) hx hb (show decode prog_3_method_1_code 61 = .ok (.bipush 16, 2) by decide +kernel) (by decide) ?_
  have hc8 : 8 ≤ 8 := by decide
  have hs8 : 68 ≤ 68 := by decide
  refine jn_newa (N' := 16) hx hb hts hK hP hD hS hA (by decide) (by decide) (by decide) hc8 hs8 (show decode prog_3_method_1_code 63 = .ok (.newarray .int, 2) by decide +kernel) (fun q63 H hP hD hS => ?_)
  have hP : va_P D jm_cl0 [(h0, .inr (1, [.null, .ref q7, .ref q15, .ref q23, .ref q31, .ref q39, .ref q47, .ref q55, .null, .int 0, .int 0, .int 0, .int 0, .int 0, .int 0])), (q7, .inl (cs 0, 6, .inl (fun _ => 0))), (q15, .inl (cs 0, 6, .inl (fun _ => 0))), (q23, .inl (cs 0, 6, .inl (fun _ => 0))), (q31, .inl (cs 0, 6, .inl (fun _ => 0))), (q39, .inl (cs 0, 6, .inl (fun _ => 0))), (q47, .inl (cs 0, 6, .inl (fun _ => 0))), (q55, .inl (cs 0, 16, .inl (fun _ => 0))), (q63, .inl (cs 0, 16, .inl (fun _ => 0)))] H := hP
  have hD : va_D A [(h0, .inr (1, [.null, .ref q7, .ref q15, .ref q23, .ref q31, .ref q39, .ref q47, .ref q55, .null, .int 0, .int 0, .int 0, .int 0, .int 0, .int 0])), (q7, .inl (cs 0, 6, .inl (fun _ => 0))), (q15, .inl (cs 0, 6, .inl (fun _ => 0))), (q23, .inl (cs 0, 6, .inl (fun _ => 0))), (q31, .inl (cs 0, 6, .inl (fun _ => 0))), (q39, .inl (cs 0, 6, .inl (fun _ => 0))), (q47, .inl (cs 0, 6, .inl (fun _ => 0))), (q55, .inl (cs 0, 16, .inl (fun _ => 0))), (q63, .inl (cs 0, 16, .inl (fun _ => 0)))] := hD
  refine W.widen (k := 8) (n := 68) (by omega) (by omega) ?_
  refine va_putF (D := D) (cl := jm_cl0) (ci := 1) (v := .ref q63) (ty := .array .int) (C := RX1) (T := TX1) (N := 15) (index := 33) hx hb hts (jm_uws (ci := 1) rfl) tyX1 tyX1_ok nmX1 hown hK hP hD hS 0 rfl rfl 8 (by decide) (hts _ (jm_at_T (i := 157) (by decide +kernel))) (fun _ h9 => h9) rfl hin rfl (by decide +kernel) rfl rfl (Nat.le_of_ble_eq_true rfl) (show decode prog_3_method_1_code 65 = .ok (.putfield 33, 3) by decide +kernel) (fun H locs hP hD hS => ?_)
  have hP : va_P D jm_cl0 [(h0, .inr (1, [.null, .ref q7, .ref q15, .ref q23, .ref q31, .ref q39, .ref q47, .ref q55, .ref q63, .int 0, .int 0, .int 0, .int 0, .int 0, .int 0])), (q7, .inl (cs 0, 6, .inl (fun _ => 0))), (q15, .inl (cs 0, 6, .inl (fun _ => 0))), (q23, .inl (cs 0, 6, .inl (fun _ => 0))), (q31, .inl (cs 0, 6, .inl (fun _ => 0))), (q39, .inl (cs 0, 6, .inl (fun _ => 0))), (q47, .inl (cs 0, 6, .inl (fun _ => 0))), (q55, .inl (cs 0, 16, .inl (fun _ => 0))), (q63, .inl (cs 0, 16, .inl (fun _ => 0)))] H := hP
  have hD : va_D A [(h0, .inr (1, [.null, .ref q7, .ref q15, .ref q23, .ref q31, .ref q39, .ref q47, .ref q55, .ref q63, .int 0, .int 0, .int 0, .int 0, .int 0, .int 0])), (q7, .inl (cs 0, 6, .inl (fun _ => 0))), (q15, .inl (cs 0, 6, .inl (fun _ => 0))), (q23, .inl (cs 0, 6, .inl (fun _ => 0))), (q31, .inl (cs 0, 6, .inl (fun _ => 0))), (q39, .inl (cs 0, 6, .inl (fun _ => 0))), (q47, .inl (cs 0, 6, .inl (fun _ => 0))), (q55, .inl (cs 0, 16, .inl (fun _ => 0))), (q63, .inl (cs 0, 16, .inl (fun _ => 0)))] := hD
  refine lv_aload_n hx hb (show decode prog_3_method_1_code 68 = .ok (.aload_n 0, 1) by decide +kernel) rfl (lv_at hl 0 rfl) ?_
  refine lv_bipush (v := 8) hx hb (show decode prog_3_method_1_code 69 = .ok (.bipush 8, 2) by decide +kernel) (by decide) ?_
  refine va_put (D := D) (cl := jm_cl0) (ci := 1) (v := .int 8) (ty := .int) (C := RX1) (T := TX1) (N := 15) (index := 36) hx hb hts (jm_uws (ci := 1) rfl) tyX1 tyX1_ok nmX1 hown hK hP hD hS 0 rfl rfl 11 (by decide) (hts _ (jm_at_T (i := 165) (by decide +kernel))) (fun _ h9 => h9) rfl (by decide +kernel) rfl rfl (Nat.le_of_ble_eq_true rfl) (show decode prog_3_method_1_code 71 = .ok (.putfield 36, 3) by decide +kernel) (fun H locs hP hD hS => ?_)
  have hP : va_P D jm_cl0 [(h0, .inr (1, [.null, .ref q7, .ref q15, .ref q23, .ref q31, .ref q39, .ref q47, .ref q55, .ref q63, .int 0, .int 0, .int 8, .int 0, .int 0, .int 0])), (q7, .inl (cs 0, 6, .inl (fun _ => 0))), (q15, .inl (cs 0, 6, .inl (fun _ => 0))), (q23, .inl (cs 0, 6, .inl (fun _ => 0))), (q31, .inl (cs 0, 6, .inl (fun _ => 0))), (q39, .inl (cs 0, 6, .inl (fun _ => 0))), (q47, .inl (cs 0, 6, .inl (fun _ => 0))), (q55, .inl (cs 0, 16, .inl (fun _ => 0))), (q63, .inl (cs 0, 16, .inl (fun _ => 0)))] H := hP
  have hD : va_D A [(h0, .inr (1, [.null, .ref q7, .ref q15, .ref q23, .ref q31, .ref q39, .ref q47, .ref q55, .ref q63, .int 0, .int 0, .int 8, .int 0, .int 0, .int 0])), (q7, .inl (cs 0, 6, .inl (fun _ => 0))), (q15, .inl (cs 0, 6, .inl (fun _ => 0))), (q23, .inl (cs 0, 6, .inl (fun _ => 0))), (q31, .inl (cs 0, 6, .inl (fun _ => 0))), (q39, .inl (cs 0, 6, .inl (fun _ => 0))), (q47, .inl (cs 0, 6, .inl (fun _ => 0))), (q55, .inl (cs 0, 16, .inl (fun _ => 0))), (q63, .inl (cs 0, 16, .inl (fun _ => 0)))] := hD
  refine lv_aload_n hx hb (show decode prog_3_method_1_code 74 = .ok (.aload_n 0, 1) by decide +kernel) rfl (lv_at hl 0 rfl) ?_
  refine lv_aload_n hx hb (show decode prog_3_method_1_code 75 = .ok (.aload_n 1, 1) by decide +kernel) rfl (lv_at hl 1 rfl) ?_
  refine va_putF (D := D) (cl := jm_cl0) (ci := 1) (v := .ref k0) (ty := .array (.object "PapersAreOnCats$Cat")) (C := RX1) (T := TX1) (N := 15) (index := 40) hx hb hts (jm_uws (ci := 1) rfl) tyX1 tyX1_ok nmX1 hown hK hP hD hS 0 rfl rfl 0 (by decide) (hts _ (jm_at_T (i := 134) (by decide +kernel))) (fun _ h9 => h9) rfl hin rfl (by decide +kernel) rfl rfl (Nat.le_of_ble_eq_true rfl) (show decode prog_3_method_1_code 76 = .ok (.putfield 40, 3) by decide +kernel) (fun H locs hP hD hS => ?_)
  have hP : va_P D jm_cl0 [(h0, .inr (1, [.ref k0, .ref q7, .ref q15, .ref q23, .ref q31, .ref q39, .ref q47, .ref q55, .ref q63, .int 0, .int 0, .int 8, .int 0, .int 0, .int 0])), (q7, .inl (cs 0, 6, .inl (fun _ => 0))), (q15, .inl (cs 0, 6, .inl (fun _ => 0))), (q23, .inl (cs 0, 6, .inl (fun _ => 0))), (q31, .inl (cs 0, 6, .inl (fun _ => 0))), (q39, .inl (cs 0, 6, .inl (fun _ => 0))), (q47, .inl (cs 0, 6, .inl (fun _ => 0))), (q55, .inl (cs 0, 16, .inl (fun _ => 0))), (q63, .inl (cs 0, 16, .inl (fun _ => 0)))] H := hP
  have hD : va_D A [(h0, .inr (1, [.ref k0, .ref q7, .ref q15, .ref q23, .ref q31, .ref q39, .ref q47, .ref q55, .ref q63, .int 0, .int 0, .int 8, .int 0, .int 0, .int 0])), (q7, .inl (cs 0, 6, .inl (fun _ => 0))), (q15, .inl (cs 0, 6, .inl (fun _ => 0))), (q23, .inl (cs 0, 6, .inl (fun _ => 0))), (q31, .inl (cs 0, 6, .inl (fun _ => 0))), (q39, .inl (cs 0, 6, .inl (fun _ => 0))), (q47, .inl (cs 0, 6, .inl (fun _ => 0))), (q55, .inl (cs 0, 16, .inl (fun _ => 0))), (q63, .inl (cs 0, 16, .inl (fun _ => 0)))] := hD
  refine W.widen (k := 8) (n := 68) (by omega) (by omega) ?_
  subst hAe
  exact W.vret hx hb hr (fun t ht hW => ⟨⟨(fun i => [q7, q15, q23, q31, q39, q47, q55, q63].getD i 0), rfl, trivial, by rw [ht]; exact hP, hD⟩, hS.F ht⟩) hS.2.2 (show decode prog_3_method_1_code 79 = .ok (.return_, 1) by decide +kernel)
def jn_mo (cs : Nat → ClassId) (h0 : Nat) (u : Nat → Nat) : va_W := [(h0, .inr (11, [.ref (u 0), .ref (u 1), .ref (u 2), .ref (u 3), .int 0, .int 0, .int 0, .int 0, .ref (u 4), .ref (u 5), .int 0, .ref (u 6), .ref (u 7), .ref (u 8), .ref (u 9), .ref (u 10), .ref (u 11), .int 0])), ((u 0), .inl (cs 0, 78, .inl (upd (fun _ => 0) 2 8))), ((u 1), .inl (cs 0, 78, .inl (fun _ => 0))), ((u 2), .inl (cs 0, 78, .inl (fun _ => 0))), ((u 3), .inl (cs 0, 78, .inl (fun _ => 0))), ((u 4), .inl (cs 0, 3, .inl (fun _ => 0))), ((u 5), .inl (cs 0, 16, .inl (fun _ => 0))), ((u 6), .inl (cs 0, 8, .inl (fun _ => 0))), ((u 7), .inl (cs 0, 8, .inl (fun _ => 0))), ((u 8), .inl (cs 0, 8, .inl (fun _ => 0))), ((u 9), .inl (cs 0, 8, .inl (fun _ => 0))), ((u 10), .inl (cs 0, 8, .inl (fun _ => 0))), ((u 11), .inl (cs 0, 800, .inl (fun _ => 0)))]
set_option maxHeartbeats 8000000 in
set_option maxRecDepth 100000 in
/-- PapersAreOnCatsModel() -/
theorem jn_iX12 (l : Launch) (D : va_G) (cs : Nat → ClassId) (h0 : Nat) (sz : Nat) : Met l ⟨"PapersAreOnCatsModel", "<init>", "()V"⟩ (Cond.code ⟨"PapersAreOnCatsModel", "<init>", "()V"⟩ prog_14_method_1_code 1 none :: jm_T) (jn_r 1 12 1171 12) (jn_P D cs [.ref h0] [(h0, .inr (11, [.null, .null, .null, .null, .int 0, .int 0, .int 0, .int 0, .null, .null, .int 0, .null, .null, .null, .null, .null, .null, .int 0]))] sz) (jn_Q D [(h0, .inr (11, [.null, .null, .null, .null, .int 0, .int 0, .int 0, .int 0, .null, .null, .int 0, .null, .null, .null, .null, .null, .null, .int 0]))] sz (jn_mo cs h0)) 12 1171 (va_A [(h0, .inr (11, [.null, .null, .null, .null, .int 0, .int 0, .int 0, .int 0, .null, .null, .int 0, .null, .null, .null, .null, .null, .null, .int 0]))] sz) := by
  refine Met.ofW (cc := prog_14_method_1_code) (maxL := 1) (ret := none) (by decide) rfl ?_
  intro p e s m args below meth c s₁ B hml hv
  obtain ⟨rfl, hsz, hP, hD0, hI⟩ := hv
  have hx := B.exec
  have hb := B.bytes
  have hr := B.returns
  have hts := jn_hts (atoms_spec (ws := Cond.code ⟨"PapersAreOnCatsModel", "<init>", "()V"⟩ prog_14_method_1_code 1 none :: jm_T) B.pre)
  have hown : s.vm.findClass "PapersAreOnCatsModel" = some m.cls := findClass_of_methodNamed B.named
  have hlocks := B.notSynchronized
  have hin : meth.name = "<init>" := (name_of_methodNamed B.named B.method).1
  have hK := hI.1
  subst hsz
  have hD := hD0.self (sz := s.heap.size)
  generalize hAe : va_A [(h0, .inr (11, [.null, .null, .null, .null, .int 0, .int 0, .int 0, .int 0, .null, .null, .int 0, .null, .null, .null, .null, .null, .null, .int 0]))] s.heap.size = A at hD ⊢
  have hA : ∀ q : Nat, s.heap.size ≤ q → A q := fun q h => by rw [← hAe]; exact Or.inr h
  have hS : va_S A s.heap s.heap [] := va_S.rf
  have hP : va_P D jm_cl0 [(h0, .inr (11, [.null, .null, .null, .null, .int 0, .int 0, .int 0, .int 0, .null, .null, .int 0, .null, .null, .null, .null, .null, .null, .int 0]))] s.heap := hP
  have hl := lv_entry ([.ref h0]) (n := 1) (Nat.le_of_ble_eq_true rfl)
  rw [lg_entry_eq]
  generalize (lg_sl ([.ref h0]) ++ List.replicate (1 - (lg_sl ([.ref h0])).length) Slot.unset).toArray = ls at hl ⊢
  have hl : lv_has ls 1 [(0, .ref h0)] := hl
  refine lv_aload_n hx hb (show decode prog_14_method_1_code 0 = .ok (.aload_n 0, 1) by decide +kernel) rfl (lv_at hl 0 rfl) ?_
  refine W.objInit hx hb hown (hts _ (jm_at_T (i := 989) (w := .methodLink "PapersAreOnCatsModel" 1 objectInit) (by decide +kernel))) (hts _ (jm_at_T (i := 66) (w := .instanceMethod objectInit) (by decide +kernel))) (hts _ (jm_at_T (i := 67) (w := .code objectInit ⟨#[0xb1]⟩ 1 none) (by decide +kernel))) rfl (by rw [hml]; exact hl.1) rfl (show decode prog_14_method_1_code 1 = .ok (.invokespecial 1, 3) by decide +kernel) (Nat.le_of_ble_eq_true rfl) (Nat.le_of_ble_eq_true rfl) ?_
  refine W.eq (g2 := F0 m 4 ls []) rfl ?_
  refine lv_aload_n hx hb (show decode prog_14_method_1_code 4 = .ok (.aload_n 0, 1) by decide +kernel) rfl (lv_at hl 0 rfl) ?_
  refine lv_bipush (v := 78) hx hb (show decode prog_14_method_1_code 5 = .ok (.bipush 78, 2) by decide +kernel) (by decide) ?_
  have hc1 : 1 ≤ 12 := by decide
  have hs1 : 78 ≤ 1171 := by decide
  refine jn_newa (N' := 78) hx hb hts hK hP hD hS hA (by decide) (by decide) (by decide) hc1 hs1 (show decode prog_14_method_1_code 7 = .ok (.newarray .int, 2) by decide +kernel) (fun q7 H hP hD hS => ?_)
  have hP : va_P D jm_cl0 [(h0, .inr (11, [.null, .null, .null, .null, .int 0, .int 0, .int 0, .int 0, .null, .null, .int 0, .null, .null, .null, .null, .null, .null, .int 0])), (q7, .inl (cs 0, 78, .inl (fun _ => 0)))] H := hP
  have hD : va_D A [(h0, .inr (11, [.null, .null, .null, .null, .int 0, .int 0, .int 0, .int 0, .null, .null, .int 0, .null, .null, .null, .null, .null, .null, .int 0])), (q7, .inl (cs 0, 78, .inl (fun _ => 0)))] := hD
  refine W.widen (k := 1) (n := 78) (by omega) (by omega) ?_
  refine va_putF (D := D) (cl := jm_cl0) (ci := 11) (v := .ref q7) (ty := .array .int) (C := RX12) (T := TX12) (N := 18) (index := 9) hx hb hts (jm_uws (ci := 11) rfl) tyX12 tyX12_ok nmX12 hown hK hP hD hS 0 rfl rfl 0 (by decide) (hts _ (jm_at_T (i := 990) (by decide +kernel))) (fun _ h9 => h9) rfl hin rfl (by decide +kernel) rfl rfl (Nat.le_of_ble_eq_true rfl) (show decode prog_14_method_1_code 9 = .ok (.putfield 9, 3) by decide +kernel) (fun H locs hP hD hS => ?_)
  have hP : va_P D jm_cl0 [(h0, .inr (11, [.ref q7, .null, .null, .null, .int 0, .int 0, .int 0, .int 0, .null, .null, .int 0, .null, .null, .null, .null, .null, .null, .int 0])), (q7, .inl (cs 0, 78, .inl (fun _ => 0)))] H := hP
  have hD : va_D A [(h0, .inr (11, [.ref q7, .null, .null, .null, .int 0, .int 0, .int 0, .int 0, .null, .null, .int 0, .null, .null, .null, .null, .null, .null, .int 0])), (q7, .inl (cs 0, 78, .inl (fun _ => 0)))] := hD
  refine lv_aload_n hx hb (show decode prog_14_method_1_code 12 = .ok (.aload_n 0, 1) by decide +kernel) rfl (lv_at hl 0 rfl) ?_
  refine lv_bipush (v := 78) hx hb (show decode prog_14_method_1_code 13 = .ok (.bipush 78, 2) by decide +kernel) (by decide) ?_
  have hc2 : 2 ≤ 12 := by decide
  have hs2 : 156 ≤ 1171 := by decide
  refine jn_newa (N' := 78) hx hb hts hK hP hD hS hA (by decide) (by decide) (by decide) hc2 hs2 (show decode prog_14_method_1_code 15 = .ok (.newarray .int, 2) by decide +kernel) (fun q15 H hP hD hS => ?_)
  have hP : va_P D jm_cl0 [(h0, .inr (11, [.ref q7, .null, .null, .null, .int 0, .int 0, .int 0, .int 0, .null, .null, .int 0, .null, .null, .null, .null, .null, .null, .int 0])), (q7, .inl (cs 0, 78, .inl (fun _ => 0))), (q15, .inl (cs 0, 78, .inl (fun _ => 0)))] H := hP
  have hD : va_D A [(h0, .inr (11, [.ref q7, .null, .null, .null, .int 0, .int 0, .int 0, .int 0, .null, .null, .int 0, .null, .null, .null, .null, .null, .null, .int 0])), (q7, .inl (cs 0, 78, .inl (fun _ => 0))), (q15, .inl (cs 0, 78, .inl (fun _ => 0)))] := hD
  refine W.widen (k := 2) (n := 156) (by omega) (by omega) ?_
  refine va_putF (D := D) (cl := jm_cl0) (ci := 11) (v := .ref q15) (ty := .array .int) (C := RX12) (T := TX12) (N := 18) (index := 13) hx hb hts (jm_uws (ci := 11) rfl) tyX12 tyX12_ok nmX12 hown hK hP hD hS 0 rfl rfl 1 (by decide) (hts _ (jm_at_T (i := 991) (by decide +kernel))) (fun _ h9 => h9) rfl hin rfl (by decide +kernel) rfl rfl (Nat.le_of_ble_eq_true rfl) (show decode prog_14_method_1_code 17 = .ok (.putfield 13, 3) by decide +kernel) (fun H locs hP hD hS => ?_)
  have hP : va_P D jm_cl0 [(h0, .inr (11, [.ref q7, .ref q15, .null, .null, .int 0, .int 0, .int 0, .int 0, .null, .null, .int 0, .null, .null, .null, .null, .null, .null, .int 0])), (q7, .inl (cs 0, 78, .inl (fun _ => 0))), (q15, .inl (cs 0, 78, .inl (fun _ => 0)))] H := hP
  have hD : va_D A [(h0, .inr (11, [.ref q7, .ref q15, .null, .null, .int 0, .int 0, .int 0, .int 0, .null, .null, .int 0, .null, .null, .null, .null, .null, .null, .int 0])), (q7, .inl (cs 0, 78, .inl (fun _ => 0))), (q15, .inl (cs 0, 78, .inl (fun _ => 0)))] := hD
  refine lv_aload_n hx hb (show decode prog_14_method_1_code 20 = .ok (.aload_n 0, 1) by decide +kernel) rfl (lv_at hl 0 rfl) ?_
  refine lv_bipush (v := 78) hx hb (show decode prog_14_method_1_code 21 = .ok (.bipush 78, 2) by decide +kernel) (by decide) ?_
  have hc3 : 3 ≤ 12 := by decide
  have hs3 : 234 ≤ 1171 := by decide
  refine jn_newa (N' := 78) hx hb hts hK hP hD hS hA (by decide) (by decide) (by decide) hc3 hs3 (show decode prog_14_method_1_code 23 = .ok (.newarray .int, 2) by decide +kernel) (fun q23 H hP hD hS => ?_)
  have hP : va_P D jm_cl0 [(h0, .inr (11, [.ref q7, .ref q15, .null, .null, .int 0, .int 0, .int 0, .int 0, .null, .null, .int 0, .null, .null, .null, .null, .null, .null, .int 0])), (q7, .inl (cs 0, 78, .inl (fun _ => 0))), (q15, .inl (cs 0, 78, .inl (fun _ => 0))), (q23, .inl (cs 0, 78, .inl (fun _ => 0)))] H := hP
  have hD : va_D A [(h0, .inr (11, [.ref q7, .ref q15, .null, .null, .int 0, .int 0, .int 0, .int 0, .null, .null, .int 0, .null, .null, .null, .null, .null, .null, .int 0])), (q7, .inl (cs 0, 78, .inl (fun _ => 0))), (q15, .inl (cs 0, 78, .inl (fun _ => 0))), (q23, .inl (cs 0, 78, .inl (fun _ => 0)))] := hD
  refine W.widen (k := 3) (n := 234) (by omega) (by omega) ?_
  refine va_putF (D := D) (cl := jm_cl0) (ci := 11) (v := .ref q23) (ty := .array .int) (C := RX12) (T := TX12) (N := 18) (index := 16) hx hb hts (jm_uws (ci := 11) rfl) tyX12 tyX12_ok nmX12 hown hK hP hD hS 0 rfl rfl 2 (by decide) (hts _ (jm_at_T (i := 992) (by decide +kernel))) (fun _ h9 => h9) rfl hin rfl (by decide +kernel) rfl rfl (Nat.le_of_ble_eq_true rfl) (show decode prog_14_method_1_code 25 = .ok (.putfield 16, 3) by decide +kernel) (fun H locs hP hD hS => ?_)
  have hP : va_P D jm_cl0 [(h0, .inr (11, [.ref q7, .ref q15, .ref q23, .null, .int 0, .int 0, .int 0, .int 0, .null, .null, .int 0, .null, .null, .null, .null, .null, .null, .int 0])), (q7, .inl (cs 0, 78, .inl (fun _ => 0))), (q15, .inl (cs 0, 78, .inl (fun _ => 0))), (q23, .inl (cs 0, 78, .inl (fun _ => 0)))] H := hP
  have hD : va_D A [(h0, .inr (11, [.ref q7, .ref q15, .ref q23, .null, .int 0, .int 0, .int 0, .int 0, .null, .null, .int 0, .null, .null, .null, .null, .null, .null, .int 0])), (q7, .inl (cs 0, 78, .inl (fun _ => 0))), (q15, .inl (cs 0, 78, .inl (fun _ => 0))), (q23, .inl (cs 0, 78, .inl (fun _ => 0)))] := hD
  refine lv_aload_n hx hb (show decode prog_14_method_1_code 28 = .ok (.aload_n 0, 1) by decide +kernel) rfl (lv_at hl 0 rfl) ?_
  refine lv_bipush (v := 78) hx hb (show decode prog_14_method_1_code 29 = .ok (.bipush 78, 2) by decide +kernel) (by decide) ?_
  have hc4 : 4 ≤ 12 := by decide
  have hs4 : 312 ≤ 1171 := by decide
  refine jn_newa (N' := 78) hx hb hts hK hP hD hS hA (by decide) (by decide) (by decide) hc4 hs4 (show decode prog_14_method_1_code 31 = .ok (.newarray .int, 2) by decide +kernel) (fun q31 H hP hD hS => ?_)
  have hP : va_P D jm_cl0 [(h0, .inr (11, [.ref q7, .ref q15, .ref q23, .null, .int 0, .int 0, .int 0, .int 0, .null, .null, .int 0, .null, .null, .null, .null, .null, .null, .int 0])), (q7, .inl (cs 0, 78, .inl (fun _ => 0))), (q15, .inl (cs 0, 78, .inl (fun _ => 0))), (q23, .inl (cs 0, 78, .inl (fun _ => 0))), (q31, .inl (cs 0, 78, .inl (fun _ => 0)))] H := hP
  have hD : va_D A [(h0, .inr (11, [.ref q7, .ref q15, .ref q23, .null, .int 0, .int 0, .int 0, .int 0, .null, .null, .int 0, .null, .null, .null, .null, .null, .null, .int 0])), (q7, .inl (cs 0, 78, .inl (fun _ => 0))), (q15, .inl (cs 0, 78, .inl (fun _ => 0))), (q23, .inl (cs 0, 78, .inl (fun _ => 0))), (q31, .inl (cs 0, 78, .inl (fun _ => 0)))] := hD
  refine W.widen (k := 4) (n := 312) (by omega) (by omega) ?_
  refine va_putF (D := D) (cl := jm_cl0) (ci := 11) (v := .ref q31) (ty := .array .int) (C := RX12) (T := TX12) (N := 18) (index := 19) hx hb hts (jm_uws (ci := 11) rfl) tyX12 tyX12_ok nmX12 hown hK hP hD hS 0 rfl rfl 3 (by decide) (hts _ (jm_at_T (i := 993) (by decide +kernel))) (fun _ h9 => h9) rfl hin rfl (by decide +kernel) rfl rfl (Nat.le_of_ble_eq_true rfl) (show decode prog_14_method_1_code 33 = .ok (.putfield 19, 3) by decide +kernel) (fun H locs hP hD hS => ?_)
  have hP : va_P D jm_cl0 [(h0, .inr (11, [.ref q7, .ref q15, .ref q23, .ref q31, .int 0, .int 0, .int 0, .int 0, .null, .null, .int 0, .null, .null, .null, .null, .null, .null, .int 0])), (q7, .inl (cs 0, 78, .inl (fun _ => 0))), (q15, .inl (cs 0, 78, .inl (fun _ => 0))), (q23, .inl (cs 0, 78, .inl (fun _ => 0))), (q31, .inl (cs 0, 78, .inl (fun _ => 0)))] H := hP
  have hD : va_D A [(h0, .inr (11, [.ref q7, .ref q15, .ref q23, .ref q31, .int 0, .int 0, .int 0, .int 0, .null, .null, .int 0, .null, .null, .null, .null, .null, .null, .int 0])), (q7, .inl (cs 0, 78, .inl (fun _ => 0))), (q15, .inl (cs 0, 78, .inl (fun _ => 0))), (q23, .inl (cs 0, 78, .inl (fun _ => 0))), (q31, .inl (cs 0, 78, .inl (fun _ => 0)))] := hD
  refine lv_aload_n hx hb (show decode prog_14_method_1_code 36 = .ok (.aload_n 0, 1) by decide +kernel) rfl (lv_at hl 0 rfl) ?_
  refine lv_iconst (v := 3) hx hb (show decode prog_14_method_1_code 37 = .ok (.iconst 3, 1) by decide +kernel) (by decide) ?_
  have hc5 : 5 ≤ 12 := by decide
  have hs5 : 315 ≤ 1171 := by decide
  refine jn_newa (N' := 3) hx hb hts hK hP hD hS hA (by decide) (by decide) (by decide) hc5 hs5 (show decode prog_14_method_1_code 38 = .ok (.newarray .int, 2) by decide +kernel) (fun q38 H hP hD hS => ?_)
  have hP : va_P D jm_cl0 [(h0, .inr (11, [.ref q7, .ref q15, .ref q23, .ref q31, .int 0, .int 0, .int 0, .int 0, .null, .null, .int 0, .null, .null, .null, .null, .null, .null, .int 0])), (q7, .inl (cs 0, 78, .inl (fun _ => 0))), (q15, .inl (cs 0, 78, .inl (fun _ => 0))), (q23, .inl (cs 0, 78, .inl (fun _ => 0))), (q31, .inl (cs 0, 78, .inl (fun _ => 0))), (q38, .inl (cs 0, 3, .inl (fun _ => 0)))] H := hP
  have hD : va_D A [(h0, .inr (11, [.ref q7, .ref q15, .ref q23, .ref q31, .int 0, .int 0, .int 0, .int 0, .null, .null, .int 0, .null, .null, .null, .null, .null, .null, .int 0])), (q7, .inl (cs 0, 78, .inl (fun _ => 0))), (q15, .inl (cs 0, 78, .inl (fun _ => 0))), (q23, .inl (cs 0, 78, .inl (fun _ => 0))), (q31, .inl (cs 0, 78, .inl (fun _ => 0))), (q38, .inl (cs 0, 3, .inl (fun _ => 0)))] := hD
  refine W.widen (k := 5) (n := 315) (by omega) (by omega) ?_
  refine va_putF (D := D) (cl := jm_cl0) (ci := 11) (v := .ref q38) (ty := .array .int) (C := RX12) (T := TX12) (N := 18) (index := 22) hx hb hts (jm_uws (ci := 11) rfl) tyX12 tyX12_ok nmX12 hown hK hP hD hS 0 rfl rfl 8 (by decide) (hts _ (jm_at_T (i := 998) (by decide +kernel))) (fun _ h9 => h9) rfl hin rfl (by decide +kernel) rfl rfl (Nat.le_of_ble_eq_true rfl) (show decode prog_14_method_1_code 40 = .ok (.putfield 22, 3) by decide +kernel) (fun H locs hP hD hS => ?_)
  have hP : va_P D jm_cl0 [(h0, .inr (11, [.ref q7, .ref q15, .ref q23, .ref q31, .int 0, .int 0, .int 0, .int 0, .ref q38, .null, .int 0, .null, .null, .null, .null, .null, .null, .int 0])), (q7, .inl (cs 0, 78, .inl (fun _ => 0))), (q15, .inl (cs 0, 78, .inl (fun _ => 0))), (q23, .inl (cs 0, 78, .inl (fun _ => 0))), (q31, .inl (cs 0, 78, .inl (fun _ => 0))), (q38, .inl (cs 0, 3, .inl (fun _ => 0)))] H := hP
  have hD : va_D A [(h0, .inr (11, [.ref q7, .ref q15, .ref q23, .ref q31, .int 0, .int 0, .int 0, .int 0, .ref q38, .null, .int 0, .null, .null, .null, .null, .null, .null, .int 0])), (q7, .inl (cs 0, 78, .inl (fun _ => 0))), (q15, .inl (cs 0, 78, .inl (fun _ => 0))), (q23, .inl (cs 0, 78, .inl (fun _ => 0))), (q31, .inl (cs 0, 78, .inl (fun _ => 0))), (q38, .inl (cs 0, 3, .inl (fun _ => 0)))] := hD
  refine lv_aload_n hx hb (show decode prog_14_method_1_code 43 = .ok (.aload_n 0, 1) by decide +kernel) rfl (lv_at hl 0 rfl) ?_
  refine lv_bipush (v := 16) hx hb (show decode prog_14_method_1_code 44 = .ok (.bipush 16, 2) by decide +kernel) (by decide) ?_
  have hc6 : 6 ≤ 12 := by decide
  have hs6 : 331 ≤ 1171 := by decide
  refine jn_newa (N' := 16) hx hb hts hK hP hD hS hA (by decide) (by decide) (by decide) hc6 hs6 (show decode prog_14_method_1_code 46 = .ok (.newarray .int, 2) by decide +kernel) (fun q46 H hP hD hS => ?_)
  have hP : va_P D jm_cl0 [(h0, .inr (11, [.ref q7, .ref q15, .ref q23, .ref q31, .int 0, .int 0, .int 0, .int 0, .ref q38, .null, .int 0, .null, .null, .null, .null, .null, .null, .int 0])), (q7, .inl (cs 0, 78, .inl (fun _ => 0))), (q15, .inl (cs 0, 78, .inl (fun _ => 0))), (q23, .inl (cs 0, 78, .inl (fun _ => 0))), (q31, .inl (cs 0, 78, .inl (fun _ => 0))), (q38, .inl (cs 0, 3, .inl (fun _ => 0))), (q46, .inl (cs 0, 16, .inl (fun _ => 0)))] H := hP
  have hD : va_D A [(h0, .inr (11, [.ref q7, .ref q15, .ref q23, .ref q31, .int 0, .int 0, .int 0, .int 0, .ref q38, .null, .int 0, .null, .null, .null, .null, .null, .null, .int 0])), (q7, .inl (cs 0, 78, .inl (fun _ => 0))), (q15, .inl (cs 0, 78, .inl (fun _ => 0))), (q23, .inl (cs 0, 78, .inl (fun _ => 0))), (q31, .inl (cs 0, 78, .inl (fun _ => 0))), (q38, .inl (cs 0, 3, .inl (fun _ => 0))), (q46, .inl (cs 0, 16, .inl (fun _ => 0)))] := hD
  refine W.widen (k := 6) (n := 331) (by omega) (by omega) ?_
  refine va_putF (D := D) (cl := jm_cl0) (ci := 11) (v := .ref q46) (ty := .array .int) (C := RX12) (T := TX12) (N := 18) (index := 25) hx hb hts (jm_uws (ci := 11) rfl) tyX12 tyX12_ok nmX12 hown hK hP hD hS 0 rfl rfl 9 (by decide) (hts _ (jm_at_T (i := 999) (by decide +kernel))) (fun _ h9 => h9) rfl hin rfl (by decide +kernel) rfl rfl (Nat.le_of_ble_eq_true rfl) (show decode prog_14_method_1_code 48 = .ok (.putfield 25, 3) by decide +kernel) (fun H locs hP hD hS => ?_)
  have hP : va_P D jm_cl0 [(h0, .inr (11, [.ref q7, .ref q15, .ref q23, .ref q31, .int 0, .int 0, .int 0, .int 0, .ref q38, .ref q46, .int 0, .null, .null, .null, .null, .null, .null, .int 0])), (q7, .inl (cs 0, 78, .inl (fun _ => 0))), (q15, .inl (cs 0, 78, .inl (fun _ => 0))), (q23, .inl (cs 0, 78, .inl (fun _ => 0))), (q31, .inl (cs 0, 78, .inl (fun _ => 0))), (q38, .inl (cs 0, 3, .inl (fun _ => 0))), (q46, .inl (cs 0, 16, .inl (fun _ => 0)))] H := hP
  have hD : va_D A [(h0, .inr (11, [.ref q7, .ref q15, .ref q23, .ref q31, .int 0, .int 0, .int 0, .int 0, .ref q38, .ref q46, .int 0, .null, .null, .null, .null, .null, .null, .int 0])), (q7, .inl (cs 0, 78, .inl (fun _ => 0))), (q15, .inl (cs 0, 78, .inl (fun _ => 0))), (q23, .inl (cs 0, 78, .inl (fun _ => 0))), (q31, .inl (cs 0, 78, .inl (fun _ => 0))), (q38, .inl (cs 0, 3, .inl (fun _ => 0))), (q46, .inl (cs 0, 16, .inl (fun _ => 0)))] := hD
  refine lv_aload_n hx hb (show decode prog_14_method_1_code 51 = .ok (.aload_n 0, 1) by decide +kernel) rfl (lv_at hl 0 rfl) ?_
  refine lv_bipush (v := 8) hx hb (show decode prog_14_method_1_code 52 = .ok (.bipush 8, 2) by decide +kernel) (by decide) ?_
  have hc7 : 7 ≤ 12 := by decide
  have hs7 : 339 ≤ 1171 := by decide
  refine jn_newa (N' := 8) hx hb hts hK hP hD hS hA (by decide) (by decide) (by decide) hc7 hs7 (show decode prog_14_method_1_code 54 = .ok (.newarray .int, 2) by decide +kernel) (fun q54 H hP hD hS => ?_)
  have hP : va_P D jm_cl0 [(h0, .inr (11, [.ref q7, .ref q15, .ref q23, .ref q31, .int 0, .int 0, .int 0, .int 0, .ref q38, .ref q46, .int 0, .null, .null, .null, .null, .null, .null, .int 0])), (q7, .inl (cs 0, 78, .inl (fun _ => 0))), (q15, .inl (cs 0, 78, .inl (fun _ => 0))), (q23, .inl (cs 0, 78, .inl (fun _ => 0))), (q31, .inl (cs 0, 78, .inl (fun _ => 0))), (q38, .inl (cs 0, 3, .inl (fun _ => 0))), (q46, .inl (cs 0, 16, .inl (fun _ => 0))), (q54, .inl (cs 0, 8, .inl (fun _ => 0)))] H := hP
  have hD : va_D A [(h0, .inr (11, [.ref q7, .ref q15, .ref q23, .ref q31, .int 0, .int 0, .int 0, .int 0, .ref q38, .ref q46, .int 0, .null, .null, .null, .null, .null, .null, .int 0])), (q7, .inl (cs 0, 78, .inl (fun _ => 0))), (q15, .inl (cs 0, 78, .inl (fun _ => 0))), (q23, .inl (cs 0, 78, .inl (fun _ => 0))), (q31, .inl (cs 0, 78, .inl (fun _ => 0))), (q38, .inl (cs 0, 3, .inl (fun _ => 0))), (q46, .inl (cs 0, 16, .inl (fun _ => 0))), (q54, .inl (cs 0, 8, .inl (fun _ => 0)))] := hD
  refine W.widen (k := 7) (n := 339) (by omega) (by omega) ?_
  refine va_putF (D := D) (cl := jm_cl0) (ci := 11) (v := .ref q54) (ty := .array .int) (C := RX12) (T := TX12) (N := 18) (index := 28) hx hb hts (jm_uws (ci := 11) rfl) tyX12 tyX12_ok nmX12 hown hK hP hD hS 0 rfl rfl 11 (by decide) (hts _ (jm_at_T (i := 1001) (by decide +kernel))) (fun _ h9 => h9) rfl hin rfl (by decide +kernel) rfl rfl (Nat.le_of_ble_eq_true rfl) (show decode prog_14_method_1_code 56 = .ok (.putfield 28, 3) by decide +kernel) (fun H locs hP hD hS => ?_)
  have hP : va_P D jm_cl0 [(h0, .inr (11, [.ref q7, .ref q15, .ref q23, .ref q31, .int 0, .int 0, .int 0, .int 0, .ref q38, .ref q46, .int 0, .ref q54, .null, .null, .null, .null, .null, .int 0])), (q7, .inl (cs 0, 78, .inl (fun _ => 0))), (q15, .inl (cs 0, 78, .inl (fun _ => 0))), (q23, .inl (cs 0, 78, .inl (fun _ => 0))), (q31, .inl (cs 0, 78, .inl (fun _ => 0))), (q38, .inl (cs 0, 3, .inl (fun _ => 0))), (q46, .inl (cs 0, 16, .inl (fun _ => 0))), (q54, .inl (cs 0, 8, .inl (fun _ => 0)))] H := hP
  have hD : va_D A [(h0, .inr (11, [.ref q7, .ref q15, .ref q23, .ref q31, .int 0, .int 0, .int 0, .int 0, .ref q38, .ref q46, .int 0, .ref q54, .null, .null, .null, .null, .null, .int 0])), (q7, .inl (cs 0, 78, .inl (fun _ => 0))), (q15, .inl (cs 0, 78, .inl (fun _ => 0))), (q23, .inl (cs 0, 78, .inl (fun _ => 0))), (q31, .inl (cs 0, 78, .inl (fun _ => 0))), (q38, .inl (cs 0, 3, .inl (fun _ => 0))), (q46, .inl (cs 0, 16, .inl (fun _ => 0))), (q54, .inl (cs 0, 8, .inl (fun _ => 0)))] := hD
  refine lv_aload_n hx hb (show decode prog_14_method_1_code 59 = .ok (.aload_n 0, 1) by decide +kernel) rfl (lv_at hl 0 rfl) ?_
  refine lv_bipush (v := 8) hx hb (show decode prog_14_method_1_code 60 = .ok (.bipush 8, 2) by decide +kernel) (by decide) ?_
  have hc8 : 8 ≤ 12 := by decide
  have hs8 : 347 ≤ 1171 := by decide
  refine jn_newa (N' := 8) hx hb hts hK hP hD hS hA (by decide) (by decide) (by decide) hc8 hs8 (show decode prog_14_method_1_code 62 = .ok (.newarray .int, 2) by decide +kernel) (fun q62 H hP hD hS => ?_)
  have hP : va_P D jm_cl0 [(h0, .inr (11, [.ref q7, .ref q15, .ref q23, .ref q31, .int 0, .int 0, .int 0, .int 0, .ref q38, .ref q46, .int 0, .ref q54, .null, .null, .null, .null, .null, .int 0])), (q7, .inl (cs 0, 78, .inl (fun _ => 0))), (q15, .inl (cs 0, 78, .inl (fun _ => 0))), (q23, .inl (cs 0, 78, .inl (fun _ => 0))), (q31, .inl (cs 0, 78, .inl (fun _ => 0))), (q38, .inl (cs 0, 3, .inl (fun _ => 0))), (q46, .inl (cs 0, 16, .inl (fun _ => 0))), (q54, .inl (cs 0, 8, .inl (fun _ => 0))), (q62, .inl (cs 0, 8, .inl (fun _ => 0)))] H := hP
  have hD : va_D A [(h0, .inr (11, [.ref q7, .ref q15, .ref q23, .ref q31, .int 0, .int 0, .int 0, .int 0, .ref q38, .ref q46, .int 0, .ref q54, .null, .null, .null, .null, .null, .int 0])), (q7, .inl (cs 0, 78, .inl (fun _ => 0))), (q15, .inl (cs 0, 78, .inl (fun _ => 0))), (q23, .inl (cs 0, 78, .inl (fun _ => 0))), (q31, .inl (cs 0, 78, .inl (fun _ => 0))), (q38, .inl (cs 0, 3, .inl (fun _ => 0))), (q46, .inl (cs 0, 16, .inl (fun _ => 0))), (q54, .inl (cs 0, 8, .inl (fun _ => 0))), (q62, .inl (cs 0, 8, .inl (fun _ => 0)))] := hD
  refine W.widen (k := 8) (n := 347) (by omega) (by omega) ?_
  refine va_putF (D := D) (cl := jm_cl0) (ci := 11) (v := .ref q62) (ty := .array .int) (C := RX12) (T := TX12) (N := 18) (index := 31) hx hb hts (jm_uws (ci := 11) rfl) tyX12 tyX12_ok nmX12 hown hK hP hD hS 0 rfl rfl 12 (by decide) (hts _ (jm_at_T (i := 1002) (by decide +kernel))) (fun _ h9 => h9) rfl hin rfl (by decide +kernel) rfl rfl (Nat.le_of_ble_eq_true rfl) (show decode prog_14_method_1_code 64 = .ok (.putfield 31, 3) by decide +kernel) (fun H locs hP hD hS => ?_)
  have hP : va_P D jm_cl0 [(h0, .inr (11, [.ref q7, .ref q15, .ref q23, .ref q31, .int 0, .int 0, .int 0, .int 0, .ref q38, .ref q46, .int 0, .ref q54, .ref q62, .null, .null, .null, .null, .int 0])), (q7, .inl (cs 0, 78, .inl (fun _ => 0))), (q15, .inl (cs 0, 78, .inl (fun _ => 0))), (q23, .inl (cs 0, 78, .inl (fun _ => 0))), (q31, .inl (cs 0, 78, .inl (fun _ => 0))), (q38, .inl (cs 0, 3, .inl (fun _ => 0))), (q46, .inl (cs 0, 16, .inl (fun _ => 0))), (q54, .inl (cs 0, 8, .inl (fun _ => 0))), (q62, .inl (cs 0, 8, .inl (fun _ => 0)))] H := hP
  have hD : va_D A [(h0, .inr (11, [.ref q7, .ref q15, .ref q23, .ref q31, .int 0, .int 0, .int 0, .int 0, .ref q38, .ref q46, .int 0, .ref q54, .ref q62, .null, .null, .null, .null, .int 0])), (q7, .inl (cs 0, 78, .inl (fun _ => 0))), (q15, .inl (cs 0, 78, .inl (fun _ => 0))), (q23, .inl (cs 0, 78, .inl (fun _ => 0))), (q31, .inl (cs 0, 78, .inl (fun _ => 0))), (q38, .inl (cs 0, 3, .inl (fun _ => 0))), (q46, .inl (cs 0, 16, .inl (fun _ => 0))), (q54, .inl (cs 0, 8, .inl (fun _ => 0))), (q62, .inl (cs 0, 8, .inl (fun _ => 0)))] := hD
  refine lv_aload_n hx hb (show decode prog_14_method_1_code 67 = .ok (.aload_n 0, 1) by decide +kernel) rfl (lv_at hl 0 rfl) ?_
  refine lv_bipush (v := 8) hx hb (show decode prog_14_method_1_code 68 = .ok (.bipush 8, 2) by decide +kernel) (by decide) ?_
  have hc9 : 9 ≤ 12 := by decide
  have hs9 : 355 ≤ 1171 := by decide
  refine jn_newa (N' := 8) hx hb hts hK hP hD hS hA (by decide) (by decide) (by decide) hc9 hs9 (show decode prog_14_method_1_code 70 = .ok (.newarray .int, 2) by decide +kernel) (fun q70 H hP hD hS => ?_)
  have hP : va_P D jm_cl0 [(h0, .inr (11, [.ref q7, .ref q15, .ref q23, .ref q31, .int 0, .int 0, .int 0, .int 0, .ref q38, .ref q46, .int 0, .ref q54, .ref q62, .null, .null, .null, .null, .int 0])), (q7, .inl (cs 0, 78, .inl (fun _ => 0))), (q15, .inl (cs 0, 78, .inl (fun _ => 0))), (q23, .inl (cs 0, 78, .inl (fun _ => 0))), (q31, .inl (cs 0, 78, .inl (fun _ => 0))), (q38, .inl (cs 0, 3, .inl (fun _ => 0))), (q46, .inl (cs 0, 16, .inl (fun _ => 0))), (q54, .inl (cs 0, 8, .inl (fun _ => 0))), (q62, .inl (cs 0, 8, .inl (fun _ => 0))), (q70, .inl (cs 0, 8, .inl (fun _ => 0)))] H := hP
  have hD : va_D A [(h0, .inr (11, [.ref q7, .ref q15, .ref q23, .ref q31, .int 0, .int 0, .int 0, .int 0, .ref q38, .ref q46, .int 0, .ref q54, .ref q62, .null, .null, .null, .null, .int 0])), (q7, .inl (cs 0, 78, .inl (fun _ => 0))), (q15, .inl (cs 0, 78, .inl (fun _ => 0))), (q23, .inl (cs 0, 78, .inl (fun _ => 0))), (q31, .inl (cs 0, 78, .inl (fun _ => 0))), (q38, .inl (cs 0, 3, .inl (fun _ => 0))), (q46, .inl (cs 0, 16, .inl (fun _ => 0))), (q54, .inl (cs 0, 8, .inl (fun _ => 0))), (q62, .inl (cs 0, 8, .inl (fun _ => 0))), (q70, .inl (cs 0, 8, .inl (fun _ => 0)))] := hD
  refine W.widen (k := 9) (n := 355) (by omega) (by omega) ?_
  refine va_putF (D := D) (cl := jm_cl0) (ci := 11) (v := .ref q70) (ty := .array .int) (C := RX12) (T := TX12) (N := 18) (index := 34) hx hb hts (jm_uws (ci := 11) rfl) tyX12 tyX12_ok nmX12 hown hK hP hD hS 0 rfl rfl 13 (by decide) (hts _ (jm_at_T (i := 1003) (by decide +kernel))) (fun _ h9 => h9) rfl hin rfl (by decide +kernel) rfl rfl (Nat.le_of_ble_eq_true rfl) (show decode prog_14_method_1_code 72 = .ok (.putfield 34, 3) by decide +kernel) (fun H locs hP hD hS => ?_)
  have hP : va_P D jm_cl0 [(h0, .inr (11, [.ref q7, .ref q15, .ref q23, .ref q31, .int 0, .int 0, .int 0, .int 0, .ref q38, .ref q46, .int 0, .ref q54, .ref q62, .ref q70, .null, .null, .null, .int 0])), (q7, .inl (cs 0, 78, .inl (fun _ => 0))), (q15, .inl (cs 0, 78, .inl (fun _ => 0))), (q23, .inl (cs 0, 78, .inl (fun _ => 0))), (q31, .inl (cs 0, 78, .inl (fun _ => 0))), (q38, .inl (cs 0, 3, .inl (fun _ => 0))), (q46, .inl (cs 0, 16, .inl (fun _ => 0))), (q54, .inl (cs 0, 8, .inl (fun _ => 0))), (q62, .inl (cs 0, 8, .inl (fun _ => 0))), (q70, .inl (cs 0, 8, .inl (fun _ => 0)))] H := hP
  have hD : va_D A [(h0, .inr (11, [.ref q7, .ref q15, .ref q23, .ref q31, .int 0, .int 0, .int 0, .int 0, .ref q38, .ref q46, .int 0, .ref q54, .ref q62, .ref q70, .null, .null, .null, .int 0])), (q7, .inl (cs 0, 78, .inl (fun _ => 0))), (q15, .inl (cs 0, 78, .inl (fun _ => 0))), (q23, .inl (cs 0, 78, .inl (fun _ => 0))), (q31, .inl (cs 0, 78, .inl (fun _ => 0))), (q38, .inl (cs 0, 3, .inl (fun _ => 0))), (q46, .inl (cs 0, 16, .inl (fun _ => 0))), (q54, .inl (cs 0, 8, .inl (fun _ => 0))), (q62, .inl (cs 0, 8, .inl (fun _ => 0))), (q70, .inl (cs 0, 8, .inl (fun _ => 0)))] := hD
  refine lv_aload_n hx hb (show decode prog_14_method_1_code 75 = .ok (.aload_n 0, 1) by decide +kernel) rfl (lv_at hl 0 rfl) ?_
  refine lv_bipush (v := 8) hx hb (show decode prog_14_method_1_code 76 = .ok (.bipush 8, 2) by decide +kernel) (by decide) ?_
  have hc10 : 10 ≤ 12 := by decide
  have hs10 : 363 ≤ 1171 := by decide
  refine jn_newa (N' := 8) hx hb hts hK hP hD hS hA (by decide) (by decide) (by decide) hc10 hs10 (show decode prog_14_method_1_code 78 = .ok (.newarray .int, 2) by decide +kernel) (fun q78 H hP hD hS => ?_)
  have hP : va_P D jm_cl0 [(h0, .inr (11, [.ref q7, .ref q15, .ref q23, .ref q31, .int 0, .int 0, .int 0, .int 0, .ref q38, .ref q46, .int 0, .ref q54, .ref q62, .ref q70, .null, .null, .null, .int 0])), (q7, .inl (cs 0, 78, .inl (fun _ => 0))), (q15, .inl (cs 0, 78, .inl (fun _ => 0))), (q23, .inl (cs 0, 78, .inl (fun _ => 0))), (q31, .inl (cs 0, 78, .inl (fun _ => 0))), (q38, .inl (cs 0, 3, .inl (fun _ => 0))), (q46, .inl (cs 0, 16, .inl (fun _ => 0))), (q54, .inl (cs 0, 8, .inl (fun _ => 0))), (q62, .inl (cs 0, 8, .inl (fun _ => 0))), (q70, .inl (cs 0, 8, .inl (fun _ => 0))), (q78, .inl (cs 0, 8, .inl (fun _ => 0)))] H := hP
  have hD : va_D A [(h0, .inr (11, [.ref q7, .ref q15, .ref q23, .ref q31, .int 0, .int 0, .int 0, .int 0, .ref q38, .ref q46, .int 0, .ref q54, .ref q62, .ref q70, .null, .null, .null, .int 0])), (q7, .inl (cs 0, 78, .inl (fun _ => 0))), (q15, .inl (cs 0, 78, .inl (fun _ => 0))), (q23, .inl (cs 0, 78, .inl (fun _ => 0))), (q31, .inl (cs 0, 78, .inl (fun _ => 0))), (q38, .inl (cs 0, 3, .inl (fun _ => 0))), (q46, .inl (cs 0, 16, .inl (fun _ => 0))), (q54, .inl (cs 0, 8, .inl (fun _ => 0))), (q62, .inl (cs 0, 8, .inl (fun _ => 0))), (q70, .inl (cs 0, 8, .inl (fun _ => 0))), (q78, .inl (cs 0, 8, .inl (fun _ => 0)))] := hD
  refine W.widen (k := 10) (n := 363) (by omega) (by omega) ?_
  refine va_putF (D := D) (cl := jm_cl0) (ci := 11) (v := .ref q78) (ty := .array .int) (C := RX12) (T := TX12) (N := 18) (index := 37) hx hb hts (jm_uws (ci := 11) rfl) tyX12 tyX12_ok nmX12 hown hK hP hD hS 0 rfl rfl 14 (by decide) (hts _ (jm_at_T (i := 1004) (by decide +kernel))) (fun _ h9 => h9) rfl hin rfl (by decide +kernel) rfl rfl (Nat.le_of_ble_eq_true rfl) (show decode prog_14_method_1_code 80 = .ok (.putfield 37, 3) by decide +kernel) (fun H locs hP hD hS => ?_)
  have hP : va_P D jm_cl0 [(h0, .inr (11, [.ref q7, .ref q15, .ref q23, .ref q31, .int 0, .int 0, .int 0, .int 0, .ref q38, .ref q46, .int 0, .ref q54, .ref q62, .ref q70, .ref q78, .null, .null, .int 0])), (q7, .inl (cs 0, 78, .inl (fun _ => 0))), (q15, .inl (cs 0, 78, .inl (fun _ => 0))), (q23, .inl (cs 0, 78, .inl (fun _ => 0))), (q31, .inl (cs 0, 78, .inl (fun _ => 0))), (q38, .inl (cs 0, 3, .inl (fun _ => 0))), (q46, .inl (cs 0, 16, .inl (fun _ => 0))), (q54, .inl (cs 0, 8, .inl (fun _ => 0))), (q62, .inl (cs 0, 8, .inl (fun _ => 0))), (q70, .inl (cs 0, 8, .inl (fun _ => 0))), (q78, .inl (cs 0, 8, .inl (fun _ => 0)))] H := hP
  have hD : va_D A [(h0, .inr (11, [.ref q7, .ref q15, .ref q23, .ref q31, .int 0, .int 0, .int 0, .int 0, .ref q38, .ref q46, .int 0, .ref q54, .ref q62, .ref q70, .ref q78, .null, .null, .int 0])), (q7, .inl (cs 0, 78, .inl (fun _ => 0))), (q15, .inl (cs 0, 78, .inl (fun _ => 0))), (q23, .inl (cs 0, 78, .inl (fun _ => 0))), (q31, .inl (cs 0, 78, .inl (fun _ => 0))), (q38, .inl (cs 0, 3, .inl (fun _ => 0))), (q46, .inl (cs 0, 16, .inl (fun _ => 0))), (q54, .inl (cs 0, 8, .inl (fun _ => 0))), (q62, .inl (cs 0, 8, .inl (fun _ => 0))), (q70, .inl (cs 0, 8, .inl (fun _ => 0))), (q78, .inl (cs 0, 8, .inl (fun _ => 0)))] := hD
  refine lv_aload_n hx hb (show decode prog_14_method_1_code 83 = .ok (.aload_n 0, 1) by decide +kernel) rfl (lv_at hl 0 rfl) ?_
  refine lv_bipush (v := 8) hx hb (show decode prog_14_method_1_code 84 = .ok (.bipush 8, 2) by decide +kernel) (by decide) ?_
  have hc11 : 11 ≤ 12 := by decide
  have hs11 : 371 ≤ 1171 := by decide
  refine jn_newa (N' := 8) hx hb hts hK hP hD hS hA (by decide) (by decide) (by decide) hc11 hs11 (show decode prog_14_method_1_code 86 = .ok (.newarray .int, 2) by decide +kernel) (fun q86 H hP hD hS => ?_)
  have hP : va_P D jm_cl0 [(h0, .inr (11, [.ref q7, .ref q15, .ref q23, .ref q31, .int 0, .int 0, .int 0, .int 0, .ref q38, .ref q46, .int 0, .ref q54, .ref q62, .ref q70, .ref q78, .null, .null, .int 0])), (q7, .inl (cs 0, 78, .inl (fun _ => 0))), (q15, .inl (cs 0, 78, .inl (fun _ => 0))), (q23, .inl (cs 0, 78, .inl (fun _ => 0))), (q31, .inl (cs 0, 78, .inl (fun _ => 0))), (q38, .inl (cs 0, 3, .inl (fun _ => 0))), (q46, .inl (cs 0, 16, .inl (fun _ => 0))), (q54, .inl (cs 0, 8, .inl (fun _ => 0))), (q62, .inl (cs 0, 8, .inl (fun _ => 0))), (q70, .inl (cs 0, 8, .inl (fun _ => 0))), (q78, .inl (cs 0, 8, .inl (fun _ => 0))), (q86, .inl (cs 0, 8, .inl (fun _ => 0)))] H := hP
  have hD : va_D A [(h0, .inr (11, [.ref q7, .ref q15, .ref q23, .ref q31, .int 0, .int 0, .int 0, .int 0, .ref q38, .ref q46, .int 0, .ref q54, .ref q62, .ref q70, .ref q78, .null, .null, .int 0])), (q7, .inl (cs 0, 78, .inl (fun _ => 0))), (q15, .inl (cs 0, 78, .inl (fun _ => 0))), (q23, .inl (cs 0, 78, .inl (fun _ => 0))), (q31, .inl (cs 0, 78, .inl (fun _ => 0))), (q38, .inl (cs 0, 3, .inl (fun _ => 0))), (q46, .inl (cs 0, 16, .inl (fun _ => 0))), (q54, .inl (cs 0, 8, .inl (fun _ => 0))), (q62, .inl (cs 0, 8, .inl (fun _ => 0))), (q70, .inl (cs 0, 8, .inl (fun _ => 0))), (q78, .inl (cs 0, 8, .inl (fun _ => 0))), (q86, .inl (cs 0, 8, .inl (fun _ => 0)))] := hD
  refine W.widen (k := 11) (n := 371) (by omega) (by omega) ?_
  refine va_putF (D := D) (cl := jm_cl0) (ci := 11) (v := .ref q86) (ty := .array .int) (C := RX12) (T := TX12) (N := 18) (index := 40) hx hb hts (jm_uws (ci := 11) rfl) tyX12 tyX12_ok nmX12 hown hK hP hD hS 0 rfl rfl 15 (by decide) (hts _ (jm_at_T (i := 1005) (by decide +kernel))) (fun _ h9 => h9) rfl hin rfl (by decide +kernel) rfl rfl (Nat.le_of_ble_eq_true rfl) (show decode prog_14_method_1_code 88 = .ok (.putfield 40, 3) by decide +kernel) (fun H locs hP hD hS => ?_)
  have hP : va_P D jm_cl0 [(h0, .inr (11, [.ref q7, .ref q15, .ref q23, .ref q31, .int 0, .int 0, .int 0, .int 0, .ref q38, .ref q46, .int 0, .ref q54, .ref q62, .ref q70, .ref q78, .ref q86, .null, .int 0])), (q7, .inl (cs 0, 78, .inl (fun _ => 0))), (q15, .inl (cs 0, 78, .inl (fun _ => 0))), (q23, .inl (cs 0, 78, .inl (fun _ => 0))), (q31, .inl (cs 0, 78, .inl (fun _ => 0))), (q38, .inl (cs 0, 3, .inl (fun _ => 0))), (q46, .inl (cs 0, 16, .inl (fun _ => 0))), (q54, .inl (cs 0, 8, .inl (fun _ => 0))), (q62, .inl (cs 0, 8, .inl (fun _ => 0))), (q70, .inl (cs 0, 8, .inl (fun _ => 0))), (q78, .inl (cs 0, 8, .inl (fun _ => 0))), (q86, .inl (cs 0, 8, .inl (fun _ => 0)))] H := hP
  have hD : va_D A [(h0, .inr (11, [.ref q7, .ref q15, .ref q23, .ref q31, .int 0, .int 0, .int 0, .int 0, .ref q38, .ref q46, .int 0, .ref q54, .ref q62, .ref q70, .ref q78, .ref q86, .null, .int 0])), (q7, .inl (cs 0, 78, .inl (fun _ => 0))), (q15, .inl (cs 0, 78, .inl (fun _ => 0))), (q23, .inl (cs 0, 78, .inl (fun _ => 0))), (q31, .inl (cs 0, 78, .inl (fun _ => 0))), (q38, .inl (cs 0, 3, .inl (fun _ => 0))), (q46, .inl (cs 0, 16, .inl (fun _ => 0))), (q54, .inl (cs 0, 8, .inl (fun _ => 0))), (q62, .inl (cs 0, 8, .inl (fun _ => 0))), (q70, .inl (cs 0, 8, .inl (fun _ => 0))), (q78, .inl (cs 0, 8, .inl (fun _ => 0))), (q86, .inl (cs 0, 8, .inl (fun _ => 0)))] := hD
  refine lv_aload_n hx hb (show decode prog_14_method_1_code 91 = .ok (.aload_n 0, 1) by decide +kernel) rfl (lv_at hl 0 rfl) ?_
  refine lv_sipush (v := 800) hx hb (show decode prog_14_method_1_code 92 = .ok (.sipush 800, 3) by decide +kernel) (by decide) ?_
  have hc12 : 12 ≤ 12 := by decide
  have hs12 : 1171 ≤ 1171 := by decide
  refine jn_newa (N' := 800) hx hb hts hK hP hD hS hA (by decide) (by decide) (by decide) hc12 hs12 (show decode prog_14_method_1_code 95 = .ok (.newarray .int, 2) by decide +kernel) (fun q95 H hP hD hS => ?_)
  have hP : va_P D jm_cl0 [(h0, .inr (11, [.ref q7, .ref q15, .ref q23, .ref q31, .int 0, .int 0, .int 0, .int 0, .ref q38, .ref q46, .int 0, .ref q54, .ref q62, .ref q70, .ref q78, .ref q86, .null, .int 0])), (q7, .inl (cs 0, 78, .inl (fun _ => 0))), (q15, .inl (cs 0, 78, .inl (fun _ => 0))), (q23, .inl (cs 0, 78, .inl (fun _ => 0))), (q31, .inl (cs 0, 78, .inl (fun _ => 0))), (q38, .inl (cs 0, 3, .inl (fun _ => 0))), (q46, .inl (cs 0, 16, .inl (fun _ => 0))), (q54, .inl (cs 0, 8, .inl (fun _ => 0))), (q62, .inl (cs 0, 8, .inl (fun _ => 0))), (q70, .inl (cs 0, 8, .inl (fun _ => 0))), (q78, .inl (cs 0, 8, .inl (fun _ => 0))), (q86, .inl (cs 0, 8, .inl (fun _ => 0))), (q95, .inl (cs 0, 800, .inl (fun _ => 0)))] H := hP
  have hD : va_D A [(h0, .inr (11, [.ref q7, .ref q15, .ref q23, .ref q31, .int 0, .int 0, .int 0, .int 0, .ref q38, .ref q46, .int 0, .ref q54, .ref q62, .ref q70, .ref q78, .ref q86, .null, .int 0])), (q7, .inl (cs 0, 78, .inl (fun _ => 0))), (q15, .inl (cs 0, 78, .inl (fun _ => 0))), (q23, .inl (cs 0, 78, .inl (fun _ => 0))), (q31, .inl (cs 0, 78, .inl (fun _ => 0))), (q38, .inl (cs 0, 3, .inl (fun _ => 0))), (q46, .inl (cs 0, 16, .inl (fun _ => 0))), (q54, .inl (cs 0, 8, .inl (fun _ => 0))), (q62, .inl (cs 0, 8, .inl (fun _ => 0))), (q70, .inl (cs 0, 8, .inl (fun _ => 0))), (q78, .inl (cs 0, 8, .inl (fun _ => 0))), (q86, .inl (cs 0, 8, .inl (fun _ => 0))), (q95, .inl (cs 0, 800, .inl (fun _ => 0)))] := hD
  refine W.widen (k := 12) (n := 1171) (by omega) (by omega) ?_
  refine va_putF (D := D) (cl := jm_cl0) (ci := 11) (v := .ref q95) (ty := .array .int) (C := RX12) (T := TX12) (N := 18) (index := 43) hx hb hts (jm_uws (ci := 11) rfl) tyX12 tyX12_ok nmX12 hown hK hP hD hS 0 rfl rfl 16 (by decide) (hts _ (jm_at_T (i := 1006) (by decide +kernel))) (fun _ h9 => h9) rfl hin rfl (by decide +kernel) rfl rfl (Nat.le_of_ble_eq_true rfl) (show decode prog_14_method_1_code 97 = .ok (.putfield 43, 3) by decide +kernel) (fun H locs hP hD hS => ?_)
  have hP : va_P D jm_cl0 [(h0, .inr (11, [.ref q7, .ref q15, .ref q23, .ref q31, .int 0, .int 0, .int 0, .int 0, .ref q38, .ref q46, .int 0, .ref q54, .ref q62, .ref q70, .ref q78, .ref q86, .ref q95, .int 0])), (q7, .inl (cs 0, 78, .inl (fun _ => 0))), (q15, .inl (cs 0, 78, .inl (fun _ => 0))), (q23, .inl (cs 0, 78, .inl (fun _ => 0))), (q31, .inl (cs 0, 78, .inl (fun _ => 0))), (q38, .inl (cs 0, 3, .inl (fun _ => 0))), (q46, .inl (cs 0, 16, .inl (fun _ => 0))), (q54, .inl (cs 0, 8, .inl (fun _ => 0))), (q62, .inl (cs 0, 8, .inl (fun _ => 0))), (q70, .inl (cs 0, 8, .inl (fun _ => 0))), (q78, .inl (cs 0, 8, .inl (fun _ => 0))), (q86, .inl (cs 0, 8, .inl (fun _ => 0))), (q95, .inl (cs 0, 800, .inl (fun _ => 0)))] H := hP
  have hD : va_D A [(h0, .inr (11, [.ref q7, .ref q15, .ref q23, .ref q31, .int 0, .int 0, .int 0, .int 0, .ref q38, .ref q46, .int 0, .ref q54, .ref q62, .ref q70, .ref q78, .ref q86, .ref q95, .int 0])), (q7, .inl (cs 0, 78, .inl (fun _ => 0))), (q15, .inl (cs 0, 78, .inl (fun _ => 0))), (q23, .inl (cs 0, 78, .inl (fun _ => 0))), (q31, .inl (cs 0, 78, .inl (fun _ => 0))), (q38, .inl (cs 0, 3, .inl (fun _ => 0))), (q46, .inl (cs 0, 16, .inl (fun _ => 0))), (q54, .inl (cs 0, 8, .inl (fun _ => 0))), (q62, .inl (cs 0, 8, .inl (fun _ => 0))), (q70, .inl (cs 0, 8, .inl (fun _ => 0))), (q78, .inl (cs 0, 8, .inl (fun _ => 0))), (q86, .inl (cs 0, 8, .inl (fun _ => 0))), (q95, .inl (cs 0, 800, .inl (fun _ => 0)))] := hD
  refine lv_aload_n hx hb (show decode prog_14_method_1_code 100 = .ok (.aload_n 0, 1) by decide +kernel) rfl (lv_at hl 0 rfl) ?_
  refine va_get (D := D) (cl := jm_cl0) (ci := 11) (v := .ref q7) (C := RX12) (T := TX12) (N := 18) (index := 9) hx hb hts (jm_uws (ci := 11) rfl) hown hK hP 0 rfl rfl 0 (by decide) (hts _ (jm_at_T (i := 990) (by decide +kernel))) (fun _ h9 => h9) rfl (show decode prog_14_method_1_code 101 = .ok (.getfield 9, 3) by decide +kernel) ?_
  refine lv_iconst (v := 2) hx hb (show decode prog_14_method_1_code 104 = .ok (.iconst 2, 1) by decide +kernel) (by decide) ?_
  refine lv_bipush (v := 8) hx hb (show decode prog_14_method_1_code 105 = .ok (.bipush 8, 2) by decide +kernel) (by decide) ?_
  refine va_iast hx hb hK hP hD hS 1 0 rfl rfl (i := 2) (x := 8) (by unfold vp_in; decide) (show decode prog_14_method_1_code 107 = .ok (.iastore, 1) by decide +kernel) (fun H locs hP hD hS => ?_)
  have hP : va_P D jm_cl0 [(h0, .inr (11, [.ref q7, .ref q15, .ref q23, .ref q31, .int 0, .int 0, .int 0, .int 0, .ref q38, .ref q46, .int 0, .ref q54, .ref q62, .ref q70, .ref q78, .ref q86, .ref q95, .int 0])), (q7, .inl (cs 0, 78, .inl (upd (fun _ => 0) 2 8))), (q15, .inl (cs 0, 78, .inl (fun _ => 0))), (q23, .inl (cs 0, 78, .inl (fun _ => 0))), (q31, .inl (cs 0, 78, .inl (fun _ => 0))), (q38, .inl (cs 0, 3, .inl (fun _ => 0))), (q46, .inl (cs 0, 16, .inl (fun _ => 0))), (q54, .inl (cs 0, 8, .inl (fun _ => 0))), (q62, .inl (cs 0, 8, .inl (fun _ => 0))), (q70, .inl (cs 0, 8, .inl (fun _ => 0))), (q78, .inl (cs 0, 8, .inl (fun _ => 0))), (q86, .inl (cs 0, 8, .inl (fun _ => 0))), (q95, .inl (cs 0, 800, .inl (fun _ => 0)))] H := hP
  have hD : va_D A [(h0, .inr (11, [.ref q7, .ref q15, .ref q23, .ref q31, .int 0, .int 0, .int 0, .int 0, .ref q38, .ref q46, .int 0, .ref q54, .ref q62, .ref q70, .ref q78, .ref q86, .ref q95, .int 0])), (q7, .inl (cs 0, 78, .inl (upd (fun _ => 0) 2 8))), (q15, .inl (cs 0, 78, .inl (fun _ => 0))), (q23, .inl (cs 0, 78, .inl (fun _ => 0))), (q31, .inl (cs 0, 78, .inl (fun _ => 0))), (q38, .inl (cs 0, 3, .inl (fun _ => 0))), (q46, .inl (cs 0, 16, .inl (fun _ => 0))), (q54, .inl (cs 0, 8, .inl (fun _ => 0))), (q62, .inl (cs 0, 8, .inl (fun _ => 0))), (q70, .inl (cs 0, 8, .inl (fun _ => 0))), (q78, .inl (cs 0, 8, .inl (fun _ => 0))), (q86, .inl (cs 0, 8, .inl (fun _ => 0))), (q95, .inl (cs 0, 800, .inl (fun _ => 0)))] := hD
  refine W.widen (k := 12) (n := 1171) (by omega) (by omega) ?_
  subst hAe
  exact W.vret hx hb hr (fun t ht hW => ⟨⟨(fun i => [q7, q15, q23, q31, q38, q46, q54, q62, q70, q78, q86, q95].getD i 0), rfl, trivial, by rw [ht]; exact hP, hD⟩, hS.F ht⟩) hS.2.2 (show decode prog_14_method_1_code 108 = .ok (.return_, 1) by decide +kernel)

