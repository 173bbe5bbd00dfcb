/-! EXCEPTIONS: fail, toss, element. -/
def jx_ISE : String := "java/lang/IllegalStateException"
def jx_IAE : String := "java/lang/IllegalArgumentException"
/-- words that calls keep by a law of their own -/
def jx_isB : Cond → Bool
  | .castable _ _ => true
  | .declares _ => true
  | _ => false
def jx_B : List Cond := lw_tbl.filter jx_isB
theorem jx_onB {w : Cond} (h : w ∈ jx_B) : w.onTables = true := by
  have h2 := (List.mem_filter.mp h).2
  unfold jx_isB at h2
  split at h2
  · rfl
  · rfl
  · cases h2
def jx_L0 : List Cond := vx_atS "PapersAreOnCats$Cat" 26 "java/lang/IllegalStateException" ["java/lang/RuntimeException", "java/lang/Exception"]
def jx_L1 : List Cond := vx_atS "PapersAreOnCats" 345 "java/lang/IllegalArgumentException" ["java/lang/RuntimeException", "java/lang/Exception"]
def jx_L2 : List Cond := vx_atS "PapersAreOnCats" 352 "java/lang/IllegalStateException" ["java/lang/RuntimeException", "java/lang/Exception"]
theorem jx_sub {L : List Cond} (h : L.all (fun w => !goodWord w || decide (w ∈ lw_tbl)) = true) : ∀ w ∈ L.filter goodWord, w ∈ jm_T := by
  intro w hw
  obtain ⟨h1, h2⟩ := List.mem_filter.mp hw
  have h3 := List.all_eq_true.mp h w h1
  rw [h2] at h3
  exact List.mem_filter.mpr ⟨of_decide_eq_true (by simpa using h3), h2⟩
theorem jx_subB {L : List Cond} (h : L.all (fun w => goodWord w || (decide (w ∈ lw_tbl) && jx_isB w)) = true) : ∀ w ∈ L.filter (fun w => !goodWord w), w ∈ jx_B := by
  intro w hw
  obtain ⟨h1, h2⟩ := List.mem_filter.mp hw
  have h3 := List.all_eq_true.mp h w h1
  have h4 : goodWord w = false := by simpa using h2
  rw [h4, Bool.false_or, Bool.and_eq_true] at h3
  exact List.mem_filter.mpr ⟨of_decide_eq_true h3.1, h3.2⟩
set_option maxRecDepth 100000 in
theorem jx_L0a : jx_L0.all (fun w => !goodWord w || decide (w ∈ lw_tbl)) = true := by decide +kernel
set_option maxRecDepth 100000 in
theorem jx_L0b : jx_L0.all (fun w => goodWord w || (decide (w ∈ lw_tbl) && jx_isB w)) = true := by decide +kernel
set_option maxRecDepth 100000 in
theorem jx_L0c : (Cond.classLink "PapersAreOnCats$Cat" 22 "java/lang/IllegalStateException" :: Cond.initialized "java/lang/IllegalStateException" :: jx_L0).all vx_ot = true := by decide +kernel
set_option maxRecDepth 100000 in
theorem jx_L1a : jx_L1.all (fun w => !goodWord w || decide (w ∈ lw_tbl)) = true := by decide +kernel
set_option maxRecDepth 100000 in
theorem jx_L1b : jx_L1.all (fun w => goodWord w || (decide (w ∈ lw_tbl) && jx_isB w)) = true := by decide +kernel
set_option maxRecDepth 100000 in
theorem jx_L1c : (Cond.classLink "PapersAreOnCats" 341 "java/lang/IllegalArgumentException" :: Cond.initialized "java/lang/IllegalArgumentException" :: jx_L1).all vx_ot = true := by decide +kernel
set_option maxRecDepth 100000 in
theorem jx_L2a : jx_L2.all (fun w => !goodWord w || decide (w ∈ lw_tbl)) = true := by decide +kernel
set_option maxRecDepth 100000 in
theorem jx_L2b : jx_L2.all (fun w => goodWord w || (decide (w ∈ lw_tbl) && jx_isB w)) = true := by decide +kernel
set_option maxRecDepth 100000 in
theorem jx_L2c : (Cond.classLink "PapersAreOnCats" 348 "java/lang/IllegalStateException" :: Cond.initialized "java/lang/IllegalStateException" :: jx_L2).all vx_ot = true := by decide +kernel
/-- the statics of Throwable, where they lie -/
def jx_Z (A : Nat → Prop) (U : State) (H : Heap) : Prop := vx_Zq Bundle.tN "UNASSIGNED_STACK" Bundle.steD A U H ∧ vx_Zq Bundle.tN "SUPPRESSED_SENTINEL" Bundle.listD A U H
/-- what the tables say beside the words -/
def jx_S (U : State) : Prop := (∃ a, vk_R "PapersAreOnCats$Cat" 24 "failure" a U) ∧ (∃ a, vk_R "PapersAreOnCats" 343 "no such shelf" a U) ∧ (∃ a, vk_R "PapersAreOnCats" 350 "no row or no such place" a U) ∧ (∀ w ∈ jx_B, va_Nw w U) ∧ va_Nc "java/lang/IllegalStateException" "java/lang/IllegalArgumentException" U
/-- the world of a method that may throw -/
def jx_Wd (D : va_G) (A : Nat → Prop) (ad : jm_K → Nat) (cs : Nat → ClassId) (h : jm_M) (U : State) : Prop := jm_Wd D A ad cs h U ∧ (∀ q : Nat, U.heap.size ≤ q → A q) ∧ jx_Z A U U.heap ∧ jx_S U
theorem jx_Bw {s U : State} (hW : s.WarmedH U.vm) (h : ∀ w ∈ jx_B, va_Nw w s) : ∀ w ∈ jx_B, va_Nw w U := by
  intro w hw
  have h1 := h w hw
  have h2 := (List.mem_filter.mp hw).2
  unfold jx_isB at h2
  split at h2
  · exact va_Nw.warmC hW h1
  · exact va_Nw.warmD hW h1
  · cases h2
theorem jx_Bs {u U : State} (hv : u.vm = U.vm) (h : ∀ w ∈ jx_B, va_Nw w u) : ∀ w ∈ jx_B, va_Nw w U := fun w hw => va_Nw.same (jx_onB hw) hv (h w hw)
theorem jx_Sw {s U : State} (hW : s.WarmedH U.vm) (h : jx_S s) : jx_S U := by
  obtain ⟨⟨a, h1⟩, ⟨b, h2⟩, ⟨c, h3⟩, h4, h5⟩ := h
  exact ⟨⟨a, h1.warm hW⟩, ⟨b, h2.warm hW⟩, ⟨c, h3.warm hW⟩, jx_Bw hW h4, h5.moved hW.alike⟩
theorem jx_blind {av : List Value} {D : va_G} {A : Nat → Prop} {ad : jm_K → Nat} {cs : Nat → ClassId} {h : jm_M} : FrameBlind (va_Pc av (jx_Wd D A ad cs h)) := fun a U g mk q => by
  obtain ⟨q1, q2, q3, ⟨q4, q5⟩, ⟨b1, h1⟩, ⟨b2, h2⟩, ⟨b3, h3⟩, h4, h5⟩ := q
  exact ⟨q1, (jm_blind a U g mk ⟨q1, q2⟩).2, q3, ⟨vx_Zq.moved (u := U) (U := U.calling g mk a) (Vm.Alike.refl U.vm) q4, vx_Zq.moved (u := U) (U := U.calling g mk a) (Vm.Alike.refl U.vm) q5⟩, ⟨b1, vk_R.same (u := U) rfl h1⟩, ⟨b2, vk_R.same (u := U) rfl h2⟩, ⟨b3, vk_R.same (u := U) rfl h3⟩, jx_Bs (u := U) rfl h4, va_Nc.moved (u := U) (U := U.calling g mk a) (Vm.Alike.refl U.vm) h5⟩
section JX
variable {p : Program} {l : Launch} {e : Env} {R : Room} {s : State} {m : MethodId} {args : Array Value} {below : List Frame} {meth : Method} {c : Code} {H : Heap} {locs : List Loc} {cells slots : Nat} {Q : State → Prop}
variable {D : va_G} {A A0 : Nat → Prop} {cs : Nat → ClassId} {ad : jm_K → Nat} {ls : Array Slot} {rest : List Value} {h : jm_M}
theorem jx_pre {av : List Value} {own : String} {cc : ByteArray} {nL : Nat} (hF : gz_F D cs own cc nL p s m args c) (hS0 : jx_S s) (hZ : jx_Z A s s.heap) (hk : ∀ q : Nat, q < s.heap.size → ¬ A q → H[q]? = s.heap[q]?) (hA : ∀ q : Nat, H.size ≤ q → A q) (hP : va_P D jm_cl0 (jm_ws ad cs h) H) (hD : va_D A (jm_ws ad cs h)) : ∀ U : State, U.heap = H → s.WarmedH U.vm → va_Pc av (jx_Wd D A ad cs h) av.toArray U := fun U hU hW =>
  ⟨rfl, (gz_pre (av := av) hF hP hD U hU hW).2, by rw [hU]; exact hA, ⟨by rw [hU]; exact vx_Zq.moved hW.alike (hZ.1.kept hk), by rw [hU]; exact vx_Zq.moved hW.alike (hZ.2.kept hk)⟩, jx_Sw hW hS0⟩
end JX
/-- what stays in the heap -/
def jx_P (D : va_G) (ad : jm_K → Nat) (cs : Nat → ClassId) (u : jm_M) (t : State) : Prop := va_P D jm_cl0 (jm_ws ad cs u) t.heap
abbrev jx_rF : Room := { frames := 6, cells := 1, slots := 6, locals := 100 }
abbrev jx_Q0 (D : va_G) (A : Nat → Prop) (ad : jm_K → Nat) (cs : Nat → ClassId) (h : jm_M) (P : Prop) : Array Value → State → Outcome → State → Prop := va_Qv (fun u : jm_M => u = h ∧ P) (jx_P D ad cs) A
abbrev jx_XC (D : va_G) (A : Nat → Prop) (ad : jm_K → Nat) (cs : Nat → ClassId) (h : jm_M) (P : String → Prop) : String → State → State → Prop := vx_X (fun u : jm_M => u = h) (fun E u t => P E ∧ jx_P D ad cs u t) A
set_option maxHeartbeats 4000000 in
theorem jx_fail {l : Launch} (hl : l.stackTraces = false) (D : va_G) (A : Nat → Prop) (ad : jm_K → Nat) (cs : Nat → ClassId) (h : jm_M) (q0 : Nat) (x : Int32) :
    vx_Met l ⟨"PapersAreOnCats$Cat", "fail", "(I)V"⟩ (.code ⟨"PapersAreOnCats$Cat", "fail", "(I)V"⟩ prog_2_method_7_code 2 none :: jm_T) jx_rF (va_Pc [.ref q0, .int x] (jx_Wd D A ad cs h)) (jx_Q0 D A ad cs h (x = 0)) (jx_XC D A ad cs h (fun E => E = "java/lang/IllegalStateException" ∧ ¬ x = 0)) 1 6 A := by
  refine vx_ofW (cc := prog_2_method_7_code) (maxL := 2) (ret := none) (by decide) rfl ?_
  intro p e s m args below meth c s₁ B hml ht hv
  obtain ⟨rfl, ⟨hP, hK, hD, hN⟩, hA, hZ, ⟨⟨sa, hstr⟩, -, -, hB, -⟩⟩ := hv
  have hx := B.exec
  have hb := B.bytes
  have hown : s.vm.findClass "PapersAreOnCats$Cat" = some m.cls := findClass_of_methodNamed B.named
  have hts : ∀ w ∈ jm_T, w.before #[Value.ref q0, .int x] s = true := fun w hw => atoms_spec (ws := Cond.code ⟨"PapersAreOnCats$Cat", "fail", "(I)V"⟩ prog_2_method_7_code 2 none :: jm_T) B.pre w (List.mem_cons_of_mem _ hw)
  have hlocks := B.notSynchronized
  rw [lg_entry_eq]
  have hl0 := lv_entry ([Value.ref q0, .int x]) (n := 2) (Nat.le_of_ble_eq_true rfl)
  generalize (lg_sl ([Value.ref q0, .int x]) ++ List.replicate (2 - (lg_sl ([Value.ref q0, .int x])).length) Slot.unset).toArray = ls at hl0 ⊢
  have hl0 : lv_has ls 2 [(0, .ref q0), (1, .int x)] := hl0
  have hS : va_S A s.heap s.heap [] := va_S.rf
  refine lv_iload_n (cc := prog_2_method_7_code) (pc := 0) (k := 1) hx hb (by decide +kernel) rfl (lv_at hl0 1 rfl) ?_
  refine lv_if_eq (cc := prog_2_method_7_code) (pc := 1) (off := 13) (tgt := 14) hx hb (by decide +kernel) (by decide) (fun cz => ?_) (fun cz => ?_)
  · refine W.widen (k := 1) (n := 6) (by decide) (by decide) ?_
    exact vx_ret (W.vret hx hb B.returns (fun t ht hW => ⟨⟨h, rfl, ⟨rfl, cz⟩, by unfold jx_P; rw [ht]; exact hP⟩, hS.F ht⟩) hS.2.2 (by decide +kernel) hlocks)
  · refine vx_throwS (cc := prog_2_method_7_code) (pc := 4) (own := "PapersAreOnCats$Cat") (cls := "java/lang/IllegalStateException") (text := "failure") (names := ["java/lang/RuntimeException", "java/lang/Exception"]) (ik := 22) (is := 24) (ic := 26) (sa := sa) (A := A) hx hb hl hown (by decide) (by decide) (hts _ (jm_at_T (i := 872) (by decide +kernel))) (hts _ (jm_at_T (i := 59) (by decide +kernel))) hstr ?_ (List.all_eq_true.mp jx_L0c) hZ.1 hZ.2 hS (hl0.1.trans hml.symm) (by decide +kernel) (by decide +kernel) (by decide +kernel) (by decide +kernel) (by decide +kernel) (fun x hx => (ht x hx).elim) (by decide) (by decide) (by decide) (by decide) hlocks ?_ (fun z hz => nomatch hz) (by decide) (by decide)
    · exact vx_hat (L := jx_L0) (B := jx_B) (fun w hw => hts w (jx_sub jx_L0a w hw)) (jx_subB jx_L0b) (fun w hw => va_Nw.use (jx_onB hw) (hB w hw))
    · intro t hal hz hk
      exact ⟨h, rfl, ⟨⟨rfl, cz⟩, hP.kept (fun k q hq => hk _ (hP k q hq).lt)⟩, hz, fun q hq _ => hk q hq⟩
theorem jx_failWhite {l : Launch} (D : va_G) (A : Nat → Prop) (ad : jm_K → Nat) (cs : Nat → ClassId) (h : jm_M) (q0 : Nat) (x : Int32) :
    Met l ⟨"PapersAreOnCats$White", "fail", "(I)V"⟩ (.code ⟨"PapersAreOnCats$White", "fail", "(I)V"⟩ prog_12_method_5_code 2 none :: jm_T) { frames := 0, cells := 0, slots := 0, locals := 0 } (va_Pc [.ref q0, .int x] (jx_Wd D A ad cs h)) (jx_Q0 D A ad cs h True) 0 0 A := by
  refine Met.ofW (cc := prog_12_method_5_code) (maxL := 2) (ret := none) (by decide) rfl ?_
  intro p e s m args below meth c s₁ B hml hv
  obtain ⟨rfl, ⟨hP, hK, hD, hN⟩, hA, hZ, -⟩ := hv
  have hS : va_S A s.heap s.heap [] := va_S.rf
  rw [lg_entry_eq]
  generalize (lg_sl ([Value.ref q0, .int x]) ++ List.replicate (2 - (lg_sl ([Value.ref q0, .int x])).length) Slot.unset).toArray = ls
  exact W.vret (cc := prog_12_method_5_code) B.exec B.bytes B.returns (fun t ht hW => ⟨⟨h, rfl, ⟨rfl, trivial⟩, by unfold jx_P; rw [ht]; exact hP⟩, hS.F ht⟩) hS.2.2 (by decide +kernel) B.notSynchronized
theorem jx_failOld {l : Launch} (D : va_G) (A : Nat → Prop) (ad : jm_K → Nat) (cs : Nat → ClassId) (h : jm_M) (q0 : Nat) (x : Int32) :
    Met l ⟨"PapersAreOnCats$Old", "fail", "(I)V"⟩ (.code ⟨"PapersAreOnCats$Old", "fail", "(I)V"⟩ prog_6_method_4_code 2 none :: jm_T) { frames := 0, cells := 0, slots := 0, locals := 0 } (va_Pc [.ref q0, .int x] (jx_Wd D A ad cs h)) (jx_Q0 D A ad cs h True) 0 0 A := by
  refine Met.ofW (cc := prog_6_method_4_code) (maxL := 2) (ret := none) (by decide) rfl ?_
  intro p e s m args below meth c s₁ B hml hv
  obtain ⟨rfl, ⟨hP, hK, hD, hN⟩, hA, hZ, -⟩ := hv
  have hS : va_S A s.heap s.heap [] := va_S.rf
  rw [lg_entry_eq]
  generalize (lg_sl ([Value.ref q0, .int x]) ++ List.replicate (2 - (lg_sl ([Value.ref q0, .int x])).length) Slot.unset).toArray = ls
  exact W.vret (cc := prog_6_method_4_code) B.exec B.bytes B.returns (fun t ht hW => ⟨⟨h, rfl, ⟨rfl, trivial⟩, by unfold jx_P; rw [ht]; exact hP⟩, hS.F ht⟩) hS.2.2 (by decide +kernel) B.notSynchronized
