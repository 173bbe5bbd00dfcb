/-! THE CONSTRUCTORS: rows, and those of the cats' kinds. -/
def jn_I (D : va_G) (cs : Nat → ClassId) (U : State) : Prop := va_K D jm_cl0 (jm_ty cs) U ∧ (∀ w ∈ jm_N, va_Nw w U) ∧ (∀ w ∈ jx_B, va_Nw w U) ∧ va_AO "PapersAreOnCats$Cat" U ∧ va_AO "PapersAreOnCats$Shelf" U
theorem jn_Iw {D : va_G} {cs : Nat → ClassId} {s U : State} (hW : s.WarmedH U.vm) (h : jn_I D cs s) : jn_I D cs U := ⟨va_K.moved hW.alike h.1, jm_N_warm hW h.2.1, jx_Bw hW h.2.2.1, va_AO.moved hW.alike h.2.2.2.1, va_AO.moved hW.alike h.2.2.2.2⟩
/-- what a constructor starts from: its own world, and the tables -/
abbrev jn_P (D : va_G) (cs : Nat → ClassId) (av : List Value) (ws : va_W) (sz : Nat) : Array Value → State → Prop := va_Pc av (fun U => U.heap.size = sz ∧ va_P D jm_cl0 ws U.heap ∧ va_D (fun _ => True) ws ∧ jn_I D cs U)
theorem jn_blind {D : va_G} {cs : Nat → ClassId} {av : List Value} {ws : va_W} {sz : Nat} : FrameBlind (jn_P D cs av ws sz) := fun a U g mk q => by
  obtain ⟨q0, q1, q2, q3, h1, h2, h3, h4, h5⟩ := q
  exact ⟨q0, q1, q2, q3, va_K.moved (u := U) (U := U.calling g mk a) (Vm.Alike.refl U.vm) h1, jm_N_same (u := U) (U := U.calling g mk a) rfl h2, jx_Bs (u := U) rfl h3, va_AO.moved (u := U) (U := U.calling g mk a) (Vm.Alike.refl U.vm) h4, va_AO.moved (u := U) (U := U.calling g mk a) (Vm.Alike.refl U.vm) h5⟩
/-- and what it leaves: its world grown, at addresses u -/
abbrev jn_Q {S : Type} (D : va_G) (ws : va_W) (sz : Nat) (F : S → va_W) : Array Value → State → Outcome → State → Prop := va_Qv (fun _ : S => True) (fun u t => va_P D jm_cl0 (F u) t.heap ∧ va_D (va_A ws sz) (F u)) (va_A ws sz)
abbrev jn_r (n cells slots locals : Nat) : Room := { frames := n, cells := cells, slots := slots, locals := locals }
section JN
variable {p : Program} {l : Launch} {e : Env} {R : Room} {s : State} {m : MethodId} {args : Array Value} {below : List Frame} {meth : Method} {c : Code} {H : Heap} {locs : List Loc} {cells slots : Nat} {Q : State → Prop}
variable {D : va_G} {A : Nat → Prop} {cs : Nat → ClassId} {ls : Array Slot} {rest : List Value} {cc : ByteArray} {pc : Nat} {ws : va_W} {H0 : Heap}
theorem jn_hts {y : MethodName} {bytes : ByteArray} {n : Nat} {r : Option FieldType} (h : ∀ w ∈ Cond.code y bytes n r :: jm_T, w.before args s = true) : ∀ w ∈ jm_T, w.before args s = true := fun w hw => h w (List.mem_cons_of_mem _ hw)
theorem jn_good {y : MethodName} {bytes : ByteArray} {n : Nat} {r : Option FieldType} {i : Nat} (h : jm_at i (.code y bytes n r) = true) : GoodIn jm_T (Cond.code y bytes n r :: jm_T) := by
  intro w hw
  rcases List.mem_cons.mp hw with rfl | hw
  · exact ⟨jm_at_T h, good_of_word (List.mem_filter.mp (jm_at_T h)).2⟩
  · exact ⟨hw, good_of_word (List.mem_filter.mp hw).2⟩
/-- a new row of ints: its class is the one that all have -/
theorem jn_newa (hexec : p.tables.exec = Jvm.exec) (hb : c.code = cc) (hts : ∀ w ∈ jm_T, w.before args s = true) (hK : va_K D jm_cl0 (jm_ty cs) s) (hP : va_P D jm_cl0 ws H) (hD : va_D A ws) (hS : va_S A H0 H locs) (hA : ∀ q, H0.size ≤ q → A q)
    {n : Int32} {N' : Nat} (hn : ¬ n < 0) (hN : n.toNatClampNeg = N') (hbytes : N' * 4 ≤ 536870912) (hcells : cells + 1 ≤ R.cells) (hslots : slots + N' ≤ R.slots) (hdg : decode cc pc = .ok (.newarray .int, 2))
    (kk : ∀ (q : Nat) (H1 : Heap), va_P D jm_cl0 (ws ++ [(q, .inl (cs 0, N', .inl (fun _ => 0)))]) H1 → va_D A (ws ++ [(q, .inl (cs 0, N', .inl (fun _ => 0)))]) → va_S A H0 H1 locs →
      W p l e R s m args below meth c H1 locs (cells + 1) (slots + N') Q (F0 m (pc + 2) ls (.ref q :: rest))) : W p l e R s m args below meth c H locs cells slots Q (F0 m pc ls (.int n :: rest)) := by
  refine va_newa (a0 := (N', .inl (fun _ => 0))) (ty := .int) hexec hb (hts _ (jm_at_T (i := 78) (by decide +kernel))) rfl hK hP hD hS hA (fun _ => rfl) hn hN hbytes hcells hslots hdg (fun q cA H1 hK1 hP1 hD1 hS1 => ?_)
  have h1 : s.vm.findClass ("[" ++ FieldType.int.toString) = some cA := (hK1.2 3 _ rfl).2
  have h2 : s.vm.findClass ("[" ++ FieldType.int.toString) = some (cs 0) := (hK.2 0 _ rfl).2
  have h3 : cA = cs 0 := Option.some.inj (h1.symm.trans h2)
  rw [h3] at hP1 hD1
  exact kk q H1 hP1 hD1 hS1
theorem jn_newq (hexec : p.tables.exec = Jvm.exec) (hb : c.code = cc) {own C : String} {index t : Nat} (ht : (jm_ty cs)[t]? = some (cs t, .object C)) (hown : s.vm.findClass own = some m.cls) (hclink : (Cond.classLink own index C).before args s = true) (hover : va_AO C s) (hK : va_K D jm_cl0 (jm_ty cs) s) (hP : va_P D jm_cl0 ws H) (hD : va_D A ws) (hS : va_S A H0 H locs) (hA : ∀ q, H0.size ≤ q → A q)
    {n : Int32} {N' : Nat} (hn : ¬ n < 0) (hN : n.toNatClampNeg = N') (hbytes : N' * 4 ≤ 536870912) (hcells : cells + 1 ≤ R.cells) (hslots : slots + N' ≤ R.slots) (hdg : decode cc pc = .ok (.anewarray index, 3))
    (kk : ∀ (q : Nat) (H1 : Heap), va_P D jm_cl0 (ws ++ [(q, .inl (cs t, N', .inr (.inr (.inr (.inr (fun _ => none))))))]) H1 → va_D A (ws ++ [(q, .inl (cs t, N', .inr (.inr (.inr (.inr (fun _ => none))))))]) → va_S A H0 H1 locs →
      W p l e R s m args below meth c H1 locs (cells + 1) (slots + N') Q (F0 m (pc + 3) ls (.ref q :: rest))) : W p l e R s m args below meth c H locs cells slots Q (F0 m pc ls (.int n :: rest)) := by
  refine va_newq hexec hb hown hclink hover hK hP hD hS hA hn hN hbytes hcells hslots hdg (fun q cA H1 hK1 hP1 hD1 hS1 => ?_)
  obtain ⟨-, -, -, -, -, h1⟩ := (hK1.2 3 _ rfl).2
  obtain ⟨-, -, -, -, -, h2⟩ := (hK.2 t _ ht).2
  have h3 : cA = cs t := Option.some.inj (h1.symm.trans h2)
  rw [h3] at hP1 hD1
  exact kk q H1 hP1 hD1 hS1
/-- a call of a constructor: its world wc turns to F u, the others stay -/
theorem jn_call {S : Type} {F : S → va_W} {wc wr : va_W} {mc ms : Nat} {st0 : List Value} {av : Array Value} (hr : va_Run p l e R s m args below meth c H locs cells slots mc ms (F0 m pc ls st0) rest (jn_Q D wc H.size F av) (va_A wc H.size)) (hP : va_P D jm_cl0 ws H) (hD : va_D A ws) (hS : va_S A H0 H locs) (hA : ∀ q, H0.size ≤ q → A q)
    (isC isR : List Nat) (hC : isC.map (fun i => ws[i]?) = wc.map some) (hR : isR.map (fun i => ws[i]?) = wr.map some) (hn : va_nd isR = true) (hdis : ∀ i ∈ isR, i ∉ isC)
    (kk : ∀ (u : S) (H1 : Heap) (locs1 : List Loc), va_P D jm_cl0 (wr ++ F u) H1 → va_D A (wr ++ F u) → va_S A H0 H1 locs1 → W p l e R s m args below meth c H1 locs1 (cells + mc) (slots + ms) Q (F0 m (pc + 3) ls rest)) : W p l e R s m args below meth c H locs cells slots Q (F0 m pc ls st0) := by
  have hF := va_free (wc := wc) hD hS hA isC hC
  refine va_callv hr hS (fun q _ h => hF q h) hF (fun u t H1 locs1 ht hvm _ hB hz hk hS1 => ?_)
  obtain ⟨hP1, hD1⟩ := hB
  rw [ht] at hP1
  obtain ⟨hP2, hD2⟩ := va_join hP hD isC isR hC hR hn hdis hk hF hP1 hD1
  exact kk u H1 locs1 hP2 hD2 hS1
theorem jn_pre {av : List Value} {wc : va_W} (hI : jn_I D cs s) (hP : va_P D jm_cl0 ws H) (hD : va_D A ws) (isC : List Nat) (hC : isC.map (fun i => ws[i]?) = wc.map some) (hn : va_nd isC = true) : PreS s H (jn_P D cs av wc H.size) av :=
  ⟨jn_blind, fun U hU hW => ⟨rfl, by rw [hU], by rw [hU]; exact hP.sub isC (by have h := congrArg (List.filterMap id) hC; simpa [List.filterMap_map] using h), (hD.sub isC hn hC).weaken (fun _ _ _ _ => trivial), jn_Iw hW hI⟩⟩
/-- the call itself, of a nest mate's and of a plain one -/
theorem jn_runN {y : MethodName} {bytes : ByteArray} {maxL nL mc ms n index i1 i2 i3 i4 : Nat} {rm : Room} {own : String} {b : Addr} {As : List Value} {wc : va_W} {S0 : Type} {F : S0 → va_W} (S : CallFix p m c cc nL s args jm_T own) (hI : jn_I D cs s)
    (hM : Met l y (Cond.code y bytes maxL none :: jm_T) rm (jn_P D cs (.ref b :: As) wc H.size) (jn_Q D wc H.size F) mc ms (va_A wc H.size))
    (k1 : jm_at i1 (.code y bytes maxL none) = true) (k2 : jm_atN i2 (.methodLinkNest own index y "PapersAreOnCats") = true) (k3 : jm_at i3 (.initialized y.cls) = true) (k4 : jm_at i4 (.instanceMethod y) = true) (k5 : jm_par y n = true) (k6 : y.name = "<init>")
    (hcc : rm.cells = mc) (hss : rm.slots = ms) (hR : rm.frames + 1 ≤ R.frames ∧ 8 + (maxL + 11) + rm.locals ≤ R.locals) (hP : va_P D jm_cl0 ws H) (hD : va_D A ws) (isC : List Nat) (hC : isC.map (fun i => ws[i]?) = wc.map some) (hnd : va_nd isC = true)
    (hn : As.length = n) (hsize : ls.size = nL) (hW : 2 * (F0 m pc ls (As.reverse ++ .ref b :: rest)).monitorRoom + (rest.map fun v => v.category).sum ≤ 8) (hdg : decode cc pc = .ok (.invokespecial index, 3)) (hf : cells + mc ≤ R.cells ∧ slots + ms ≤ R.slots) :
    va_Run p l e R s m args below meth c H locs cells slots mc ms (F0 m pc ls (As.reverse ++ .ref b :: rest)) rest (jn_Q D wc H.size F (Value.ref b :: As).toArray) (va_A wc H.size) :=
  va_runIN S hM ⟨va_cnB n S.2.2.2.2 (jn_good k1) rfl hcc hss (hI.2.1 _ (jm_at_N k2)) (S.2.2.2.2 _ (jm_at_T k3)) (jm_par_spec k5) hR, k6, S.2.2.2.2 _ (jm_at_T k4)⟩ (jn_pre hI hP hD isC hC hnd) rfl hn hsize rfl hW hdg hf
theorem jn_runP {y : MethodName} {bytes : ByteArray} {maxL nL mc ms n index i1 i2 i3 i4 : Nat} {rm : Room} {own : String} {b : Addr} {As : List Value} {wc : va_W} {S0 : Type} {F : S0 → va_W} (S : CallFix p m c cc nL s args jm_T own) (hI : jn_I D cs s)
    (hM : Met l y (Cond.code y bytes maxL none :: jm_T) rm (jn_P D cs (.ref b :: As) wc H.size) (jn_Q D wc H.size F) mc ms (va_A wc H.size))
    (k1 : jm_at i1 (.code y bytes maxL none) = true) (k2 : jm_at i2 (.methodLink own index y) = true) (k3 : jm_at i3 (.initialized y.cls) = true) (k4 : jm_at i4 (.instanceMethod y) = true) (k5 : jm_par y n = true) (k6 : y.name = "<init>")
    (hcc : rm.cells = mc) (hss : rm.slots = ms) (hR : rm.frames + 1 ≤ R.frames ∧ 8 + (maxL + 11) + rm.locals ≤ R.locals) (hP : va_P D jm_cl0 ws H) (hD : va_D A ws) (isC : List Nat) (hC : isC.map (fun i => ws[i]?) = wc.map some) (hnd : va_nd isC = true)
    (hn : As.length = n) (hsize : ls.size = nL) (hW : 2 * (F0 m pc ls (As.reverse ++ .ref b :: rest)).monitorRoom + (rest.map fun v => v.category).sum ≤ 8) (hdg : decode cc pc = .ok (.invokespecial index, 3)) (hf : cells + mc ≤ R.cells ∧ slots + ms ≤ R.slots) :
    va_Run p l e R s m args below meth c H locs cells slots mc ms (F0 m pc ls (As.reverse ++ .ref b :: rest)) rest (jn_Q D wc H.size F (Value.ref b :: As).toArray) (va_A wc H.size) :=
  va_runI S hM ⟨callB_of n S.2.2.2.2 (jn_good k1) rfl hcc hss (S.2.2.2.2 _ (jm_at_T k3)) (S.2.2.2.2 _ (jm_at_T k2)) (jm_par_spec k5) hR, k6, S.2.2.2.2 _ (jm_at_T k4)⟩ (jn_pre hI hP hD isC hC hnd) rfl hn hsize rfl hW hdg hf
end JN

