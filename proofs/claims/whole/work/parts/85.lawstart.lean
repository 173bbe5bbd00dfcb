/-! THE LAW'S START: what the tables give; the first state. -/
theorem jo_kn {s : State} {args : Array Value} (hts : ∀ w ∈ jm_T, w.before args s = true) {ci i : Nat} {q : vw_C} (h : jm_cl0[ci]? = some q) (hi : jm_at i (.instantiable q.1 q.2.2) = true) : ∃ d : ClassId × (Nat → Nat), ∀ r, jm_cl0[ci]? = some r → u_Kn s r.1 r.2.1 r.2.2 d.1 d.2 := by
  obtain ⟨c, f, hk⟩ := u_known hts (jm_uws h) (hts _ (jm_at_T hi))
  exact ⟨(c, f), fun r hr => by cases h.symm.trans hr; exact hk⟩
theorem jo_D {s : State} {args : Array Value} (hts : ∀ w ∈ jm_T, w.before args s = true) : ∃ D : va_G, ∀ (c : Nat) (q : vw_C), jm_cl0[c]? = some q → u_Kn s q.1 q.2.1 q.2.2 (D.1 c) (D.2 c) := by
  have h : ∀ ci : Nat, ∃ d : ClassId × (Nat → Nat), ∀ r, jm_cl0[ci]? = some r → u_Kn s r.1 r.2.1 r.2.2 d.1 d.2 := by
    intro ci
    by_cases hlt : ci < 12
    · rcases (show ci = 0 ∨ ci = 1 ∨ ci = 2 ∨ ci = 3 ∨ ci = 4 ∨ ci = 5 ∨ ci = 6 ∨ ci = 7 ∨ ci = 8 ∨ ci = 9 ∨ ci = 10 ∨ ci = 11 by omega) with rfl | rfl | rfl | rfl | rfl | rfl | rfl | rfl | rfl | rfl | rfl | rfl
      · exact jo_kn hts rfl (i := 72) (by decide +kernel)
      · exact jo_kn hts rfl (i := 129) (by decide +kernel)
      · exact jo_kn hts rfl (i := 101) (by decide +kernel)
      · exact jo_kn hts rfl (i := 80) (by decide +kernel)
      · exact jo_kn hts rfl (i := 122) (by decide +kernel)
      · exact jo_kn hts rfl (i := 206) (by decide +kernel)
      · exact jo_kn hts rfl (i := 108) (by decide +kernel)
      · exact jo_kn hts rfl (i := 115) (by decide +kernel)
      · exact jo_kn hts rfl (i := 87) (by decide +kernel)
      · exact jo_kn hts rfl (i := 94) (by decide +kernel)
      · exact jo_kn hts rfl (i := 61) (by decide +kernel)
      · exact jo_kn hts rfl (i := 985) (by decide +kernel)
    · exact ⟨(0, fun _ => 0), fun r hr => absurd (List.getElem?_eq_some_iff.mp hr).1 hlt⟩
  obtain ⟨f, hf⟩ := Classical.axiomOfChoice h
  exact ⟨(fun c => (f c).1, fun c => (f c).2), fun c q hq => hf c q hq⟩
theorem jo_av {s : State} {args : Array Value} {ty : FieldType} (h : (Cond.arrayClass ty).before args s = true)   : ∃ c : ClassId, ArrOfT s c ty ∧ s.vm.findClass ("[" ++ ty.toString) = some c := by
  obtain ⟨c, k, comp, h1, h2, h3⟩ := Cond.arrayClass_spec h
  exact ⟨c, fun n z => ⟨fun q hq => (by cases hq), k, h2, comp, h3⟩, h1⟩
theorem jo_ao {s : State} {args : Array Value} {C : String} (h : (Cond.arrayOver (.object C)).before args s = true) (hn : C ≠ "java/lang/Object" ∨ True) : ∃ c : ClassId, ArrOfT s c (.object C) ∧ va_RA s c (.object C) := by
  obtain ⟨comp, c, k, h1, -, h2, h3, h4⟩ := Cond.arrayOver_spec h
  exact ⟨c, fun n z => ⟨fun q hq => (by cases hq), k, h2, comp, h3⟩, k, comp, h2, h3, h1, h4⟩
theorem jo_K {s : State} {args : Array Value} (hts0 : ∀ w ∈ lw_tbl, w.before args s = true) : ∃ (D : va_G) (cs : Nat → ClassId) (cl : ClassId), lz_K D cs cl s ∧ jn_I D cs s := by
  have hts : ∀ w ∈ jm_T, w.before args s = true := fun w hw => hts0 w (List.mem_filter.mp hw).1
  obtain ⟨D, hD⟩ := jo_D hts
  obtain ⟨c0, a0, b0⟩ := jo_av (hts0 (.arrayClass .int) (List.mem_of_getElem? (i := 78) (by decide +kernel)))
  obtain ⟨cl, a3, b3⟩ := jo_av (hts0 (.arrayClass .long) (List.mem_of_getElem? (i := 1401) (by decide +kernel)))
  have w1 := hts0 (.arrayOver (.object "PapersAreOnCats$Cat")) (List.mem_of_getElem? (i := 71) (by decide +kernel))
  have w2 := hts0 (.arrayOver (.object "PapersAreOnCats$Shelf")) (List.mem_of_getElem? (i := 69) (by decide +kernel))
  obtain ⟨c1, a1, b1⟩ := jo_ao w1 (Or.inr trivial)
  obtain ⟨c2, a2, b2⟩ := jo_ao w2 (Or.inr trivial)
  have hN : ∀ w ∈ jm_N, va_Nw w s := fun w hw => by
    have h1 := hts0 w (List.mem_filter.mp hw).1
    have h2 := (List.mem_filter.mp hw).2
    unfold jm_isN at h2
    split at h2
    · exact va_Nw.of rfl h1
    · cases h2
  have hB : ∀ w ∈ jx_B, va_Nw w s := fun w hw => va_Nw.of (jx_onB hw) (hts0 w (List.mem_filter.mp hw).1)
  let cs : Nat → ClassId := fun n => match n with
    | 0 => c0
    | 1 => c1
    | _ => c2
  have hK : va_K D jm_cl0 (jm_ty cs) s := ⟨hD, fun k q hk => by
    rcases k with _ | _ | _ | k
    · cases hk; exact ⟨a0, b0⟩
    · cases hk; exact ⟨a1, b1⟩
    · cases hk; exact ⟨a2, b2⟩
    · cases hk⟩
  have hL : va_K D jm_cl0 [(cl, .long)] s := ⟨hD, fun k q hk => by
    rcases k with _ | k
    · cases hk; exact ⟨a3, b3⟩
    · cases hk⟩
  exact ⟨D, cs, cl, ⟨hK, hN, hL⟩, hK, hN, hB, va_AO.of w1, va_AO.of w2⟩
theorem jo_str {s : State} {args : Array Value} {own tx : String} {k : Nat} (h1 : (Cond.stringRef own k tx).before args s = true) (h2 : (Cond.exactly (.string own k) "java/lang/String").before args s = true) : ∃ a, vk_R own k tx a s := by
  obtain ⟨a, -, -, -, he, -⟩ := Cond.exactly_spec h2
  exact ⟨a, vk_R.of (A := args) h1 he⟩
theorem jo_X {l : Launch} (hflags : l.flags = flags0) {s : State} {args : Array Value} (hts0 : ∀ w ∈ lw_tbl, w.before args s = true) (hgv : (Jvm.Cond.and given_1 narrow_1).before args s = true) (hB : ∀ w ∈ jx_B, va_Nw w s) (qo : Nat) : lz_X l s qo := by
  have hs := flat_of_before _ hgv
  have hA : ∀ a : Nat, a < s.heap.size → ¬ lz_A s qo a := fun a ha z => absurd z.1 (Nat.not_le.mpr ha)
  refine ⟨?_, ⟨?_, ?_, ?_, hB, ?_⟩, ?_, ?_⟩
  · unfold Launch.stackTraces
    rw [hflags]
    decide
  · exact jo_str (hts0 _ (List.mem_of_getElem? (i := 912) (by decide +kernel))) (hs _ (by decide +kernel))
  · exact jo_str (hts0 _ (List.mem_of_getElem? (i := 975) (by decide +kernel))) (hs _ (by decide +kernel))
  · exact jo_str (hts0 _ (List.mem_of_getElem? (i := 982) (by decide +kernel))) (hs _ (by decide +kernel))
  · exact va_Nc.of (hs _ (by decide +kernel))
  · exact vx_Zqof (hts0 _ (List.mem_of_getElem? (i := 899) (by decide +kernel))) (hts0 _ (List.mem_of_getElem? (i := 55) (by decide +kernel))) (hs _ (by decide +kernel)) hA
  · exact vx_Zqof (hts0 _ (List.mem_of_getElem? (i := 901) (by decide +kernel))) (hts0 _ (List.mem_of_getElem? (i := 55) (by decide +kernel))) (hs _ (by decide +kernel)) hA
/-- the first state -/
def jo_h : jm_M := fun k => match k with
  | (2, _, 0) => upd (fun _ => 0) 11 8
  | (5, 0, 0) => upd (fun _ => 0) 2 8
  | _ => fun _ => 0
theorem jo_n1 : ¬ (0 : Nat) = 1 := by decide
theorem jo_n2 : ¬ (0 : Nat) = 2 := by decide
def jo_g : Nat → Nat := fun i => if i = 2 then 8 else 0
set_option maxRecDepth 100000 in
theorem jo_jz : jz jo_h := by
  refine ⟨jo_g, fun _ => 0, fun _ _ => 0, fun _ _ => 0, 0, ⟨?_, fun z => absurd z jo_n1, fun d hd => ⟨Nat.zero_le 2, fun z => absurd z jo_n1, fun z => absurd z jo_n2⟩, fun d hd z => absurd z jo_n2, Nat.zero_le 1⟩, ⟨?_, fun d hd => ⟨rfl, fun z => absurd z jo_n1, fun z => absurd z jo_n2⟩, rfl, fun z => absurd z jo_n1⟩, ⟨?_, fun d hd => ⟨rfl, fun z => absurd z jo_n1, fun z => absurd z jo_n2⟩, rfl, fun z => absurd z jo_n1⟩⟩
  · unfold jw; decide +kernel
  · unfold jf_rel; decide +kernel
  · unfold jg_rel; decide +kernel

