/-! EXCEPTIONS: element of the law. -/
theorem jy_set {α : Type} (l : List α) (a b : α) : (l ++ [a]).set l.length b = l ++ [b] := by
  induction l with
  | nil => rfl
  | cons x t ih => exact congrArg (fun z => x :: z) ih
theorem tl_thrown {h : jm_M} : jt_Pu 226 [.inr (.inr (4, 0, 0))] h (.inl (h (4, 0, 0) 17)) := by
  show jt_T 226 (0, [(0, .inr (.inr (4, 0, 0)))], [], h) _
  refine jt_go jm_m226 0 2 (f' := (4, [(0, .inr (.inr (4, 0, 0)))], [.inl (h (4, 0, 0) 17)], h)) (P := True) rfl trivial ?_
  exact jt_iret jm_m226 2 rfl ⟨rfl, rfl⟩
/-- the law's own row of one long -/
abbrev jy_o (cl : ClassId) (qo : Nat) (f : Nat → Int64) : Nat × va_E := (qo, .inl (cl, 1, .inr (.inl f)))
abbrev jy_A (A : Nat → Prop) (qo : Nat) : Nat → Prop := fun q => A q ∨ q = qo
def jy_Wd (D : va_G) (A : Nat → Prop) (ad : jm_K → Nat) (cs : Nat → ClassId) (cl : ClassId) (qo : Nat) (h : jm_M) (U : State) : Prop := jx_Wd D A ad cs h U ∧ va_K D jm_cl0 [(cl, .long)] U ∧ (∃ f : Nat → Int64, va_at D jm_cl0 (jy_o cl qo f) U.heap) ∧ ¬ A qo
theorem jy_blind {av : List Value} {D : va_G} {A : Nat → Prop} {ad : jm_K → Nat} {cs : Nat → ClassId} {cl : ClassId} {qo : Nat} {h : jm_M} : FrameBlind (va_Pc av (jy_Wd D A ad cs cl qo h)) := fun a U g mk q => by
  obtain ⟨q1, q2, q3, q4⟩ := q
  exact ⟨q1, (jx_blind a U g mk ⟨q1, q2⟩).2, va_K.moved (u := U) (U := U.calling g mk a) (Vm.Alike.refl U.vm) q3, q4⟩
abbrev jy_rL : Room := { frames := 9, cells := 1, slots := 6, locals := 170 }
abbrev jy_Q (D : va_G) (A : Nat → Prop) (ad : jm_K → Nat) (cs : Nat → ClassId) (cl : ClassId) (qo : Nat) (h : jm_M) (th : Nat) (v : Int64) : Array Value → State → Outcome → State → Prop := va_Qi (fun (r : Int32) (u : Nat → Int64) => r = nI th ∧ (th = 0 → u 0 = v)) (fun u t => jx_P D ad cs h t ∧ va_at D jm_cl0 (jy_o cl qo u) t.heap) (jy_A A qo)
section JY
variable {p : Program} {l : Launch} {e : Env} {s : State} {m : MethodId} {args : Array Value} {below : List Frame} {meth : Method} {c : Code} {H : Heap} {locs : List Loc}
variable {D : va_G} {A : Nat → Prop} {cs : Nat → ClassId} {ad : jm_K → Nat} {ls : Array Slot} {h : jm_M} {cl : ClassId} {qo th : Nat} {v : Int64} {f : Nat → Int64}
theorem jy_ret (hx : p.tables.exec = Jvm.exec) (hb : c.code = method_3_code) (hr : meth.sig.returnType = some .int) (hlocks : meth.locks = false) (hP : va_P D jm_cl0 (jm_ws ad cs h) H) (hO : va_at D jm_cl0 (jy_o cl qo f) H) (hS : va_S (jy_A A qo) s.heap H locs) (hf : th = 0 → f 0 = v) {cells slots pc : Nat} (h1 : cells ≤ 1) (h2 : slots ≤ 6) (hd : decode method_3_code pc = .ok (.ireturn, 1)) : W p l e jy_rL s m args below meth c H locs cells slots (vx_MQ below (jy_Q D A ad cs cl qo h th v) jx_xT args s 1 6 (jy_A A qo)) (F0 m pc ls [.int (nI th)]) := by
  refine W.widen (k := 1) (n := 6) h1 h2 ?_
  exact vx_ret (W.iret (v := nI th) hx hb hr (fun t ht hW => ⟨⟨nI th, f, rfl, ⟨rfl, hf⟩, by unfold jx_P; rw [ht]; exact hP, by rw [ht]; exact hO⟩, hS.F ht⟩) hS.2.2 hd hlocks)
end JY
theorem jy_one {D : va_G} {q : Nat × va_E} {H : Heap} (h : va_at D jm_cl0 q H) : va_P D jm_cl0 [q] H := fun k z hz => by
  cases k with
  | zero => cases hz; exact h
  | succ k => cases hz
theorem jy_D {A : Nat → Prop} {ad : jm_K → Nat} {cs : Nat → ClassId} {h : jm_M} {qo : Nat} {q : va_E} (hD : va_D A (jm_ws ad cs h)) (hq : ¬ A qo) : va_D (jy_A A qo) (jm_ws ad cs h ++ [(qo, q)]) := by
  refine va_D.app (hD.weaken (fun k q _ h => Or.inl h)) ⟨fun i j p q hi hj _ => ?_, fun k z hz => ?_⟩ (fun i j p z hi hj => ?_)
  · cases i with
    | zero => cases j with
      | zero => rfl
      | succ j => cases hj
    | succ i => cases hi
  · cases k with
    | zero => cases hz; exact Or.inr rfl
    | succ k => cases hz
  · cases j with
    | zero => cases hj; exact fun e => hq (by have z := hD.2 i p hi; rw [e] at z; exact z)
    | succ j => cases hj
set_option maxHeartbeats 4000000 in
theorem jy_element {l : Launch} (hl : l.stackTraces = false) (D : va_G) (A : Nat → Prop) (ad : jm_K → Nat) (cs : Nat → ClassId) (cl : ClassId) (qo : Nat) {h : jm_M} {sh : Nat → Nat → Nat} {el : Nat → Nat → Int32} (K : jk_rel h sh el) (Y : kw sh) (x y : Int32) :
    vx_Met l ⟨"PapersAreOnCatsLaw", "element", "(LPapersAreOnCats;II[J)I"⟩ (.codeWith ⟨"PapersAreOnCatsLaw", "element", "(LPapersAreOnCats;II[J)I"⟩ method_3_code 5 (some .int) [(0, 9, 12, 13), (0, 9, 16, 15)] :: jm_T) jy_rL (va_Pc [Value.ref (ad (0, 0, 0)), .int x, .int y, .ref qo] (jy_Wd D A ad cs cl qo h)) (jy_Q D A ad cs cl qo h (sx_th sh x y) (sx_el sh el x y)) jx_xT 1 6 (jy_A A qo) := by
  refine vx_ofWH (cc := method_3_code) (maxL := 5) (ret := some .int) (hh := [(0, 9, 12, 13), (0, 9, 16, 15)]) (by decide) rfl ?_
  intro p e s m args below meth c s₁ B hml hv
  obtain ⟨rfl, ⟨⟨hP, hK, hD, hN⟩, hA, hZ, hS0⟩, hKl, ⟨f, hO⟩, hqA⟩ := hv
  have hpre := atoms_spec (ws := (.codeWith ⟨"PapersAreOnCatsLaw", "element", "(LPapersAreOnCats;II[J)I"⟩ method_3_code 5 (some .int) [(0, 9, 12, 13), (0, 9, 16, 15)] :: jm_T)) B.pre
  have ht := vx_table (x := ⟨"", "", ""⟩) B (hpre _ List.mem_cons_self)
  have hx := B.exec
  have hb := B.bytes
  have hrt := B.returns
  have hown : s.vm.findClass "PapersAreOnCatsLaw" = some m.cls := findClass_of_methodNamed B.named
  have hts : ∀ w ∈ jm_T, w.before [Value.ref (ad (0, 0, 0)), .int x, .int y, .ref qo].toArray s = true := fun w hw => hpre w (List.mem_cons_of_mem _ hw)
  have hlocks := B.notSynchronized
  have hF : gz_F D cs "PapersAreOnCatsLaw" method_3_code 5 p s m [Value.ref (ad (0, 0, 0)), .int x, .int y, .ref qo].toArray c := ⟨hx, hb, hml, hown, hts, hK, hN⟩
  rw [lg_entry_eq]
  have hl0 := lv_entry ([Value.ref (ad (0, 0, 0)), .int x, .int y, .ref qo]) (n := 5) (Nat.le_of_ble_eq_true rfl)
  generalize (lg_sl ([Value.ref (ad (0, 0, 0)), .int x, .int y, .ref qo]) ++ List.replicate (5 - (lg_sl ([Value.ref (ad (0, 0, 0)), .int x, .int y, .ref qo])).length) Slot.unset).toArray = ls at hl0 ⊢
  have hl0 : lv_has ls 5 [(0, .ref (ad (0, 0, 0))), (1, .int x), (2, .int y), (3, .ref qo)] := hl0
  have hS : va_S (jy_A A qo) s.heap s.heap [] := va_S.rf
  refine lv_aload_n (cc := method_3_code) (pc := 0) (k := 3) hx hb (by decide +kernel) rfl (lv_at hl0 3 rfl) ?_
  refine lv_iconst (cc := method_3_code) (n := 0) (v := nI 0) hx hb (by decide +kernel) (by decide) ?_
  refine lv_aload_n (cc := method_3_code) (k := 0) hx hb (by decide +kernel) rfl (lv_at hl0 0 rfl) ?_
  refine lv_iload_n (cc := method_3_code) (k := 1) hx hb (by decide +kernel) rfl (lv_at hl0 1 rfl) ?_
  refine lv_iload_n (cc := method_3_code) (k := 2) hx hb (by decide +kernel) rfl (lv_at hl0 2 rfl) ?_
  obtain ⟨q0, hq0, hq1⟩ := jm_ws_get (ad := ad) (cs := cs) (h := h) (c := (0, 0, 0)) (by decide)
  have hcw : CallW jy_rL s [Value.ref (ad (0, 0, 0)), .int x, .int y, .ref qo].toArray "PapersAreOnCatsLaw" "PapersAreOnCats" 7 ⟨"PapersAreOnCats", "element", "(II)J"⟩ prog_1_method_59_code 3 (some .long) (.code ⟨"PapersAreOnCats", "element", "(II)J"⟩ prog_1_method_59_code 3 (some .long) :: jm_T) jx_rT 1 6 2 :=
    ⟨callB_of 2 hts (fun w hw => (List.mem_cons.mp hw).elim (fun z => by rw [z]; exact ⟨(jm_at_T (i := 965) (w := .code ⟨"PapersAreOnCats", "element", "(II)J"⟩ prog_1_method_59_code 3 (some .long)) (by decide +kernel)), good_of_word rfl⟩) (fun z => ⟨z, good_of_word (List.mem_filter.mp z).2⟩)) rfl rfl rfl (hts _ (jm_at_T (i := 38) (by decide +kernel))) (hts _ (jm_at_T (i := 962) (by decide +kernel))) ⟨by decide, by decide, by decide +kernel⟩ ⟨by decide, by decide⟩, (hts _ (jm_at_T (i := 963) (by decide +kernel))), (hts _ (jm_at_T (i := 964) (by decide +kernel)))⟩
  have hrun := vx_runV (l := l) (e := e) (meth := meth) (locs := []) (below := below) (cells := 0) (slots := 0) (As := [.int x, .int y]) (rest := [.int (nI 0), .ref qo]) (g := F0 m 5 ls [.int y, .int x, .ref (ad (0, 0, 0)), .int (nI 0), .ref qo]) ⟨hx, hb, hml, hown, hts⟩ (jx_element hl D A ad cs K Y x y) hcw ⟨jx_blind, va_recv hK hP (ci := 10) rfl hq1, jx_pre hF hS0 hZ (fun q _ _ => rfl) hA hP hD⟩ rfl rfl hl0.1 rfl (lv_room (Nat.le_of_ble_eq_true rfl)) (show decode method_3_code 5 = .ok (.invokevirtual 7, 3) by decide +kernel) ⟨by decide, by decide⟩
  have hOl := hO.lt
  refine vx_calll (a := _) hrun hS (fun q _ h => Or.inl h) (fun q h => Or.inl h) (fun q _ h => Or.inl h) (fun E ce q9 u t H1 locs1 ht1 hal hp hB hz1 hk1 hS1 hcell hv hcl => ?_) (fun r u t H1 locs1 ht1 hal hp hB hz1 hk1 hS1 => ?_)
  · obtain ⟨hE, hP1⟩ := hB
    have hp : u = h := hp
    subst hp
    unfold jx_P at hP1
    rw [ht1] at hP1
    have hO1 := hO.kept (hk1 qo hOl hqA)
    rcases hE with ⟨rfl, hth⟩ | ⟨rfl, hth⟩
    · refine vx_catch (own := "PapersAreOnCatsLaw") (name := "java/lang/IllegalArgumentException") (E := "java/lang/IllegalArgumentException") hown [] _ _ ht (fun z hz => nomatch hz) rfl (by decide) (hts _ (jm_at_T (i := 960) (by decide +kernel))) (va_Nw.use rfl (hS0.2.2.2.1 _ (List.mem_filter.mpr ⟨List.mem_of_getElem? (i := 968) (by decide +kernel), rfl⟩))) hcell hv hcl ?_
      refine lv_astore (cc := method_3_code) (pc := 12) (i := 4) (lv' := [(4, .ref q9), (0, .ref (ad (0, 0, 0))), (1, .int x), (2, .int y), (3, .ref qo)]) hx hb (by decide +kernel) hl0 (by decide) rfl (fun ls2 hl2 => ?_)
      refine lv_iconst (cc := method_3_code) (n := 1) (v := nI 1) hx hb (by decide +kernel) (by decide) ?_
      rw [hth]
      exact jy_ret (pc := 15) hx hb hrt hlocks hP1 hO1 hS1 (fun z => absurd z (by decide)) (by decide) (by decide) (by decide +kernel)
    · refine vx_catch (own := "PapersAreOnCatsLaw") (name := "java/lang/IllegalStateException") (E := "java/lang/IllegalStateException") hown [_] _ [] ht (fun z hz => ?_) rfl (by decide) (hts _ (jm_at_T (i := 961) (by decide +kernel))) (va_Nw.use rfl (hS0.2.2.2.1 _ (List.mem_filter.mpr ⟨List.mem_of_getElem? (i := 874) (by decide +kernel), rfl⟩))) hcell hv hcl ?_
      · rw [List.mem_singleton.mp hz]
        exact Or.inr ⟨by decide, "java/lang/IllegalArgumentException", (hts _ (jm_at_T (i := 960) (by decide +kernel))), hS0.2.2.2.2⟩
      · refine lv_astore (cc := method_3_code) (pc := 16) (i := 4) (lv' := [(4, .ref q9), (0, .ref (ad (0, 0, 0))), (1, .int x), (2, .int y), (3, .ref qo)]) hx hb (by decide +kernel) hl0 (by decide) rfl (fun ls2 hl2 => ?_)
        refine lv_iconst (cc := method_3_code) (n := 2) (v := nI 2) hx hb (by decide +kernel) (by decide) ?_
        rw [hth]
        exact jy_ret (pc := 19) hx hb hrt hlocks hP1 hO1 hS1 (fun z => absurd z (by decide)) (by decide) (by decide) (by decide +kernel)
  · obtain ⟨⟨hth, hr⟩, hu⟩ := hp
    subst hu
    unfold jx_P at hB
    rw [ht1] at hB
    have hO1 := hO.kept (hk1 qo hOl hqA)
    refine va_last (cc := method_3_code) (pc := 8) (q0 := (jm_ws ad cs u).length) (t0 := 0) (n := 1) (f := f) hx hb hKl (hB.app (jy_one hO1)) (jy_D hD hqA) hS1 (by rw [List.getElem?_concat_length]) rfl (vp_in_nI (by decide) (by decide)) (by decide +kernel) (fun H2 locs2 hP2 hD2 hS2 => ?_)
    rw [jy_set] at hP2
    have hO2 : va_at D jm_cl0 (jy_o cl qo (vp_updL f (nI 0).toNatClampNeg r)) H2 := hP2 (jm_ws ad cs u).length _ (by rw [List.getElem?_concat_length])
    have hP3 : va_P D jm_cl0 (jm_ws ad cs u) H2 := fun k q hk => hP2 k q (by rw [List.getElem?_append_left (List.getElem?_eq_some_iff.mp hk).1]; exact hk)
    refine lv_goto (cc := method_3_code) (pc := 9) (off := 11) (tgt := 20) hx hb (by decide +kernel) (by decide) ?_
    refine lv_iconst (cc := method_3_code) (n := 0) (v := nI 0) hx hb (by decide +kernel) (by decide) ?_
    rw [hth]
    exact jy_ret (pc := 21) hx hb hrt hlocks hP3 hO2 hS2 (fun _ => hr ▸ rfl) (by decide) (by decide) (by decide +kernel)
