/-! EXCEPTIONS: toss of the class. -/
/-- a call's words, and its room -/
def gz_chk (own : String) (kd fr lo k : Nat) (q : lz_CT) : Bool := match jm_mt[q.2.2.2.1]? with
  | some r => jm_cok1 own q.1 kd q.2.1 q.2.2.1 r.1 q.2.2.2.2 && decide (r.2.2.2.2.1 + 1 ≤ fr) && decide (8 + (r.2.2.1 + 11) + r.2.2.2.2.2.1 ≤ lo) && decide (k ≤ r.2.2.1)
  | none => false
theorem gz_ck {own : String} {kd fr lo k idx n ci mi : Nat} {ps : List Nat} (h : gz_chk own kd fr lo k (idx, n, ci, mi, ps) = true) : ∃ r : jm_MT, jm_mt[mi]? = some r ∧ jm_cok1 own idx kd n ci r.1 ps = true ∧ (r.2.2.2.2.1 + 1 ≤ fr ∧ 8 + (r.2.2.1 + 11) + r.2.2.2.2.2.1 ≤ lo) ∧ k ≤ r.2.2.1 := by
  unfold gz_chk at h
  dsimp only at h
  split at h
  · rename_i r hr
    simp only [Bool.and_eq_true, decide_eq_true_eq] at h
    exact ⟨r, hr, h.1.1.1, ⟨h.1.1.2, h.1.2⟩, h.2⟩
  · cases h
abbrev jx_rT : Room := { frames := 8, cells := 1, slots := 6, locals := 140 }
abbrev jx_tM : jm_MT := (⟨"PapersAreOnCats", "toss", "(I)I"⟩, prog_1_method_62_code, 6, some .int, 0, 0, 11)
abbrev jx_qT (D : va_G) (A : Nat → Prop) (ad : jm_K → Nat) (cs : Nat → ClassId) (h : jm_M) (ans : Int32) : Array Value → State → Outcome → State → Prop := va_Qi (fun (r : Int32) (u : jm_M) => r = ans ∧ u = h) (jx_P D ad cs) A
abbrev jx_xT : String → State → State → Prop := fun _ _ _ => False
/-- the kinds: their class, that class' number -/
abbrev jx_f41 (x : Int32) (d f k : Nat) (h : jm_M) : jm_F := (41, [(4, .inl (nI f)), (3, .inr (.inr (1, k, 0))), (2, .inl x), (0, .inr (.inr (0, 0, 0))), (1, .inl (nI d))], [.inl (nI f), .inr (.inr (1, k, 0))], h)
section JXT
variable {p : Program} {l : Launch} {e : Env} {s : State} {m : MethodId} {args : Array Value} {below : List Frame} {meth : Method} {c : Code} {H : Heap} {locs : List Loc}
variable {D : va_G} {A : Nat → Prop} {cs : Nat → ClassId} {ad : jm_K → Nat} {ls : Array Slot} {h : jm_M} {x ans : Int32} {d f : Nat}
theorem jx_ret (hFx : jm_Fx D cs jx_tM p s m args meth c) (hP : va_P D jm_cl0 (jm_ws ad cs h) H) (hS : va_S A s.heap H locs) {cells slots pc : Nat} (h1 : cells ≤ 1) (h2 : slots ≤ 6) (hd : decode prog_1_method_62_code pc = .ok (.ireturn, 1)) : W p l e jx_rT s m args below meth c H locs cells slots (vx_MQ below (jx_qT D A ad cs h ans) jx_xT args s 1 6 A) (F0 m pc ls [.int ans]) := by
  obtain ⟨hx, hb, hml, hown, hts, hK, hN, hr, hlocks, hon⟩ := hFx
  refine W.widen (k := 1) (n := 6) h1 h2 ?_
  exact vx_ret (W.iret (v := ans) hx hb hr (fun t ht hW => ⟨⟨ans, h, rfl, ⟨rfl, rfl⟩, by unfold jx_P; rw [ht]; exact hP⟩, hS.F ht⟩) hS.2.2 hd hlocks)
theorem jx_15 (hFx : jm_Fx D cs jx_tM p s m args meth c) (hP : va_P D jm_cl0 (jm_ws ad cs h) H) (hS : va_S A s.heap H locs) {cells slots : Nat} (h1 : cells ≤ 1) (h2 : slots ≤ 6) : W p l e jx_rT s m args below meth c H locs cells slots (vx_MQ below (jx_qT D A ad cs h (-15)) jx_xT args s 1 6 A) (F0 m 44 ls []) := by
  obtain ⟨hx, hb, -⟩ := id hFx
  refine lv_goto (cc := prog_1_method_62_code) (off := 12) (tgt := 56) hx hb (by decide +kernel) (by decide) ?_
  refine lv_bipush (cc := prog_1_method_62_code) (n := -15) (v := -15) hx hb (by decide +kernel) (by decide) ?_
  exact jx_ret hFx hP hS h1 h2 (by decide +kernel)

set_option maxHeartbeats 4000000 in
theorem jx_t0 (hl : l.stackTraces = false) (hFx : jm_Fx D cs jx_tM p s m args meth c) (hS0 : jx_S s) (hZ : jx_Z A s s.heap) (hA : ∀ q : Nat, s.heap.size ≤ q → A q) (ht : c.exceptionTable.toList = tableOf [(38, 44, 47, 348)]) (hf10 : f < 10) (hf : jm_Fr D A ad cs s.heap 6 (jx_f41 x d f 0 h) ls H locs) (a0 : f = 0 → ans = -15) (a1 : ¬ f = 0 → ans = nI f) : W p l e jx_rT s m args below meth c H locs 0 0 (vx_MQ below (jx_qT D A ad cs h ans) jx_xT args s 1 6 A) (F0 m 41 ls [.int (nI f), .ref (ad (1, 0, 0))]) := by
  obtain ⟨hx, hb, hml, hown, hts, hK, hN, hr, hlocks, hon⟩ := id hFx
  have hF : gz_F D cs "PapersAreOnCats" prog_1_method_62_code 6 p s m args c := ⟨hx, hb, hml, hown, hts, hK, hN⟩
  obtain ⟨hl0, hol, hos, hP, hD, hS⟩ := hf
  have hAH : ∀ q : Nat, H.size ≤ q → A q := fun q hq => hA q (Nat.le_trans hS.1 hq)
  obtain ⟨q0, hq0, hq1⟩ := jm_ws_get (ad := ad) (cs := cs) (h := h) (c := (1, 0, 0)) (by decide)
  have hcu : va_CU jx_rT s args "PapersAreOnCats" "PapersAreOnCats$Cat" "PapersAreOnCats$Cat" 372 ⟨"PapersAreOnCats$Cat", "fail", "(I)V"⟩ ⟨"PapersAreOnCats$Cat", "fail", "(I)V"⟩ prog_2_method_7_code 2 none (.code ⟨"PapersAreOnCats$Cat", "fail", "(I)V"⟩ prog_2_method_7_code 2 none :: jm_T) jx_rF 1 6 1 :=
    ⟨⟨rfl, rfl, by decide, by decide, pay_in hts (fun w hw => (List.mem_cons.mp hw).elim (fun z => by rw [z]; exact ⟨(jm_at_T (i := 871) (w := .code ⟨"PapersAreOnCats$Cat", "fail", "(I)V"⟩ prog_2_method_7_code 2 none) (by decide +kernel)), good_of_word rfl⟩) (fun z => ⟨z, good_of_word (List.mem_filter.mp z).2⟩)), List.mem_cons_self⟩, (hts _ (jm_at_T (i := 871) (w := .code ⟨"PapersAreOnCats$Cat", "fail", "(I)V"⟩ prog_2_method_7_code 2 none) (by decide +kernel))), (hts _ (jm_at_T (i := 39) (by decide +kernel))), ⟨by decide, by decide⟩, jm_len_par (y := ⟨"PapersAreOnCats$Cat", "fail", "(I)V"⟩) (n := 1) (by decide +kernel), (hts _ (jm_at_T (i := 856) (by decide +kernel))), (hts _ (jm_at_T (i := 859) (by decide +kernel))), va_Decl.of (hts _ (jm_at_T (i := 857) (by decide +kernel))) (hts _ (jm_at_T (i := 871) (w := .code ⟨"PapersAreOnCats$Cat", "fail", "(I)V"⟩ prog_2_method_7_code 2 none) (by decide +kernel))), (hts _ (jm_at_T (i := 858) (by decide +kernel))), (hts _ (jm_at_T (i := 857) (by decide +kernel)))⟩
  have hrun := vx_runU (l := l) (e := e) (meth := meth) (locs := locs) (below := below) (cells := 0) (slots := 0) (As := [.int (nI f)]) (rest := []) (g := F0 m 41 ls [.int (nI f), .ref (ad (1, 0, 0))]) ⟨hx, hb, hml, hown, hts⟩ (jx_fail hl D A ad cs h (ad (1, 0, 0)) (nI f)) hcu ⟨jx_blind, va_recv hK hP (ci := 0) rfl hq1, jx_pre hF hS0 hZ hS.2.1 hAH hP hD⟩ rfl rfl hl0.1 rfl (lv_room (by decide)) (show decode prog_1_method_62_code 41 = .ok (.invokevirtual 372, 3) by decide +kernel) ⟨by decide, by decide⟩
  refine vx_callv (a := _) hrun hS (fun q _ h => h) (fun q h => h) (fun q _ h => h) (fun E ce q9 u t H1 locs1 ht1 hal hp hB hz1 hk1 hS1 hcell hv hcl => ?_) (fun u t H1 locs1 ht1 hal hp hB hz1 hk1 hS1 => ?_)
  · obtain ⟨⟨rfl, hnz⟩, hP1⟩ := hB
    have hp : u = h := hp
    subst hp
    unfold jx_P at hP1
    rw [ht1] at hP1
    refine vx_catch (own := "PapersAreOnCats") (name := "java/lang/IllegalStateException") (E := "java/lang/IllegalStateException") hown [] _ [] ht (fun z hz => nomatch hz) rfl (by decide) (hts _ (jm_at_T (i := 855) (by decide +kernel))) (va_Nw.use rfl (hS0.2.2.2.1 _ (List.mem_filter.mpr ⟨List.mem_of_getElem? (i := 874) (by decide +kernel), rfl⟩))) hcell hv hcl ?_
    have hl1 : lv_has ls 6 [(4, .int (nI f)), (3, .ref (ad (1, 0, 0))), (2, .int x), (0, .ref (ad (0, 0, 0))), (1, .int (nI d))] := hl0
    refine lv_astore (cc := prog_1_method_62_code) (i := 5) (lv' := [(5, .ref q9), (4, .int (nI f)), (3, .ref (ad (1, 0, 0))), (2, .int x), (0, .ref (ad (0, 0, 0))), (1, .int (nI d))]) hx hb (by decide +kernel) hl1 (by decide) rfl (fun ls2 hl2 => ?_)
    refine lv_aload_n (cc := prog_1_method_62_code) (k := 3) hx hb (by decide +kernel) rfl (lv_at hl2 2 rfl) ?_
    refine lv_iload (cc := prog_1_method_62_code) hx hb (by decide +kernel) (lv_at hl2 1 rfl) ?_
    obtain ⟨r, hr1, hw1, hfit1, hmx⟩ := gz_ck (own := "PapersAreOnCats") (kd := 3) (fr := 8) (lo := 140) (k := 2) (idx := 375) (n := 1) (ci := 0) (mi := 5) (ps := [939, 942, 940, 941, 940, 39, 956]) (by decide +kernel)
    obtain ⟨nn, u2, h2, hR, rfl, rfl⟩ := tp_5_0 (h := u) hf10
    refine gz_cont (v := .inl (nI f)) (gz_runU hF hr1 hw1 (show gz_fit jx_rT r from hfit1) (k0 := (1, 0, 0)) (as := [.inl (nI f)]) (by decide) rfl rfl (fun v hv => by rw [List.mem_singleton.mp hv]; trivial) hmx hR (by decide +kernel) hl2.1 (by decide) hP1 hD ⟨by decide, by decide⟩) hS1 (fun q h => h) (Or.inl ⟨_, rfl⟩) (fun H2 locs2 hP2 hD2 hS2 => ?_)
    have ea := a1 (fun z => hnz (by rw [z]; rfl))
    rw [← ea]
    exact jx_ret (pc := 55) hFx hP2 hS2 (by decide) (by decide) (by decide +kernel)
  · obtain ⟨rfl, hz⟩ := hp
    have ez : f = 0 := nI_inj (by omega) (by decide) hz
    rw [a0 ez]
    unfold jx_P at hB
    rw [ht1] at hB
    exact jx_15 hFx hB hS1 (by decide) (by decide)
set_option maxHeartbeats 4000000 in
theorem jx_t1 (hl : l.stackTraces = false) (hFx : jm_Fx D cs jx_tM p s m args meth c) (hS0 : jx_S s) (hZ : jx_Z A s s.heap) (hA : ∀ q : Nat, s.heap.size ≤ q → A q) (ht : c.exceptionTable.toList = tableOf [(38, 44, 47, 348)]) (hf10 : f < 10) (hf : jm_Fr D A ad cs s.heap 6 (jx_f41 x d f 1 h) ls H locs) (a0 : f = 0 → ans = -15) (a1 : ¬ f = 0 → ans = nI f) : W p l e jx_rT s m args below meth c H locs 0 0 (vx_MQ below (jx_qT D A ad cs h ans) jx_xT args s 1 6 A) (F0 m 41 ls [.int (nI f), .ref (ad (1, 1, 0))]) := by
  obtain ⟨hx, hb, hml, hown, hts, hK, hN, hr, hlocks, hon⟩ := id hFx
  have hF : gz_F D cs "PapersAreOnCats" prog_1_method_62_code 6 p s m args c := ⟨hx, hb, hml, hown, hts, hK, hN⟩
  obtain ⟨hl0, hol, hos, hP, hD, hS⟩ := hf
  have hAH : ∀ q : Nat, H.size ≤ q → A q := fun q hq => hA q (Nat.le_trans hS.1 hq)
  obtain ⟨q0, hq0, hq1⟩ := jm_ws_get (ad := ad) (cs := cs) (h := h) (c := (1, 1, 0)) (by decide)
  have hcu : va_CU jx_rT s args "PapersAreOnCats" "PapersAreOnCats$Mouser" "PapersAreOnCats$Cat" 372 ⟨"PapersAreOnCats$Cat", "fail", "(I)V"⟩ ⟨"PapersAreOnCats$Cat", "fail", "(I)V"⟩ prog_2_method_7_code 2 none (.code ⟨"PapersAreOnCats$Cat", "fail", "(I)V"⟩ prog_2_method_7_code 2 none :: jm_T) jx_rF 1 6 1 :=
    ⟨⟨rfl, rfl, by decide, by decide, pay_in hts (fun w hw => (List.mem_cons.mp hw).elim (fun z => by rw [z]; exact ⟨(jm_at_T (i := 871) (w := .code ⟨"PapersAreOnCats$Cat", "fail", "(I)V"⟩ prog_2_method_7_code 2 none) (by decide +kernel)), good_of_word rfl⟩) (fun z => ⟨z, good_of_word (List.mem_filter.mp z).2⟩)), List.mem_cons_self⟩, (hts _ (jm_at_T (i := 871) (w := .code ⟨"PapersAreOnCats$Cat", "fail", "(I)V"⟩ prog_2_method_7_code 2 none) (by decide +kernel))), (hts _ (jm_at_T (i := 39) (by decide +kernel))), ⟨by decide, by decide⟩, jm_len_par (y := ⟨"PapersAreOnCats$Cat", "fail", "(I)V"⟩) (n := 1) (by decide +kernel), (hts _ (jm_at_T (i := 856) (by decide +kernel))), (hts _ (jm_at_T (i := 859) (by decide +kernel))), va_Decl.of (hts _ (jm_at_T (i := 857) (by decide +kernel))) (hts _ (jm_at_T (i := 871) (w := .code ⟨"PapersAreOnCats$Cat", "fail", "(I)V"⟩ prog_2_method_7_code 2 none) (by decide +kernel))), (hts _ (jm_at_T (i := 861) (by decide +kernel))), (hts _ (jm_at_T (i := 857) (by decide +kernel)))⟩
  have hrun := vx_runU (l := l) (e := e) (meth := meth) (locs := locs) (below := below) (cells := 0) (slots := 0) (As := [.int (nI f)]) (rest := []) (g := F0 m 41 ls [.int (nI f), .ref (ad (1, 1, 0))]) ⟨hx, hb, hml, hown, hts⟩ (jx_fail hl D A ad cs h (ad (1, 1, 0)) (nI f)) hcu ⟨jx_blind, va_recv hK hP (ci := 3) rfl hq1, jx_pre hF hS0 hZ hS.2.1 hAH hP hD⟩ rfl rfl hl0.1 rfl (lv_room (by decide)) (show decode prog_1_method_62_code 41 = .ok (.invokevirtual 372, 3) by decide +kernel) ⟨by decide, by decide⟩
  refine vx_callv (a := _) hrun hS (fun q _ h => h) (fun q h => h) (fun q _ h => h) (fun E ce q9 u t H1 locs1 ht1 hal hp hB hz1 hk1 hS1 hcell hv hcl => ?_) (fun u t H1 locs1 ht1 hal hp hB hz1 hk1 hS1 => ?_)
  · obtain ⟨⟨rfl, hnz⟩, hP1⟩ := hB
    have hp : u = h := hp
    subst hp
    unfold jx_P at hP1
    rw [ht1] at hP1
    refine vx_catch (own := "PapersAreOnCats") (name := "java/lang/IllegalStateException") (E := "java/lang/IllegalStateException") hown [] _ [] ht (fun z hz => nomatch hz) rfl (by decide) (hts _ (jm_at_T (i := 855) (by decide +kernel))) (va_Nw.use rfl (hS0.2.2.2.1 _ (List.mem_filter.mpr ⟨List.mem_of_getElem? (i := 874) (by decide +kernel), rfl⟩))) hcell hv hcl ?_
    have hl1 : lv_has ls 6 [(4, .int (nI f)), (3, .ref (ad (1, 1, 0))), (2, .int x), (0, .ref (ad (0, 0, 0))), (1, .int (nI d))] := hl0
    refine lv_astore (cc := prog_1_method_62_code) (i := 5) (lv' := [(5, .ref q9), (4, .int (nI f)), (3, .ref (ad (1, 1, 0))), (2, .int x), (0, .ref (ad (0, 0, 0))), (1, .int (nI d))]) hx hb (by decide +kernel) hl1 (by decide) rfl (fun ls2 hl2 => ?_)
    refine lv_aload_n (cc := prog_1_method_62_code) (k := 3) hx hb (by decide +kernel) rfl (lv_at hl2 2 rfl) ?_
    refine lv_iload (cc := prog_1_method_62_code) hx hb (by decide +kernel) (lv_at hl2 1 rfl) ?_
    obtain ⟨r, hr1, hw1, hfit1, hmx⟩ := gz_ck (own := "PapersAreOnCats") (kd := 3) (fr := 8) (lo := 140) (k := 2) (idx := 375) (n := 1) (ci := 3) (mi := 5) (ps := [939, 942, 940, 944, 940, 39, 956]) (by decide +kernel)
    obtain ⟨nn, u2, h2, hR, rfl, rfl⟩ := tp_5_1 (h := u) hf10
    refine gz_cont (v := .inl (nI f)) (gz_runU hF hr1 hw1 (show gz_fit jx_rT r from hfit1) (k0 := (1, 1, 0)) (as := [.inl (nI f)]) (by decide) rfl rfl (fun v hv => by rw [List.mem_singleton.mp hv]; trivial) hmx hR (by decide +kernel) hl2.1 (by decide) hP1 hD ⟨by decide, by decide⟩) hS1 (fun q h => h) (Or.inl ⟨_, rfl⟩) (fun H2 locs2 hP2 hD2 hS2 => ?_)
    have ea := a1 (fun z => hnz (by rw [z]; rfl))
    rw [← ea]
    exact jx_ret (pc := 55) hFx hP2 hS2 (by decide) (by decide) (by decide +kernel)
  · obtain ⟨rfl, hz⟩ := hp
    have ez : f = 0 := nI_inj (by omega) (by decide) hz
    rw [a0 ez]
    unfold jx_P at hB
    rw [ht1] at hB
    exact jx_15 hFx hB hS1 (by decide) (by decide)
set_option maxHeartbeats 4000000 in
theorem jx_t2 (hl : l.stackTraces = false) (hFx : jm_Fx D cs jx_tM p s m args meth c) (hS0 : jx_S s) (hZ : jx_Z A s s.heap) (hA : ∀ q : Nat, s.heap.size ≤ q → A q) (ht : c.exceptionTable.toList = tableOf [(38, 44, 47, 348)]) (hf10 : f < 10) (hf : jm_Fr D A ad cs s.heap 6 (jx_f41 x d f 2 h) ls H locs) (a0 : f = 0 → ans = -15) (a1 : ¬ f = 0 → ans = nI (f + 100)) : W p l e jx_rT s m args below meth c H locs 0 0 (vx_MQ below (jx_qT D A ad cs h ans) jx_xT args s 1 6 A) (F0 m 41 ls [.int (nI f), .ref (ad (1, 2, 0))]) := by
  obtain ⟨hx, hb, hml, hown, hts, hK, hN, hr, hlocks, hon⟩ := id hFx
  have hF : gz_F D cs "PapersAreOnCats" prog_1_method_62_code 6 p s m args c := ⟨hx, hb, hml, hown, hts, hK, hN⟩
  obtain ⟨hl0, hol, hos, hP, hD, hS⟩ := hf
  have hAH : ∀ q : Nat, H.size ≤ q → A q := fun q hq => hA q (Nat.le_trans hS.1 hq)
  obtain ⟨q0, hq0, hq1⟩ := jm_ws_get (ad := ad) (cs := cs) (h := h) (c := (1, 2, 0)) (by decide)
  have hcu : va_CU jx_rT s args "PapersAreOnCats" "PapersAreOnCats$Tom" "PapersAreOnCats$Cat" 372 ⟨"PapersAreOnCats$Cat", "fail", "(I)V"⟩ ⟨"PapersAreOnCats$Cat", "fail", "(I)V"⟩ prog_2_method_7_code 2 none (.code ⟨"PapersAreOnCats$Cat", "fail", "(I)V"⟩ prog_2_method_7_code 2 none :: jm_T) jx_rF 1 6 1 :=
    ⟨⟨rfl, rfl, by decide, by decide, pay_in hts (fun w hw => (List.mem_cons.mp hw).elim (fun z => by rw [z]; exact ⟨(jm_at_T (i := 871) (w := .code ⟨"PapersAreOnCats$Cat", "fail", "(I)V"⟩ prog_2_method_7_code 2 none) (by decide +kernel)), good_of_word rfl⟩) (fun z => ⟨z, good_of_word (List.mem_filter.mp z).2⟩)), List.mem_cons_self⟩, (hts _ (jm_at_T (i := 871) (w := .code ⟨"PapersAreOnCats$Cat", "fail", "(I)V"⟩ prog_2_method_7_code 2 none) (by decide +kernel))), (hts _ (jm_at_T (i := 39) (by decide +kernel))), ⟨by decide, by decide⟩, jm_len_par (y := ⟨"PapersAreOnCats$Cat", "fail", "(I)V"⟩) (n := 1) (by decide +kernel), (hts _ (jm_at_T (i := 856) (by decide +kernel))), (hts _ (jm_at_T (i := 859) (by decide +kernel))), va_Decl.of (hts _ (jm_at_T (i := 857) (by decide +kernel))) (hts _ (jm_at_T (i := 871) (w := .code ⟨"PapersAreOnCats$Cat", "fail", "(I)V"⟩ prog_2_method_7_code 2 none) (by decide +kernel))), (hts _ (jm_at_T (i := 869) (by decide +kernel))), (hts _ (jm_at_T (i := 857) (by decide +kernel)))⟩
  have hrun := vx_runU (l := l) (e := e) (meth := meth) (locs := locs) (below := below) (cells := 0) (slots := 0) (As := [.int (nI f)]) (rest := []) (g := F0 m 41 ls [.int (nI f), .ref (ad (1, 2, 0))]) ⟨hx, hb, hml, hown, hts⟩ (jx_fail hl D A ad cs h (ad (1, 2, 0)) (nI f)) hcu ⟨jx_blind, va_recv hK hP (ci := 8) rfl hq1, jx_pre hF hS0 hZ hS.2.1 hAH hP hD⟩ rfl rfl hl0.1 rfl (lv_room (by decide)) (show decode prog_1_method_62_code 41 = .ok (.invokevirtual 372, 3) by decide +kernel) ⟨by decide, by decide⟩
  refine vx_callv (a := _) hrun hS (fun q _ h => h) (fun q h => h) (fun q _ h => h) (fun E ce q9 u t H1 locs1 ht1 hal hp hB hz1 hk1 hS1 hcell hv hcl => ?_) (fun u t H1 locs1 ht1 hal hp hB hz1 hk1 hS1 => ?_)
  · obtain ⟨⟨rfl, hnz⟩, hP1⟩ := hB
    have hp : u = h := hp
    subst hp
    unfold jx_P at hP1
    rw [ht1] at hP1
    refine vx_catch (own := "PapersAreOnCats") (name := "java/lang/IllegalStateException") (E := "java/lang/IllegalStateException") hown [] _ [] ht (fun z hz => nomatch hz) rfl (by decide) (hts _ (jm_at_T (i := 855) (by decide +kernel))) (va_Nw.use rfl (hS0.2.2.2.1 _ (List.mem_filter.mpr ⟨List.mem_of_getElem? (i := 874) (by decide +kernel), rfl⟩))) hcell hv hcl ?_
    have hl1 : lv_has ls 6 [(4, .int (nI f)), (3, .ref (ad (1, 2, 0))), (2, .int x), (0, .ref (ad (0, 0, 0))), (1, .int (nI d))] := hl0
    refine lv_astore (cc := prog_1_method_62_code) (i := 5) (lv' := [(5, .ref q9), (4, .int (nI f)), (3, .ref (ad (1, 2, 0))), (2, .int x), (0, .ref (ad (0, 0, 0))), (1, .int (nI d))]) hx hb (by decide +kernel) hl1 (by decide) rfl (fun ls2 hl2 => ?_)
    refine lv_aload_n (cc := prog_1_method_62_code) (k := 3) hx hb (by decide +kernel) rfl (lv_at hl2 2 rfl) ?_
    refine lv_iload (cc := prog_1_method_62_code) hx hb (by decide +kernel) (lv_at hl2 1 rfl) ?_
    obtain ⟨r, hr1, hw1, hfit1, hmx⟩ := gz_ck (own := "PapersAreOnCats") (kd := 3) (fr := 8) (lo := 140) (k := 2) (idx := 375) (n := 1) (ci := 8) (mi := 69) (ps := [939, 942, 940, 951, 952, 41, 956]) (by decide +kernel)
    obtain ⟨nn, u2, h2, hR, rfl, rfl⟩ := tp_69_2 (h := u) hf10
    refine gz_cont (v := .inl (nI (f + 100))) (gz_runU hF hr1 hw1 (show gz_fit jx_rT r from hfit1) (k0 := (1, 2, 0)) (as := [.inl (nI f)]) (by decide) rfl rfl (fun v hv => by rw [List.mem_singleton.mp hv]; trivial) hmx hR (by decide +kernel) hl2.1 (by decide) hP1 hD ⟨by decide, by decide⟩) hS1 (fun q h => h) (Or.inl ⟨_, rfl⟩) (fun H2 locs2 hP2 hD2 hS2 => ?_)
    have ea := a1 (fun z => hnz (by rw [z]; rfl))
    rw [← ea]
    exact jx_ret (pc := 55) hFx hP2 hS2 (by decide) (by decide) (by decide +kernel)
  · obtain ⟨rfl, hz⟩ := hp
    have ez : f = 0 := nI_inj (by omega) (by decide) hz
    rw [a0 ez]
    unfold jx_P at hB
    rw [ht1] at hB
    exact jx_15 hFx hB hS1 (by decide) (by decide)
set_option maxHeartbeats 4000000 in
theorem jx_t3 (hl : l.stackTraces = false) (hFx : jm_Fx D cs jx_tM p s m args meth c) (hS0 : jx_S s) (hZ : jx_Z A s s.heap) (hA : ∀ q : Nat, s.heap.size ≤ q → A q) (ht : c.exceptionTable.toList = tableOf [(38, 44, 47, 348)]) (hf10 : f < 10) (hf : jm_Fr D A ad cs s.heap 6 (jx_f41 x d f 3 h) ls H locs) (a0 : ans = -15) : W p l e jx_rT s m args below meth c H locs 0 0 (vx_MQ below (jx_qT D A ad cs h ans) jx_xT args s 1 6 A) (F0 m 41 ls [.int (nI f), .ref (ad (1, 3, 0))]) := by
  obtain ⟨hx, hb, hml, hown, hts, hK, hN, hr, hlocks, hon⟩ := id hFx
  have hF : gz_F D cs "PapersAreOnCats" prog_1_method_62_code 6 p s m args c := ⟨hx, hb, hml, hown, hts, hK, hN⟩
  obtain ⟨hl0, hol, hos, hP, hD, hS⟩ := hf
  have hAH : ∀ q : Nat, H.size ≤ q → A q := fun q hq => hA q (Nat.le_trans hS.1 hq)
  obtain ⟨q0, hq0, hq1⟩ := jm_ws_get (ad := ad) (cs := cs) (h := h) (c := (1, 3, 0)) (by decide)
  have hcu : va_CU jx_rT s args "PapersAreOnCats" "PapersAreOnCats$White" "PapersAreOnCats$Cat" 372 ⟨"PapersAreOnCats$Cat", "fail", "(I)V"⟩ ⟨"PapersAreOnCats$White", "fail", "(I)V"⟩ prog_12_method_5_code 2 none (.code ⟨"PapersAreOnCats$White", "fail", "(I)V"⟩ prog_12_method_5_code 2 none :: jm_T) { frames := 0, cells := 0, slots := 0, locals := 0 } 0 0 1 :=
    ⟨⟨rfl, rfl, by decide, by decide, pay_in hts (fun w hw => (List.mem_cons.mp hw).elim (fun z => by rw [z]; exact ⟨(jm_at_T (i := 867) (w := .code ⟨"PapersAreOnCats$White", "fail", "(I)V"⟩ prog_12_method_5_code 2 none) (by decide +kernel)), good_of_word rfl⟩) (fun z => ⟨z, good_of_word (List.mem_filter.mp z).2⟩)), List.mem_cons_self⟩, (hts _ (jm_at_T (i := 867) (w := .code ⟨"PapersAreOnCats$White", "fail", "(I)V"⟩ prog_12_method_5_code 2 none) (by decide +kernel))), (hts _ (jm_at_T (i := 42) (by decide +kernel))), ⟨by decide, by decide⟩, jm_len_par (y := ⟨"PapersAreOnCats$Cat", "fail", "(I)V"⟩) (n := 1) (by decide +kernel), (hts _ (jm_at_T (i := 856) (by decide +kernel))), (hts _ (jm_at_T (i := 859) (by decide +kernel))), va_Decl.of (hts _ (jm_at_T (i := 857) (by decide +kernel))) (hts _ (jm_at_T (i := 871) (w := .code ⟨"PapersAreOnCats$Cat", "fail", "(I)V"⟩ prog_2_method_7_code 2 none) (by decide +kernel))), (hts _ (jm_at_T (i := 870) (by decide +kernel))), (hts _ (jm_at_T (i := 866) (by decide +kernel)))⟩
  have hrun := va_runU (l := l) (e := e) (meth := meth) (locs := locs) (below := below) (cells := 0) (slots := 0) (As := [.int (nI f)]) (rest := []) (g := F0 m 41 ls [.int (nI f), .ref (ad (1, 3, 0))]) ⟨hx, hb, hml, hown, hts⟩ (jx_failWhite (l := l) D A ad cs h (ad (1, 3, 0)) (nI f)) hcu ⟨jx_blind, va_recv hK hP (ci := 9) rfl hq1, jx_pre hF hS0 hZ hS.2.1 hAH hP hD⟩ rfl rfl hl0.1 rfl (lv_room (by decide)) (show decode prog_1_method_62_code 41 = .ok (.invokevirtual 372, 3) by decide +kernel) ⟨by decide, by decide⟩
  refine va_callv (a := _) hrun hS (fun q _ h => h) (fun q h => h) (fun u t H1 locs1 ht1 hal hp hB hz1 hk1 hS1 => ?_)
  obtain ⟨rfl, hz⟩ := hp
  rw [a0]
  unfold jx_P at hB
  rw [ht1] at hB
  exact jx_15 hFx hB hS1 (by decide) (by decide)
set_option maxHeartbeats 4000000 in
theorem jx_t4 (hl : l.stackTraces = false) (hFx : jm_Fx D cs jx_tM p s m args meth c) (hS0 : jx_S s) (hZ : jx_Z A s s.heap) (hA : ∀ q : Nat, s.heap.size ≤ q → A q) (ht : c.exceptionTable.toList = tableOf [(38, 44, 47, 348)]) (hf10 : f < 10) (hf : jm_Fr D A ad cs s.heap 6 (jx_f41 x d f 4 h) ls H locs) (a0 : f = 0 → ans = -15) (a1 : ¬ f = 0 → ans = nI f) : W p l e jx_rT s m args below meth c H locs 0 0 (vx_MQ below (jx_qT D A ad cs h ans) jx_xT args s 1 6 A) (F0 m 41 ls [.int (nI f), .ref (ad (1, 4, 0))]) := by
  obtain ⟨hx, hb, hml, hown, hts, hK, hN, hr, hlocks, hon⟩ := id hFx
  have hF : gz_F D cs "PapersAreOnCats" prog_1_method_62_code 6 p s m args c := ⟨hx, hb, hml, hown, hts, hK, hN⟩
  obtain ⟨hl0, hol, hos, hP, hD, hS⟩ := hf
  have hAH : ∀ q : Nat, H.size ≤ q → A q := fun q hq => hA q (Nat.le_trans hS.1 hq)
  obtain ⟨q0, hq0, hq1⟩ := jm_ws_get (ad := ad) (cs := cs) (h := h) (c := (1, 4, 0)) (by decide)
  have hcu : va_CU jx_rT s args "PapersAreOnCats" "PapersAreOnCats$Kitten" "PapersAreOnCats$Cat" 372 ⟨"PapersAreOnCats$Cat", "fail", "(I)V"⟩ ⟨"PapersAreOnCats$Cat", "fail", "(I)V"⟩ prog_2_method_7_code 2 none (.code ⟨"PapersAreOnCats$Cat", "fail", "(I)V"⟩ prog_2_method_7_code 2 none :: jm_T) jx_rF 1 6 1 :=
    ⟨⟨rfl, rfl, by decide, by decide, pay_in hts (fun w hw => (List.mem_cons.mp hw).elim (fun z => by rw [z]; exact ⟨(jm_at_T (i := 871) (w := .code ⟨"PapersAreOnCats$Cat", "fail", "(I)V"⟩ prog_2_method_7_code 2 none) (by decide +kernel)), good_of_word rfl⟩) (fun z => ⟨z, good_of_word (List.mem_filter.mp z).2⟩)), List.mem_cons_self⟩, (hts _ (jm_at_T (i := 871) (w := .code ⟨"PapersAreOnCats$Cat", "fail", "(I)V"⟩ prog_2_method_7_code 2 none) (by decide +kernel))), (hts _ (jm_at_T (i := 39) (by decide +kernel))), ⟨by decide, by decide⟩, jm_len_par (y := ⟨"PapersAreOnCats$Cat", "fail", "(I)V"⟩) (n := 1) (by decide +kernel), (hts _ (jm_at_T (i := 856) (by decide +kernel))), (hts _ (jm_at_T (i := 859) (by decide +kernel))), va_Decl.of (hts _ (jm_at_T (i := 857) (by decide +kernel))) (hts _ (jm_at_T (i := 871) (w := .code ⟨"PapersAreOnCats$Cat", "fail", "(I)V"⟩ prog_2_method_7_code 2 none) (by decide +kernel))), (hts _ (jm_at_T (i := 860) (by decide +kernel))), (hts _ (jm_at_T (i := 857) (by decide +kernel)))⟩
  have hrun := vx_runU (l := l) (e := e) (meth := meth) (locs := locs) (below := below) (cells := 0) (slots := 0) (As := [.int (nI f)]) (rest := []) (g := F0 m 41 ls [.int (nI f), .ref (ad (1, 4, 0))]) ⟨hx, hb, hml, hown, hts⟩ (jx_fail hl D A ad cs h (ad (1, 4, 0)) (nI f)) hcu ⟨jx_blind, va_recv hK hP (ci := 2) rfl hq1, jx_pre hF hS0 hZ hS.2.1 hAH hP hD⟩ rfl rfl hl0.1 rfl (lv_room (by decide)) (show decode prog_1_method_62_code 41 = .ok (.invokevirtual 372, 3) by decide +kernel) ⟨by decide, by decide⟩
  refine vx_callv (a := _) hrun hS (fun q _ h => h) (fun q h => h) (fun q _ h => h) (fun E ce q9 u t H1 locs1 ht1 hal hp hB hz1 hk1 hS1 hcell hv hcl => ?_) (fun u t H1 locs1 ht1 hal hp hB hz1 hk1 hS1 => ?_)
  · obtain ⟨⟨rfl, hnz⟩, hP1⟩ := hB
    have hp : u = h := hp
    subst hp
    unfold jx_P at hP1
    rw [ht1] at hP1
    refine vx_catch (own := "PapersAreOnCats") (name := "java/lang/IllegalStateException") (E := "java/lang/IllegalStateException") hown [] _ [] ht (fun z hz => nomatch hz) rfl (by decide) (hts _ (jm_at_T (i := 855) (by decide +kernel))) (va_Nw.use rfl (hS0.2.2.2.1 _ (List.mem_filter.mpr ⟨List.mem_of_getElem? (i := 874) (by decide +kernel), rfl⟩))) hcell hv hcl ?_
    have hl1 : lv_has ls 6 [(4, .int (nI f)), (3, .ref (ad (1, 4, 0))), (2, .int x), (0, .ref (ad (0, 0, 0))), (1, .int (nI d))] := hl0
    refine lv_astore (cc := prog_1_method_62_code) (i := 5) (lv' := [(5, .ref q9), (4, .int (nI f)), (3, .ref (ad (1, 4, 0))), (2, .int x), (0, .ref (ad (0, 0, 0))), (1, .int (nI d))]) hx hb (by decide +kernel) hl1 (by decide) rfl (fun ls2 hl2 => ?_)
    refine lv_aload_n (cc := prog_1_method_62_code) (k := 3) hx hb (by decide +kernel) rfl (lv_at hl2 2 rfl) ?_
    refine lv_iload (cc := prog_1_method_62_code) hx hb (by decide +kernel) (lv_at hl2 1 rfl) ?_
    obtain ⟨r, hr1, hw1, hfit1, hmx⟩ := gz_ck (own := "PapersAreOnCats") (kd := 3) (fr := 8) (lo := 140) (k := 2) (idx := 375) (n := 1) (ci := 2) (mi := 5) (ps := [939, 942, 940, 943, 940, 39, 956]) (by decide +kernel)
    obtain ⟨nn, u2, h2, hR, rfl, rfl⟩ := tp_5_4 (h := u) hf10
    refine gz_cont (v := .inl (nI f)) (gz_runU hF hr1 hw1 (show gz_fit jx_rT r from hfit1) (k0 := (1, 4, 0)) (as := [.inl (nI f)]) (by decide) rfl rfl (fun v hv => by rw [List.mem_singleton.mp hv]; trivial) hmx hR (by decide +kernel) hl2.1 (by decide) hP1 hD ⟨by decide, by decide⟩) hS1 (fun q h => h) (Or.inl ⟨_, rfl⟩) (fun H2 locs2 hP2 hD2 hS2 => ?_)
    have ea := a1 (fun z => hnz (by rw [z]; rfl))
    rw [← ea]
    exact jx_ret (pc := 55) hFx hP2 hS2 (by decide) (by decide) (by decide +kernel)
  · obtain ⟨rfl, hz⟩ := hp
    have ez : f = 0 := nI_inj (by omega) (by decide) hz
    rw [a0 ez]
    unfold jx_P at hB
    rw [ht1] at hB
    exact jx_15 hFx hB hS1 (by decide) (by decide)
set_option maxHeartbeats 4000000 in
theorem jx_t5 (hl : l.stackTraces = false) (hFx : jm_Fx D cs jx_tM p s m args meth c) (hS0 : jx_S s) (hZ : jx_Z A s s.heap) (hA : ∀ q : Nat, s.heap.size ≤ q → A q) (ht : c.exceptionTable.toList = tableOf [(38, 44, 47, 348)]) (hf10 : f < 10) (hf : jm_Fr D A ad cs s.heap 6 (jx_f41 x d f 5 h) ls H locs) (a0 : ans = -15) : W p l e jx_rT s m args below meth c H locs 0 0 (vx_MQ below (jx_qT D A ad cs h ans) jx_xT args s 1 6 A) (F0 m 41 ls [.int (nI f), .ref (ad (1, 5, 0))]) := by
  obtain ⟨hx, hb, hml, hown, hts, hK, hN, hr, hlocks, hon⟩ := id hFx
  have hF : gz_F D cs "PapersAreOnCats" prog_1_method_62_code 6 p s m args c := ⟨hx, hb, hml, hown, hts, hK, hN⟩
  obtain ⟨hl0, hol, hos, hP, hD, hS⟩ := hf
  have hAH : ∀ q : Nat, H.size ≤ q → A q := fun q hq => hA q (Nat.le_trans hS.1 hq)
  obtain ⟨q0, hq0, hq1⟩ := jm_ws_get (ad := ad) (cs := cs) (h := h) (c := (1, 5, 0)) (by decide)
  have hcu : va_CU jx_rT s args "PapersAreOnCats" "PapersAreOnCats$Shell" "PapersAreOnCats$Cat" 372 ⟨"PapersAreOnCats$Cat", "fail", "(I)V"⟩ ⟨"PapersAreOnCats$White", "fail", "(I)V"⟩ prog_12_method_5_code 2 none (.code ⟨"PapersAreOnCats$White", "fail", "(I)V"⟩ prog_12_method_5_code 2 none :: jm_T) { frames := 0, cells := 0, slots := 0, locals := 0 } 0 0 1 :=
    ⟨⟨rfl, rfl, by decide, by decide, pay_in hts (fun w hw => (List.mem_cons.mp hw).elim (fun z => by rw [z]; exact ⟨(jm_at_T (i := 867) (w := .code ⟨"PapersAreOnCats$White", "fail", "(I)V"⟩ prog_12_method_5_code 2 none) (by decide +kernel)), good_of_word rfl⟩) (fun z => ⟨z, good_of_word (List.mem_filter.mp z).2⟩)), List.mem_cons_self⟩, (hts _ (jm_at_T (i := 867) (w := .code ⟨"PapersAreOnCats$White", "fail", "(I)V"⟩ prog_12_method_5_code 2 none) (by decide +kernel))), (hts _ (jm_at_T (i := 42) (by decide +kernel))), ⟨by decide, by decide⟩, jm_len_par (y := ⟨"PapersAreOnCats$Cat", "fail", "(I)V"⟩) (n := 1) (by decide +kernel), (hts _ (jm_at_T (i := 856) (by decide +kernel))), (hts _ (jm_at_T (i := 859) (by decide +kernel))), va_Decl.of (hts _ (jm_at_T (i := 857) (by decide +kernel))) (hts _ (jm_at_T (i := 871) (w := .code ⟨"PapersAreOnCats$Cat", "fail", "(I)V"⟩ prog_2_method_7_code 2 none) (by decide +kernel))), (hts _ (jm_at_T (i := 865) (by decide +kernel))), (hts _ (jm_at_T (i := 866) (by decide +kernel)))⟩
  have hrun := va_runU (l := l) (e := e) (meth := meth) (locs := locs) (below := below) (cells := 0) (slots := 0) (As := [.int (nI f)]) (rest := []) (g := F0 m 41 ls [.int (nI f), .ref (ad (1, 5, 0))]) ⟨hx, hb, hml, hown, hts⟩ (jx_failWhite (l := l) D A ad cs h (ad (1, 5, 0)) (nI f)) hcu ⟨jx_blind, va_recv hK hP (ci := 6) rfl hq1, jx_pre hF hS0 hZ hS.2.1 hAH hP hD⟩ rfl rfl hl0.1 rfl (lv_room (by decide)) (show decode prog_1_method_62_code 41 = .ok (.invokevirtual 372, 3) by decide +kernel) ⟨by decide, by decide⟩
  refine va_callv (a := _) hrun hS (fun q _ h => h) (fun q h => h) (fun u t H1 locs1 ht1 hal hp hB hz1 hk1 hS1 => ?_)
  obtain ⟨rfl, hz⟩ := hp
  rw [a0]
  unfold jx_P at hB
  rw [ht1] at hB
  exact jx_15 hFx hB hS1 (by decide) (by decide)
set_option maxHeartbeats 4000000 in
theorem jx_t6 (hl : l.stackTraces = false) (hFx : jm_Fx D cs jx_tM p s m args meth c) (hS0 : jx_S s) (hZ : jx_Z A s s.heap) (hA : ∀ q : Nat, s.heap.size ≤ q → A q) (ht : c.exceptionTable.toList = tableOf [(38, 44, 47, 348)]) (hf10 : f < 10) (hf : jm_Fr D A ad cs s.heap 6 (jx_f41 x d f 6 h) ls H locs) (a0 : f = 0 → ans = -15) (a1 : ¬ f = 0 → ans = nI (200 + (2 + f))) : W p l e jx_rT s m args below meth c H locs 0 0 (vx_MQ below (jx_qT D A ad cs h ans) jx_xT args s 1 6 A) (F0 m 41 ls [.int (nI f), .ref (ad (1, 6, 0))]) := by
  obtain ⟨hx, hb, hml, hown, hts, hK, hN, hr, hlocks, hon⟩ := id hFx
  have hF : gz_F D cs "PapersAreOnCats" prog_1_method_62_code 6 p s m args c := ⟨hx, hb, hml, hown, hts, hK, hN⟩
  obtain ⟨hl0, hol, hos, hP, hD, hS⟩ := hf
  have hAH : ∀ q : Nat, H.size ≤ q → A q := fun q hq => hA q (Nat.le_trans hS.1 hq)
  obtain ⟨q0, hq0, hq1⟩ := jm_ws_get (ad := ad) (cs := cs) (h := h) (c := (1, 6, 0)) (by decide)
  have hcu : va_CU jx_rT s args "PapersAreOnCats" "PapersAreOnCats$Spy" "PapersAreOnCats$Cat" 372 ⟨"PapersAreOnCats$Cat", "fail", "(I)V"⟩ ⟨"PapersAreOnCats$Cat", "fail", "(I)V"⟩ prog_2_method_7_code 2 none (.code ⟨"PapersAreOnCats$Cat", "fail", "(I)V"⟩ prog_2_method_7_code 2 none :: jm_T) jx_rF 1 6 1 :=
    ⟨⟨rfl, rfl, by decide, by decide, pay_in hts (fun w hw => (List.mem_cons.mp hw).elim (fun z => by rw [z]; exact ⟨(jm_at_T (i := 871) (w := .code ⟨"PapersAreOnCats$Cat", "fail", "(I)V"⟩ prog_2_method_7_code 2 none) (by decide +kernel)), good_of_word rfl⟩) (fun z => ⟨z, good_of_word (List.mem_filter.mp z).2⟩)), List.mem_cons_self⟩, (hts _ (jm_at_T (i := 871) (w := .code ⟨"PapersAreOnCats$Cat", "fail", "(I)V"⟩ prog_2_method_7_code 2 none) (by decide +kernel))), (hts _ (jm_at_T (i := 39) (by decide +kernel))), ⟨by decide, by decide⟩, jm_len_par (y := ⟨"PapersAreOnCats$Cat", "fail", "(I)V"⟩) (n := 1) (by decide +kernel), (hts _ (jm_at_T (i := 856) (by decide +kernel))), (hts _ (jm_at_T (i := 859) (by decide +kernel))), va_Decl.of (hts _ (jm_at_T (i := 857) (by decide +kernel))) (hts _ (jm_at_T (i := 871) (w := .code ⟨"PapersAreOnCats$Cat", "fail", "(I)V"⟩ prog_2_method_7_code 2 none) (by decide +kernel))), (hts _ (jm_at_T (i := 868) (by decide +kernel))), (hts _ (jm_at_T (i := 857) (by decide +kernel)))⟩
  have hrun := vx_runU (l := l) (e := e) (meth := meth) (locs := locs) (below := below) (cells := 0) (slots := 0) (As := [.int (nI f)]) (rest := []) (g := F0 m 41 ls [.int (nI f), .ref (ad (1, 6, 0))]) ⟨hx, hb, hml, hown, hts⟩ (jx_fail hl D A ad cs h (ad (1, 6, 0)) (nI f)) hcu ⟨jx_blind, va_recv hK hP (ci := 7) rfl hq1, jx_pre hF hS0 hZ hS.2.1 hAH hP hD⟩ rfl rfl hl0.1 rfl (lv_room (by decide)) (show decode prog_1_method_62_code 41 = .ok (.invokevirtual 372, 3) by decide +kernel) ⟨by decide, by decide⟩
  refine vx_callv (a := _) hrun hS (fun q _ h => h) (fun q h => h) (fun q _ h => h) (fun E ce q9 u t H1 locs1 ht1 hal hp hB hz1 hk1 hS1 hcell hv hcl => ?_) (fun u t H1 locs1 ht1 hal hp hB hz1 hk1 hS1 => ?_)
  · obtain ⟨⟨rfl, hnz⟩, hP1⟩ := hB
    have hp : u = h := hp
    subst hp
    unfold jx_P at hP1
    rw [ht1] at hP1
    refine vx_catch (own := "PapersAreOnCats") (name := "java/lang/IllegalStateException") (E := "java/lang/IllegalStateException") hown [] _ [] ht (fun z hz => nomatch hz) rfl (by decide) (hts _ (jm_at_T (i := 855) (by decide +kernel))) (va_Nw.use rfl (hS0.2.2.2.1 _ (List.mem_filter.mpr ⟨List.mem_of_getElem? (i := 874) (by decide +kernel), rfl⟩))) hcell hv hcl ?_
    have hl1 : lv_has ls 6 [(4, .int (nI f)), (3, .ref (ad (1, 6, 0))), (2, .int x), (0, .ref (ad (0, 0, 0))), (1, .int (nI d))] := hl0
    refine lv_astore (cc := prog_1_method_62_code) (i := 5) (lv' := [(5, .ref q9), (4, .int (nI f)), (3, .ref (ad (1, 6, 0))), (2, .int x), (0, .ref (ad (0, 0, 0))), (1, .int (nI d))]) hx hb (by decide +kernel) hl1 (by decide) rfl (fun ls2 hl2 => ?_)
    refine lv_aload_n (cc := prog_1_method_62_code) (k := 3) hx hb (by decide +kernel) rfl (lv_at hl2 2 rfl) ?_
    refine lv_iload (cc := prog_1_method_62_code) hx hb (by decide +kernel) (lv_at hl2 1 rfl) ?_
    obtain ⟨r, hr1, hw1, hfit1, hmx⟩ := gz_ck (own := "PapersAreOnCats") (kd := 3) (fr := 8) (lo := 140) (k := 2) (idx := 375) (n := 1) (ci := 7) (mi := 55) (ps := [939, 942, 940, 947, 948, 45, 956]) (by decide +kernel)
    obtain ⟨nn, u2, h2, hR, rfl, rfl⟩ := tp_55_6 (h := u) hf10
    refine gz_cont (v := .inl (nI (200 + (2 + f)))) (gz_runU hF hr1 hw1 (show gz_fit jx_rT r from hfit1) (k0 := (1, 6, 0)) (as := [.inl (nI f)]) (by decide) rfl rfl (fun v hv => by rw [List.mem_singleton.mp hv]; trivial) hmx hR (by decide +kernel) hl2.1 (by decide) hP1 hD ⟨by decide, by decide⟩) hS1 (fun q h => h) (Or.inl ⟨_, rfl⟩) (fun H2 locs2 hP2 hD2 hS2 => ?_)
    have ea := a1 (fun z => hnz (by rw [z]; rfl))
    rw [← ea]
    exact jx_ret (pc := 55) hFx hP2 hS2 (by decide) (by decide) (by decide +kernel)
  · obtain ⟨rfl, hz⟩ := hp
    have ez : f = 0 := nI_inj (by omega) (by decide) hz
    rw [a0 ez]
    unfold jx_P at hB
    rw [ht1] at hB
    exact jx_15 hFx hB hS1 (by decide) (by decide)
set_option maxHeartbeats 4000000 in
theorem jx_t7 (hl : l.stackTraces = false) (hFx : jm_Fx D cs jx_tM p s m args meth c) (hS0 : jx_S s) (hZ : jx_Z A s s.heap) (hA : ∀ q : Nat, s.heap.size ≤ q → A q) (ht : c.exceptionTable.toList = tableOf [(38, 44, 47, 348)]) (hf10 : f < 10) (hf : jm_Fr D A ad cs s.heap 6 (jx_f41 x d f 7 h) ls H locs) (a0 : ans = -15) : W p l e jx_rT s m args below meth c H locs 0 0 (vx_MQ below (jx_qT D A ad cs h ans) jx_xT args s 1 6 A) (F0 m 41 ls [.int (nI f), .ref (ad (1, 7, 0))]) := by
  obtain ⟨hx, hb, hml, hown, hts, hK, hN, hr, hlocks, hon⟩ := id hFx
  have hF : gz_F D cs "PapersAreOnCats" prog_1_method_62_code 6 p s m args c := ⟨hx, hb, hml, hown, hts, hK, hN⟩
  obtain ⟨hl0, hol, hos, hP, hD, hS⟩ := hf
  have hAH : ∀ q : Nat, H.size ≤ q → A q := fun q hq => hA q (Nat.le_trans hS.1 hq)
  obtain ⟨q0, hq0, hq1⟩ := jm_ws_get (ad := ad) (cs := cs) (h := h) (c := (1, 7, 0)) (by decide)
  have hcu : va_CU jx_rT s args "PapersAreOnCats" "PapersAreOnCats$Old" "PapersAreOnCats$Cat" 372 ⟨"PapersAreOnCats$Cat", "fail", "(I)V"⟩ ⟨"PapersAreOnCats$Old", "fail", "(I)V"⟩ prog_6_method_4_code 2 none (.code ⟨"PapersAreOnCats$Old", "fail", "(I)V"⟩ prog_6_method_4_code 2 none :: jm_T) { frames := 0, cells := 0, slots := 0, locals := 0 } 0 0 1 :=
    ⟨⟨rfl, rfl, by decide, by decide, pay_in hts (fun w hw => (List.mem_cons.mp hw).elim (fun z => by rw [z]; exact ⟨(jm_at_T (i := 864) (w := .code ⟨"PapersAreOnCats$Old", "fail", "(I)V"⟩ prog_6_method_4_code 2 none) (by decide +kernel)), good_of_word rfl⟩) (fun z => ⟨z, good_of_word (List.mem_filter.mp z).2⟩)), List.mem_cons_self⟩, (hts _ (jm_at_T (i := 864) (w := .code ⟨"PapersAreOnCats$Old", "fail", "(I)V"⟩ prog_6_method_4_code 2 none) (by decide +kernel))), (hts _ (jm_at_T (i := 46) (by decide +kernel))), ⟨by decide, by decide⟩, jm_len_par (y := ⟨"PapersAreOnCats$Cat", "fail", "(I)V"⟩) (n := 1) (by decide +kernel), (hts _ (jm_at_T (i := 856) (by decide +kernel))), (hts _ (jm_at_T (i := 859) (by decide +kernel))), va_Decl.of (hts _ (jm_at_T (i := 857) (by decide +kernel))) (hts _ (jm_at_T (i := 871) (w := .code ⟨"PapersAreOnCats$Cat", "fail", "(I)V"⟩ prog_2_method_7_code 2 none) (by decide +kernel))), (hts _ (jm_at_T (i := 862) (by decide +kernel))), (hts _ (jm_at_T (i := 863) (by decide +kernel)))⟩
  have hrun := va_runU (l := l) (e := e) (meth := meth) (locs := locs) (below := below) (cells := 0) (slots := 0) (As := [.int (nI f)]) (rest := []) (g := F0 m 41 ls [.int (nI f), .ref (ad (1, 7, 0))]) ⟨hx, hb, hml, hown, hts⟩ (jx_failOld (l := l) D A ad cs h (ad (1, 7, 0)) (nI f)) hcu ⟨jx_blind, va_recv hK hP (ci := 4) rfl hq1, jx_pre hF hS0 hZ hS.2.1 hAH hP hD⟩ rfl rfl hl0.1 rfl (lv_room (by decide)) (show decode prog_1_method_62_code 41 = .ok (.invokevirtual 372, 3) by decide +kernel) ⟨by decide, by decide⟩
  refine va_callv (a := _) hrun hS (fun q _ h => h) (fun q h => h) (fun u t H1 locs1 ht1 hal hp hB hz1 hk1 hS1 => ?_)
  obtain ⟨rfl, hz⟩ := hp
  rw [a0]
  unfold jx_P at hB
  rw [ht1] at hB
  exact jx_15 hFx hB hS1 (by decide) (by decide)
set_option maxHeartbeats 4000000 in
theorem jx_toss {l : Launch} (hl : l.stackTraces = false) (D : va_G) (A : Nat → Prop) (ad : jm_K → Nat) (cs : Nat → ClassId) {h : jm_M} {sh : Nat → Nat → Nat} {el : Nat → Nat → Int32} (K : jk_rel h sh el) (Y : kw sh) (x : Int32) :
    vx_Met l ⟨"PapersAreOnCats", "toss", "(I)I"⟩ (.codeWith ⟨"PapersAreOnCats", "toss", "(I)I"⟩ prog_1_method_62_code 6 (some .int) [(38, 44, 47, 348)] :: jm_T) jx_rT (va_Pc [.ref (ad (0, 0, 0)), .int x] (jx_Wd D A ad cs h)) (jx_qT D A ad cs h (za_toss sh x)) jx_xT 1 6 A := by
  refine vx_ofWH (cc := prog_1_method_62_code) (maxL := 6) (ret := some .int) (hh := [(38, 44, 47, 348)]) (by decide) rfl ?_
  intro p e s m args below meth c s₁ B hml hv
  obtain ⟨rfl, ⟨hP, hK, hD, hN⟩, hA, hZ, hS0⟩ := hv
  have hpre := atoms_spec (ws := Cond.codeWith ⟨"PapersAreOnCats", "toss", "(I)I"⟩ prog_1_method_62_code 6 (some .int) [(38, 44, 47, 348)] :: jm_T) B.pre
  have ht := vx_table (x := ⟨"", "", ""⟩) B (hpre _ List.mem_cons_self)
  have hx := B.exec
  have hb := B.bytes
  have hown : s.vm.findClass "PapersAreOnCats" = some m.cls := findClass_of_methodNamed B.named
  have hts : ∀ w ∈ jm_T, w.before #[Value.ref (ad (0, 0, 0)), .int x] s = true := fun w hw => hpre w (List.mem_cons_of_mem _ hw)
  have hlocks := B.notSynchronized
  have hF : gz_F D cs "PapersAreOnCats" prog_1_method_62_code 6 p s m #[Value.ref (ad (0, 0, 0)), .int x] c := ⟨hx, hb, hml, hown, hts, hK, hN⟩
  have hFx : jm_Fx D cs jx_tM p s m #[Value.ref (ad (0, 0, 0)), .int x] meth c := ⟨hx, hb, hml, hown, hts, hK, hN, B.returns, hlocks, rfl⟩
  rw [lg_entry_eq]
  have hl0 := lv_entry ([Value.ref (ad (0, 0, 0)), .int x]) (n := 6) (Nat.le_of_ble_eq_true rfl)
  generalize (lg_sl ([Value.ref (ad (0, 0, 0)), .int x]) ++ List.replicate (6 - (lg_sl ([Value.ref (ad (0, 0, 0)), .int x])).length) Slot.unset).toArray = ls at hl0 ⊢
  have hok0 : jm_okl ([(0, .inr (.inr (0, 0, 0))), (1, .inl x)] : jm_L) := fun q hq => by
    rcases List.mem_cons.mp hq with rfl | hq
    · show (0, 0, 0) ∈ jm_ks; decide
    · rw [List.mem_singleton.mp hq]; trivial
  have hf : jm_Fr D A ad cs s.heap 6 (0, [(0, .inr (.inr (0, 0, 0))), (1, .inl x)], [], h) ls s.heap [] := ⟨hl0, hok0, jm_oks_nil, hP, hD, va_S.rf⟩
  refine gz_go (l := l) (e := e) (below := below) (f := (0, [(0, .inr (.inr (0, 0, 0))), (1, .inl x)], [], h)) hFx [(0, .aload_n 0, 1, 0), (1, .iload_n 1, 1, 0)] 2 (2, [(0, .inr (.inr (0, 0, 0))), (1, .inl x)], [.inl x, .inr (.inr (0, 0, 0))], h) True ls s.heap [] (by decide +kernel) rfl trivial hf (fun ls1 H1 locs1 hf1 => ?_)
  obtain ⟨r, hr1, hw1, hfit1, hmx⟩ := gz_ck (own := "PapersAreOnCats") (kd := 2) (fr := 8) (lo := 140) (k := 2) (idx := 153) (n := 1) (ci := 10) (mi := 134) (ps := [520, 522, 5, 38]) (by decide +kernel)
  obtain ⟨nn, u2, h2, hR, rfl, rfl⟩ := tk_kind K Y (x := x)
  refine gz_cont (v := .inl (zr_h 1 sh x)) (gz_runV (rest := []) hF hr1 hw1 (show gz_fit jx_rT r from hfit1) (k0 := (0, 0, 0)) (as := [.inl x]) (by decide) rfl rfl (fun v hv => by rw [List.mem_singleton.mp hv]; trivial) hmx hR (show decode prog_1_method_62_code 2 = .ok (.invokevirtual 153, 3) by decide +kernel) hf1.1.1 (by decide) hf1.2.2.2.1 hf1.2.2.2.2.1 ⟨by decide, by decide⟩) hf1.2.2.2.2.2 (fun q h => h) (Or.inl ⟨_, rfl⟩) (fun H2 locs2 hP2 hD2 hS2 => ?_)
  have hf2 : jm_Fr D A ad cs s.heap 6 (5, [(0, .inr (.inr (0, 0, 0))), (1, .inl x)], [.inl (zr_h 1 sh x)], h2) ls1 H2 locs2 := ⟨hf1.1, hok0, fun v hv => by rw [List.mem_singleton.mp hv]; trivial, hP2, hD2, hS2⟩
  refine gz_go (l := l) (e := e) (below := below) (f := (5, [(0, .inr (.inr (0, 0, 0))), (1, .inl x)], [.inl (zr_h 1 sh x)], h2)) hFx [(5, .istore_n 2, 1, 0), (6, .iload_n 2, 1, 0)] 2 (7, [(2, .inl (zr_h 1 sh x)), (0, .inr (.inr (0, 0, 0))), (1, .inl x)], [.inl (zr_h 1 sh x)], h2) True ls1 H2 locs2 (by decide +kernel) rfl trivial hf2 (fun ls3 H3 locs3 hf3 => ?_)
  have hl3 : lv_has ls3 6 [(2, .int (zr_h 1 sh x)), (0, .ref (ad (0, 0, 0))), (1, .int x)] := hf3.1
  refine lv_if_eq (cc := prog_1_method_62_code) (pc := 7) (off := 5) (tgt := 12) hx hb (by decide +kernel) (by decide) (fun cz => ?_) (fun cz => ?_)
  · rcases zr_cs (x := x) Y (Or.inl rfl) with ⟨qn, q0⟩ | ⟨d, hd, rfl, qa, q0⟩ | ⟨d, hd, rfl, qa, q0⟩ | ⟨d, hd, rfl, qa, q0⟩
    · rw [q0] at cz; exact absurd cz (by decide)
    · rw [q0] at cz; exact absurd cz (by decide)
    · rw [q0] at cz; exact absurd cz (by decide)
    · have e1 : (nI d).toNatClampNeg = d := nI_clamp (by omega)
      have ek := jk_kind K (d := d) (by omega) qa
      have ef := jk_fig K (d := d) (by omega) qa
      have k8 := kw_k Y (d := d) (by omega) qa
      have f10 := kw_f Y (d := d) (by omega) qa
      have hf4 : jm_Fr D A ad cs s.heap 6 (12, [(2, .inl (zr_h 1 sh (nI d))), (0, .inr (.inr (0, 0, 0))), (1, .inl (nI d))], [], h2) ls3 H3 locs3 := ⟨hf3.1, hf3.2.1, jm_oks_nil, hf3.2.2.2⟩
      refine gz_go (l := l) (e := e) (below := below) (f := (12, [(2, .inl (zr_h 1 sh (nI d))), (0, .inr (.inr (0, 0, 0))), (1, .inl (nI d))], [], h2)) hFx [(12, .aload_n 0, 1, 0), (13, .getfield 43, 3, 0), (16, .aload_n 0, 1, 0), (17, .getfield 11, 3, 0), (20, .iload_n 1, 1, 0), (21, .aaload, 1, 0), (22, .getfield 156, 3, 0), (25, .aaload, 1, 0), (26, .astore_n 3, 1, 0), (27, .aload_n 0, 1, 0), (28, .getfield 11, 3, 0), (31, .iload_n 1, 1, 0), (32, .aaload, 1, 0), (33, .getfield 158, 3, 0), (36, .istore 4, 2, 0), (38, .aload_n 3, 1, 0), (39, .iload 4, 2, 0)] 17 (41, [(4, .inl (h2 (3, (nI d).toNatClampNeg, 0) 2)), (3, .inr (.inr (1, (h2 (3, (nI d).toNatClampNeg, 0) 1).toNatClampNeg, 0))), (2, .inl (zr_h 1 sh (nI d))), (0, .inr (.inr (0, 0, 0))), (1, .inl (nI d))], [.inl (h2 (3, (nI d).toNatClampNeg, 0) 2), .inr (.inr (1, (h2 (3, (nI d).toNatClampNeg, 0) 1).toNatClampNeg, 0))], h2) (vp_in (nI d) 8 ∧ vp_in (h2 (3, (nI d).toNatClampNeg, 0) 1) 8 ∧ vp_in (nI d) 8 ∧ True) ls3 H3 locs3 (by decide +kernel) rfl ⟨vp_in_nI (by omega) (by decide), by rw [e1, ek]; exact vp_in_nI (by omega) (by decide), vp_in_nI (by omega) (by decide), trivial⟩ hf4 (fun ls5 H5 locs5 hf5 => ?_)
      rw [e1, ek, ef, nI_clamp (by omega)] at hf5 ⊢
      have zt : za_toss sh (nI d) = (if sh d 1 = 3 ∨ sh d 1 = 5 ∨ sh d 1 = 7 ∨ sh d 2 = 0 then (-15) else if sh d 1 = 6 then nI (200 + sp_cost 6 (sh d 2)) else if sh d 1 = 2 then nI (100 + sh d 2) else nI (sh d 2)) := by
        unfold za_toss
        rw [if_pos q0, e1]
      obtain ⟨k, hk⟩ : ∃ k, k = sh d 1 := ⟨_, rfl⟩
      obtain ⟨f, hff⟩ : ∃ f, f = sh d 2 := ⟨_, rfl⟩
      rw [← hk, ← hff] at zt hf5 ⊢
      rw [← hk] at k8
      rw [← hff] at f10
      rcases jt_k8 k8 with rfl | rfl | rfl | rfl | rfl | rfl | rfl | rfl
      · exact jx_t0 hl hFx hS0 hZ hA ht f10 hf5 (fun z => by rw [zt, if_pos (by omega)]) (fun z => by rw [zt, if_neg (by omega), if_neg (by decide), if_neg (by decide)])
      · exact jx_t1 hl hFx hS0 hZ hA ht f10 hf5 (fun z => by rw [zt, if_pos (by omega)]) (fun z => by rw [zt, if_neg (by omega), if_neg (by decide), if_neg (by decide)])
      · exact jx_t2 hl hFx hS0 hZ hA ht f10 hf5 (fun z => by rw [zt, if_pos (by omega)]) (fun z => by rw [zt, if_neg (by omega), if_neg (by decide), if_pos rfl, Nat.add_comm])
      · exact jx_t3 hl hFx hS0 hZ hA ht f10 hf5 (by rw [zt, if_pos (by omega)])
      · exact jx_t4 hl hFx hS0 hZ hA ht f10 hf5 (fun z => by rw [zt, if_pos (by omega)]) (fun z => by rw [zt, if_neg (by omega), if_neg (by decide), if_neg (by decide)])
      · exact jx_t5 hl hFx hS0 hZ hA ht f10 hf5 (by rw [zt, if_pos (by omega)])
      · exact jx_t6 hl hFx hS0 hZ hA ht f10 hf5 (fun z => by rw [zt, if_pos (by omega)]) (fun z => by rw [zt, if_neg (by omega), if_pos rfl]; rfl)
      · exact jx_t7 hl hFx hS0 hZ hA ht f10 hf5 (by rw [zt, if_pos (by omega)])
  · have hf4 : jm_Fr D A ad cs s.heap 6 (10, [(2, .inl (zr_h 1 sh x)), (0, .inr (.inr (0, 0, 0))), (1, .inl x)], [], h2) ls3 H3 locs3 := ⟨hf3.1, hf3.2.1, jm_oks_nil, hf3.2.2.2⟩
    refine gz_go (l := l) (e := e) (below := below) (f := (10, [(2, .inl (zr_h 1 sh x)), (0, .inr (.inr (0, 0, 0))), (1, .inl x)], [], h2)) hFx [(10, .iload_n 2, 1, 0)] 1 (11, [(2, .inl (zr_h 1 sh x)), (0, .inr (.inr (0, 0, 0))), (1, .inl x)], [.inl (zr_h 1 sh x)], h2) True ls3 H3 locs3 (by decide +kernel) rfl trivial hf4 (fun ls5 H5 locs5 hf5 => ?_)
    have zt : za_toss sh x = zr_h 1 sh x := by unfold za_toss; exact if_neg cz
    rw [zt]
    exact jx_ret (pc := 11) hFx hf5.2.2.2.1 hf5.2.2.2.2.2 (by decide) (by decide) (by decide +kernel)
end JXT
