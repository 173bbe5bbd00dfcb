/-! THE LAW: its cases toss and element. -/
/-- what a launch without stack traces and the start give -/
def lz_X (l : Launch) (s : State) (qo : Nat) : Prop := l.stackTraces = false ∧ jx_S s ∧ jx_Z (lz_A s qo) s s.heap
theorem vx_Run_no {p : Program} {l : Launch} {e : Env} {R : Room} {s : State} {m : MethodId} {args : Array Value} {below : List Frame} {meth : Method} {c : Code} {H : Heap} {locs : List Loc} {cells slots mc ms : Nat} {g : JFrame} {rest : List Value} {Qa : State → Outcome → State → Prop} {free : Addr → Prop}
    (h : vx_Run p l e R s m args below meth c H locs cells slots mc ms g rest Qa jx_xT free) : vx_Run p l e R s m args below meth c H locs cells slots mc ms g rest Qa (vx_X (fun _ : Unit => False) (fun _ _ _ => False) (fun _ => False)) free := by
  intro T hT X
  rcases h T hT X with z | ⟨q, st₀, t, T', L, E, ce, a1, a2, a3, a4, a5, a6, a7⟩
  · exact Or.inl z
  · exact a6.elim
section LZ2
variable {p : Program} {l : Launch} {e : Env} {s : State} {m : MethodId} {below : List Frame} {meth : Method} {c : Code} {H : Heap} {locs : List Loc} {cells slots : Nat} {Q : State → Prop}
variable {D : va_G} {cs : Nat → ClassId} {cl : ClassId} {ad : jm_K → Nat} {qo b L pc : Nat} {xs : Nat → Int32} {ls : Array Slot} {rest : List Value} {h h1 : jm_M}
theorem lz_F (C0 : lw_At p s m meth c b L xs) (K0 : lz_K D cs cl s) : gz_F D cs "PapersAreOnCatsLaw" code 8 p s m #[Value.ref b] c := ⟨C0.1, C0.2.1, C0.2.2.2.1, C0.2.2.2.2.1, lz_hts C0, K0.1, K0.2.1⟩
theorem lz_big (Wd : lz_W D cs cl ad qo s h H locs) : ∀ q : Nat, H.size ≤ q → lz_A s qo q := fun q hq => by
  obtain ⟨hP, hD, ⟨f, hO⟩, hqo, hS⟩ := Wd
  have := hO.lt
  exact ⟨Nat.le_trans hS.1 hq, fun z => by rw [z] at hq; exact absurd (Nat.lt_of_lt_of_le hO.lt hq) (Nat.lt_irrefl _)⟩
theorem lz_old (Wd : lz_W D cs cl ad qo s h H locs) : ∀ q : Nat, q < s.heap.size → ¬ lz_A s qo q → H[q]? = s.heap[q]? := fun q hq _ => Wd.2.2.2.2.2.1 q hq (Nat.not_le.mpr hq)
theorem jz_el {h h2 : jm_M} (J : jz h) (fr : ∀ k : jm_K, k ≠ (4, 0, 0) → h2 k = h k) (f4 : h2 (4, 0, 0) 4 = h (4, 0, 0) 4) : jz h2 := by
  obtain ⟨g, gi, sh, el, b, W, C, R⟩ := J
  refine ⟨g, gi, sh, el, b, W, jzc_mv C (fun k hk => fr k (jg_n4 (fun z => hk (Or.inl z)))), fun i hi => ?_, jl_mv R.2.1 (fun k hk => fr k (fun z => by rw [z] at hk; exact absurd hk.2 (by decide))), f4.trans R.2.2.1, fun q i hi => ?_⟩
  · rw [fr (5, 0, 0) (by decide)]; exact R.1 i hi
  · rw [fr (5, 2, 0) (by decide)]; exact R.2.2.2 q i hi
set_option maxHeartbeats 4000000 in
theorem lz_toss (C0 : lw_At p s m meth c b L xs) (K0 : lz_K D cs cl s) (X0 : lz_X l s qo) (hL : L ≤ 3072) {i : Nat} (hi : i + 6 ≤ L) (hl : lv_has ls 8 (lz_L ad b qo i)) (Wd : lz_W D cs cl ad qo s h H locs) (J : jz h) (hroom : cells + 1 ≤ 601024 ∧ slots + 6 ≤ 7293034)
    (kk : ∀ (h2 : jm_M) (H1 : Heap) (locs1 : List Loc), jz h2 → lz_W D cs cl ad qo s h2 H1 locs1 → W p l e room_1 s m #[Value.ref b] below meth c H1 locs1 (cells + 1) (slots + 6) Q (F0 m 1820 ls [])) : W p l e room_1 s m #[Value.ref b] below meth c H locs cells slots Q (F0 m 1795 ls []) := by
  obtain ⟨hx, hb, hr0, hml, hown, hts0, hX, hbl, hlocks, hgv⟩ := id C0
  have hts := lz_hts C0
  have hbig := lz_big Wd
  have hold := lz_old Wd
  obtain ⟨hst, hS0, hZ⟩ := X0
  obtain ⟨g, gi, sh, el, bb, W', C, R⟩ := id J
  obtain ⟨hP, hD, ⟨f, hO⟩, hqo, hS⟩ := id Wd
  refine lv_aload_n hx hb (k := 1) (show decode code 1795 = .ok (.aload_n 1, 1) by decide +kernel) rfl (lv_at hl 1 rfl) ?_
  refine lz_push C0 hL hl hS 1 1 1796 [.ref (ad (0, 0, 0))] (by decide +kernel) (by omega) ?_
  show W p l e room_1 s m #[Value.ref b] below meth c H locs cells slots Q (F0 m 1802 ls [.int (xs (i + 1)), .ref (ad (0, 0, 0))])
  obtain ⟨q0, hq0, hq1⟩ := jm_ws_get (ad := ad) (cs := cs) (h := h) (c := (0, 0, 0)) (by decide)
  have hcc : Cond.codeWith ⟨"PapersAreOnCats", "toss", "(I)I"⟩ prog_1_method_62_code 6 (some .int) [(38, 44, 47, 348)] ∈ jm_T := jm_at_T (i := 854) (by decide +kernel)
  have hcw : vx_CVW room_1 s #[Value.ref b] "PapersAreOnCatsLaw" "PapersAreOnCats" 206 ⟨"PapersAreOnCats", "toss", "(I)I"⟩ prog_1_method_62_code 6 (some .int) [(38, 44, 47, 348)] (.codeWith ⟨"PapersAreOnCats", "toss", "(I)I"⟩ prog_1_method_62_code 6 (some .int) [(38, 44, 47, 348)] :: jm_T) jx_rT 1 6 1 :=
    ⟨⟨rfl, rfl, by decide, by decide, pay_in hts (fun w hw => (List.mem_cons.mp hw).elim (fun z => by rw [z]; exact ⟨hcc, good_of_word rfl⟩) (fun z => ⟨z, good_of_word (List.mem_filter.mp z).2⟩)), List.mem_cons_self⟩, hts _ hcc, (hts _ (jm_at_T (i := 38) (by decide +kernel))), ⟨by decide, by decide⟩, jm_len_par (y := ⟨"PapersAreOnCats", "toss", "(I)I"⟩) (n := 1) (by decide +kernel), (hts _ (jm_at_T (i := 851) (by decide +kernel))), (hts _ (jm_at_T (i := 852) (by decide +kernel))), (hts _ (jm_at_T (i := 853) (by decide +kernel)))⟩
  have hrun := vx_runVX (l := l) (e := e) (meth := meth) (locs := locs) (below := below) (cells := cells) (slots := slots) (As := [.int (xs (i + 1))]) (rest := []) (g := F0 m 1802 ls [.int (xs (i + 1)), .ref (ad (0, 0, 0))]) ⟨hx, hb, hml, hown, hts⟩ (jx_toss hst D (lz_A s qo) ad cs C.2.1 W'.2.2.1 (xs (i + 1))) hcw ⟨jx_blind, va_recv K0.1 hP (ci := 10) rfl hq1, jx_pre (lz_F C0 K0) hS0 hZ hold hbig hP hD⟩ rfl rfl hl.1 rfl (lv_room (by decide)) (show decode code 1802 = .ok (.invokevirtual 206, 3) by decide +kernel) hroom
  have hOl := hO.lt
  have hqn : ¬ lz_A s qo qo := fun z => z.2 rfl
  refine vx_calli (a := _) (vx_Run_no hrun) hS (fun q _ h => h.1) (fun q h => h.1) (fun q _ h => h.elim) (fun E ce q9 u t H1 locs1 ht1 hal hp hB hz1 hk1 hS1 hcell hv hcl => hp.elim) (fun r u t H1 locs1 ht1 hal hp hB hz1 hk1 hS1 => ?_)
  obtain ⟨rfl, rfl⟩ := hp
  unfold jx_P at hB
  rw [ht1] at hB
  have Wd1 : lz_W D cs cl ad qo s u H1 locs1 := ⟨hB, hD, ⟨f, hO.kept (hk1 qo hOl hqn)⟩, hqo, hS1⟩
  refine lv_aload_n hx hb (pc := 1805) (k := 2) (show decode code 1805 = .ok (.aload_n 2, 1) by decide +kernel) rfl (lv_at hl 2 rfl) ?_
  refine lz_push C0 hL hl hS1 1 1 1806 [.ref (ad (4, 0, 0)), .int (za_toss sh (xs (i + 1)))] (by decide +kernel) (by omega) ?_
  obtain ⟨n2, u2, h2, R2, rfl, rfl⟩ := cl_toss R.2.1 W'.2.2.1 (x := xs (i + 1))
  refine lz_call (h1 := h2) (pc := 1812) C0 K0 (show lz_cok (209, 1, 11, 237, [1397, 1398, 1399, 49]) = true by decide +kernel) (k0 := (4, 0, 0)) (by decide) rfl (as := [xs (i + 1)]) rfl (Or.inl ⟨_, rfl⟩) R2 (by decide +kernel) hl.1 (Nat.le_of_ble_eq_true rfl) Wd1 (fun H2 locs2 Wd2 _ => ?_) hroom
  exact lv_icmp_eq (pc := 1815) (off := 5) (tgt := 1820) hx hb (show decode code 1815 = .ok (.if_icmp .eq 5, 3) by decide +kernel) (by decide) (fun _ => kk h2 H2 locs2 J Wd2) (fun z => absurd rfl z)
set_option maxHeartbeats 4000000 in
theorem lz_elem (C0 : lw_At p s m meth c b L xs) (K0 : lz_K D cs cl s) (X0 : lz_X l s qo) (hL : L ≤ 3072) {i : Nat} (hi : i + 6 ≤ L) (hl : lv_has ls 8 (lz_L ad b qo i)) (Wd : lz_W D cs cl ad qo s h H locs) (J : jz h) (hroom : cells + 1 ≤ 601024 ∧ slots + 6 ≤ 7293034)
    (kk : ∀ (h2 : jm_M) (H1 : Heap) (locs1 : List Loc) (ls1 : Array Slot), lv_has ls1 8 (lz_L ad b qo i) → jz h2 → lz_W D cs cl ad qo s h2 H1 locs1 → W p l e room_1 s m #[Value.ref b] below meth c H1 locs1 (cells + 1) (slots + 6) Q (F0 m 1820 ls1 [])) : W p l e room_1 s m #[Value.ref b] below meth c H locs cells slots Q (F0 m 1630 ls []) := by
  obtain ⟨hx, hb, hr0, hml, hown, hts0, hX, hbl, hlocks, hgv⟩ := id C0
  have hts := lz_hts C0
  have hbig := lz_big Wd
  have hold := lz_old Wd
  obtain ⟨hst, hS0, hZ⟩ := X0
  obtain ⟨g, gi, sh, el, bb, W', C, R⟩ := id J
  obtain ⟨hP, hD, ⟨f, hO⟩, hqo, hS⟩ := id Wd
  have hqn : ¬ lz_A s qo qo := fun z => z.2 rfl
  obtain ⟨x, hxx⟩ : ∃ x, x = xs (i + 1) := ⟨_, rfl⟩
  obtain ⟨y, hyy⟩ : ∃ y, y = xs (i + 2) := ⟨_, rfl⟩
  refine lv_aload_n hx hb (k := 1) (show decode code 1630 = .ok (.aload_n 1, 1) by decide +kernel) rfl (lv_at hl 1 rfl) ?_
  refine lz_push C0 hL hl hS 2 1 1631 [.ref (ad (0, 0, 0))] (by decide +kernel) (by omega) ?_
  show W p l e room_1 s m #[Value.ref b] below meth c H locs cells slots Q (F0 m 1643 ls [.int (xs (i + 2)), .int (xs (i + 1)), .ref (ad (0, 0, 0))])
  rw [← hxx, ← hyy]
  refine lv_aload_n hx hb (k := 3) (show decode code 1643 = .ok (.aload_n 3, 1) by decide +kernel) rfl (lv_at hl 3 rfl) ?_
  have hcc : Cond.codeWith ⟨"PapersAreOnCatsLaw", "element", "(LPapersAreOnCats;II[J)I"⟩ method_3_code 5 (some .int) [(0, 9, 12, 13), (0, 9, 16, 15)] ∈ jm_T := jm_at_T (i := 959) (by decide +kernel)
  have hcw : vx_CSW room_1 s #[Value.ref b] "PapersAreOnCatsLaw" 188 ⟨"PapersAreOnCatsLaw", "element", "(LPapersAreOnCats;II[J)I"⟩ method_3_code 5 (some .int) [(0, 9, 12, 13), (0, 9, 16, 15)] (.codeWith ⟨"PapersAreOnCatsLaw", "element", "(LPapersAreOnCats;II[J)I"⟩ method_3_code 5 (some .int) [(0, 9, 12, 13), (0, 9, 16, 15)] :: jm_T) jy_rL 1 6 4 :=
    ⟨⟨rfl, rfl, by decide, by decide, pay_in hts (fun w hw => (List.mem_cons.mp hw).elim (fun z => by rw [z]; exact ⟨hcc, good_of_word rfl⟩) (fun z => ⟨z, good_of_word (List.mem_filter.mp z).2⟩)), List.mem_cons_self⟩, hts _ hcc, (hts _ (jm_at_T (i := 37) (by decide +kernel))), ⟨by decide, by decide⟩, jm_len_par (y := ⟨"PapersAreOnCatsLaw", "element", "(LPapersAreOnCats;II[J)I"⟩) (n := 4) (by decide +kernel), (hts _ (jm_at_T (i := 957) (by decide +kernel))), (hts _ (jm_at_T (i := 958) (by decide +kernel)))⟩
  have hrun := vx_runSX (l := l) (e := e) (meth := meth) (locs := locs) (below := below) (cells := cells) (slots := slots) (As := [.ref (ad (0, 0, 0)), .int x, .int y, .ref qo]) (rest := []) (g := F0 m 1644 ls [.ref qo, .int y, .int x, .ref (ad (0, 0, 0))]) ⟨hx, hb, hml, hown, hts⟩ (jy_element hst D (lz_A s qo) ad cs cl qo C.2.1 W'.2.2.1 x y) hcw ⟨jy_blind, fun U hU hW => ⟨rfl, (jx_pre (av := []) (lz_F C0 K0) hS0 hZ hold hbig hP hD U hU hW).2, va_K.moved hW.alike K0.2.2, ⟨f, by rw [hU]; exact hO⟩, hqn⟩⟩ rfl rfl hl.1 rfl (lv_room (by decide)) (show decode code 1644 = .ok (.invokestatic 188, 3) by decide +kernel) hroom
  have hjA : ∀ q : Nat, jy_A (lz_A s qo) qo q → s.heap.size ≤ q := fun q h => h.elim (fun z => z.1) (fun z => by rw [z]; exact hqo)
  refine vx_calli (a := _) (vx_Run_no hrun) hS (fun q _ h => hjA q h) (fun q h => hjA q h) (fun q _ h => h.elim) (fun E ce q9 u t H1 locs1 ht1 hal hp hB hz1 hk1 hS1 hcell hv hcl => hp.elim) (fun r u t H1 locs1 ht1 hal hp hB hz1 hk1 hS1 => ?_)
  obtain ⟨rfl, hu⟩ := hp
  obtain ⟨hP1, hO1⟩ := hB
  unfold jx_P at hP1
  rw [ht1] at hP1 hO1
  have Wd1 : lz_W D cs cl ad qo s h H1 locs1 := ⟨hP1, hD, ⟨u, hO1⟩, hqo, hS1⟩
  refine lv_istore (pc := 1647) (i := 5) (lv' := [(5, .int (nI (sx_th sh x y))), (0, .ref b), (1, .ref (ad (0, 0, 0))), (2, .ref (ad (4, 0, 0))), (3, .ref qo), (4, .int (nI i))]) hx hb (show decode code 1647 = .ok (.istore 5, 2) by decide +kernel) hl (by decide) rfl (fun ls1 hl1 => ?_)
  have hl2 : lv_has ls1 8 (lz_L ad b qo i) := lv_sub hl1 [1, 2, 3, 4, 5] rfl
  refine lv_aload_n hx hb (pc := 1649) (k := 2) (show decode code 1649 = .ok (.aload_n 2, 1) by decide +kernel) rfl (lv_at hl2 2 rfl) ?_
  refine lz_push C0 hL hl2 hS1 2 1 1650 [.ref (ad (4, 0, 0))] (by decide +kernel) (by omega) ?_
  show W p l e room_1 s m #[Value.ref b] below meth c H1 locs1 (cells + 1) (slots + 6) Q (F0 m 1662 ls1 [.int (xs (i + 2)), .int (xs (i + 1)), .ref (ad (4, 0, 0))])
  rw [← hxx, ← hyy]
  obtain ⟨n2, u2, h2, R2, rfl, e17, fr, f4⟩ := cl_element R.2.1 W'.2.2.1 (x := x) (y := y)
  have J2 : jz h2 := jz_el J fr f4
  refine lz_call (h1 := h2) (pc := 1662) C0 K0 (show lz_cok (193, 2, 11, 233, [1382, 1383, 1384, 49]) = true by decide +kernel) (k0 := (4, 0, 0)) (by decide) rfl (as := [x, y]) rfl (Or.inr ⟨_, rfl⟩) R2 (by decide +kernel) hl2.1 (by decide) Wd1 (fun H2 locs2 Wd2 hkeep => ?_) hroom
  have hO2 := hkeep u hO1
  refine lv_lstore (pc := 1665) (i := 6) (lv' := [(6, .long (sx_el sh el x y)), (5, .int (nI (sx_th sh x y))), (0, .ref b), (1, .ref (ad (0, 0, 0))), (2, .ref (ad (4, 0, 0))), (3, .ref qo), (4, .int (nI i))]) hx hb (show decode code 1665 = .ok (.lstore 6, 2) by decide +kernel) hl1 (by decide) rfl (fun ls3 hl3 => ?_)
  have hl4 : lv_has ls3 8 (lz_L ad b qo i) := lv_sub hl3 [2, 3, 4, 5, 6] rfl
  refine lv_aload_n hx hb (pc := 1667) (k := 2) (show decode code 1667 = .ok (.aload_n 2, 1) by decide +kernel) rfl (lv_at hl4 2 rfl) ?_
  obtain ⟨n3, u3, h3, R3, rfl, rfl⟩ := tl_thrown (h := h2)
  refine lz_call (h1 := h3) (pc := 1668) C0 K0 (show lz_cok (194, 0, 11, 226, [1366, 1367, 1368, 49]) = true by decide +kernel) (k0 := (4, 0, 0)) (by decide) rfl (as := []) rfl (Or.inl ⟨_, rfl⟩) R3 (by decide +kernel) hl4.1 (by decide) Wd2 (fun H3 locs3 Wd3 hkeep3 => ?_) hroom
  have hO3 := hkeep3 u hO2
  show W p l e room_1 s m #[Value.ref b] below meth c H3 locs3 (cells + 1) (slots + 6) Q (F0 m 1671 ls3 [.int (h3 (4, 0, 0) 17)])
  rw [e17]
  refine lv_iload hx hb (pc := 1671) (show decode code 1671 = .ok (.iload 5, 2) by decide +kernel) (lv_at hl3 1 rfl) ?_
  refine lv_icmp_eq (pc := 1673) (off := 5) (tgt := 1678) hx hb (show decode code 1673 = .ok (.if_icmp .eq 5, 3) by decide +kernel) (by decide) (fun _ => ?_) (fun z => absurd rfl z)
  refine lv_iload hx hb (pc := 1678) (show decode code 1678 = .ok (.iload 5, 2) by decide +kernel) (lv_at hl3 1 rfl) ?_
  refine lv_if_ne (pc := 1680) (off := 14) (tgt := 1694) hx hb (show decode code 1680 = .ok (.ifCond .ne 14, 3) by decide +kernel) (by decide) (fun _ => ?_) (fun cz => ?_)
  · refine lv_goto (pc := 1694) (off := 126) (tgt := 1820) hx hb (show decode code 1694 = .ok (.goto 126, 3) by decide +kernel) (by decide) ?_
    exact kk h3 H3 locs3 ls3 hl4 J2 Wd3
  · have hth : sx_th sh x y = 0 := nI_inj (by unfold sx_th; split; split; decide; decide; decide) (by decide) cz
    refine lv_aload_n hx hb (pc := 1683) (k := 3) (show decode code 1683 = .ok (.aload_n 3, 1) by decide +kernel) rfl (lv_at hl4 3 rfl) ?_
    refine lv_iconst (pc := 1684) (n := 0) (v := nI 0) hx hb (show decode code 1684 = .ok (.iconst 0, 1) by decide +kernel) (by decide) ?_
    refine va_lald (pc := 1685) (q0 := 0) (t0 := 0) (n := 1) (f := u) hx hb K0.2.2 (jy_one hO3) rfl rfl (vp_in_nI (by decide) (by decide)) (show decode code 1685 = .ok (.laload, 1) by decide +kernel) ?_
    refine lv_lload hx hb (pc := 1686) (show decode code 1686 = .ok (.lload 6, 2) by decide +kernel) (lv_at hl3 0 rfl) ?_
    refine W.lcmp hx hb (pc := 1688) (show decode code 1688 = .ok (.lcmp, 1) by decide +kernel) ?_
    refine lv_if_eq (pc := 1689) (off := 5) (tgt := 1694) hx hb (show decode code 1689 = .ok (.ifCond .eq 5, 3) by decide +kernel) (by decide) (fun _ => ?_) (fun z => absurd ((lg_cmp_eq _ _).mpr (hu hth)) z)
    refine lv_goto (pc := 1694) (off := 126) (tgt := 1820) hx hb (show decode code 1694 = .ok (.goto 126, 3) by decide +kernel) (by decide) ?_
    exact kk h3 H3 locs3 ls3 hl4 J2 Wd3
end LZ2
