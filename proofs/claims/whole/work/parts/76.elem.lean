/-! EXCEPTIONS: element of the class. -/
abbrev jx_eM : jm_MT := (⟨"PapersAreOnCats", "element", "(II)J"⟩, prog_1_method_59_code, 3, some .long, 0, 0, 11)
abbrev jx_qE (D : va_G) (A : Nat → Prop) (ad : jm_K → Nat) (cs : Nat → ClassId) (h : jm_M) (th : Nat) (v : Int64) : Array Value → State → Outcome → State → Prop := va_Ql (fun (r : Int64) (u : jm_M) => (th = 0 ∧ r = v) ∧ u = h) (jx_P D ad cs) A
abbrev jx_xE (D : va_G) (A : Nat → Prop) (ad : jm_K → Nat) (cs : Nat → ClassId) (h : jm_M) (th : Nat) : String → State → State → Prop := jx_XC D A ad cs h (fun E => (E = "java/lang/IllegalArgumentException" ∧ th = 1) ∨ (E = "java/lang/IllegalStateException" ∧ th = 2))
theorem jx_zth {sh : Nat → Nat → Nat} {x y : Int32} (Y : kw sh) (h : ¬ zr_h 2 sh x = nI 0) (c : nI 0 ≤ x ∧ x ≤ nI 7) : sx_th sh x y = 2 := by
  obtain ⟨d, hd, rfl⟩ := jx_win (by decide) c
  rw [sx_at hd]
  refine if_neg (fun z => h ?_)
  rw [zr_at hd, if_neg (by omega), if_pos z.1]
set_option maxHeartbeats 4000000 in
theorem jx_element {l : Launch} (hl : l.stackTraces = false) (D : va_G) (A : Nat → Prop) (ad : jm_K → Nat) (cs : Nat → ClassId) {h : jm_M} {sh : Nat → Nat → Nat} {el : Nat → Nat → Int32} (K : jk_rel h sh el) (Y : kw sh) (x y : Int32) :
    vx_Met l ⟨"PapersAreOnCats", "element", "(II)J"⟩ (.code ⟨"PapersAreOnCats", "element", "(II)J"⟩ prog_1_method_59_code 3 (some .long) :: jm_T) jx_rT (va_Pc [Value.ref (ad (0, 0, 0)), .int x, .int y] (jx_Wd D A ad cs h)) (jx_qE D A ad cs h (sx_th sh x y) (sx_el sh el x y)) (jx_xE D A ad cs h (sx_th sh x y)) 1 6 A := by
  refine vx_ofW (cc := prog_1_method_59_code) (maxL := 3) (ret := some .long) (by decide) rfl ?_
  intro p e s m args below meth c s₁ B hml ht hv
  obtain ⟨rfl, ⟨hP, hK, hD, hN⟩, hA, hZ, hS0⟩ := hv
  obtain ⟨sb, hsb⟩ := hS0.2.1
  obtain ⟨sc, hsc⟩ := hS0.2.2.1
  have hpre := atoms_spec (ws := (.code ⟨"PapersAreOnCats", "element", "(II)J"⟩ prog_1_method_59_code 3 (some .long) :: jm_T)) B.pre
  have hx := B.exec
  have hb := B.bytes
  have hown : s.vm.findClass "PapersAreOnCats" = some m.cls := findClass_of_methodNamed B.named
  have hts : ∀ w ∈ jm_T, w.before [Value.ref (ad (0, 0, 0)), .int x, .int y].toArray s = true := fun w hw => hpre w (List.mem_cons_of_mem _ hw)
  have hlocks := B.notSynchronized
  have hF : gz_F D cs "PapersAreOnCats" prog_1_method_59_code 3 p s m [Value.ref (ad (0, 0, 0)), .int x, .int y].toArray c := ⟨hx, hb, hml, hown, hts, hK, hN⟩
  have hFx : jm_Fx D cs jx_eM p s m [Value.ref (ad (0, 0, 0)), .int x, .int y].toArray meth c := ⟨hx, hb, hml, hown, hts, hK, hN, B.returns, hlocks, rfl⟩
  rw [lg_entry_eq]
  have hl0 := lv_entry ([Value.ref (ad (0, 0, 0)), .int x, .int y]) (n := 3) (Nat.le_of_ble_eq_true rfl)
  generalize (lg_sl ([Value.ref (ad (0, 0, 0)), .int x, .int y]) ++ List.replicate (3 - (lg_sl ([Value.ref (ad (0, 0, 0)), .int x, .int y])).length) Slot.unset).toArray = ls at hl0 ⊢
  have hok0 : jm_okl ([(0, .inr (.inr (0, 0, 0))), (1, .inl x), (2, .inl y)] : jm_L) := fun q hq => by
    rcases List.mem_cons.mp hq with rfl | hq
    · show (0, 0, 0) ∈ jm_ks; decide
    · rcases List.mem_cons.mp hq with rfl | hq
      · trivial
      · rw [List.mem_singleton.mp hq]; trivial
  have one : ∀ v : Int32, jm_oks [(.inl v : jm_V)] := fun v w hw => by rw [List.mem_singleton.mp hw]; trivial
  have hf : jm_Fr D A ad cs s.heap 3 (0, [(0, .inr (.inr (0, 0, 0))), (1, .inl x), (2, .inl y)], [], h) ls s.heap [] := ⟨hl0, hok0, jm_oks_nil, hP, hD, va_S.rf⟩
  refine gz_go (l := l) (e := e) (below := below) (f := (0, [(0, .inr (.inr (0, 0, 0))), (1, .inl x), (2, .inl y)], [], h)) hFx [(0, .iload_n 1, 1, 0)] 1 (1, [(0, .inr (.inr (0, 0, 0))), (1, .inl x), (2, .inl y)], [.inl x], h) True ls s.heap [] (by decide +kernel) rfl trivial hf (fun ls1 H1 locs1 hf1 => ?_)
  obtain ⟨r150, hr150, hw150, hfit150, hmx150⟩ := gz_ck (own := "PapersAreOnCats") (kd := 0) (fr := 8) (lo := 140) (k := 1) (idx := 150) (n := 1) (ci := 0) (mi := 137) (ps := [271, 272, 38]) (by decide +kernel)
  obtain ⟨n1, u1, m1, hR1, rfl, rfl⟩ := ta_shelf (h := h) (x := x)
  refine gz_cont (v := .inl (jm_b (nI 0 ≤ x ∧ x ≤ nI 7))) (gz_runS (rest := []) hF hr150 hw150 (show gz_fit jx_rT r150 from hfit150) (as := [.inl x]) rfl (one x) hmx150 hR1 (show decode prog_1_method_59_code 1 = .ok (.invokestatic 150, 3) by decide +kernel) hf1.1.1 (by decide) hf1.2.2.2.1 hf1.2.2.2.2.1 ⟨by decide, by decide⟩) hf1.2.2.2.2.2 (fun q h => h) (Or.inl ⟨_, rfl⟩) (fun H2 locs2 hP2 hD2 hS2 => ?_)
  refine lv_if_ne (cc := prog_1_method_59_code) (pc := 4) (off := 14) (tgt := 18) hx hb (by decide +kernel) (by decide) (fun cz => ?_) (fun cz => ?_)
  · have cs_ : nI 0 ≤ x ∧ x ≤ nI 7 := Decidable.of_not_not (fun z => cz (jm_b_eq0.mpr z))
    have hf2 : jm_Fr D A ad cs s.heap 3 (18, [(0, .inr (.inr (0, 0, 0))), (1, .inl x), (2, .inl y)], [], m1) ls1 H2 locs2 := ⟨hf1.1, hok0, jm_oks_nil, hP2, hD2, hS2⟩
    refine gz_go (l := l) (e := e) (below := below) (f := (18, [(0, .inr (.inr (0, 0, 0))), (1, .inl x), (2, .inl y)], [], m1)) hFx [(18, .aload_n 0, 1, 0), (19, .iload_n 1, 1, 0)] 2 (20, [(0, .inr (.inr (0, 0, 0))), (1, .inl x), (2, .inl y)], [.inl x, .inr (.inr (0, 0, 0))], m1) True ls1 H2 locs2 (by decide +kernel) rfl trivial hf2 (fun ls3 H3 locs3 hf3 => ?_)
    obtain ⟨r63, hr63, hw63, hfit63, hmx63⟩ := gz_ck (own := "PapersAreOnCats") (kd := 2) (fr := 8) (lo := 140) (k := 2) (idx := 63) (n := 1) (ci := 10) (mi := 133) (ps := [263, 265, 0, 38]) (by decide +kernel)
    obtain ⟨n2, u2, m2, hR2, rfl, rfl⟩ := tk_row K Y (x := x)
    refine gz_cont (v := .inl (zr_h 2 sh x)) (gz_runV (rest := []) hF hr63 hw63 (show gz_fit jx_rT r63 from hfit63) (k0 := (0, 0, 0)) (as := [.inl x]) (by decide) rfl rfl (one x) hmx63 hR2 (show decode prog_1_method_59_code 20 = .ok (.invokevirtual 63, 3) by decide +kernel) hf3.1.1 (by decide) hf3.2.2.2.1 hf3.2.2.2.2.1 ⟨by decide, by decide⟩) hf3.2.2.2.2.2 (fun q h => h) (Or.inl ⟨_, rfl⟩) (fun H4 locs4 hP4 hD4 hS4 => ?_)
    have hszx : ls3.size = 3 := hf3.1.1
    refine lv_if_ne (cc := prog_1_method_59_code) (pc := 23) (off := 16) (tgt := 39) hx hb (by decide +kernel) (by decide) (fun cy => ?_) (fun cy => ?_)
    · have hth : sx_th sh x y = 2 := jx_zth Y cy cs_
      have hSx := hS4
      have hPx := hP4
      refine vx_throwSW (cc := prog_1_method_59_code) (pc := 39) (own := "PapersAreOnCats") (cls := "java/lang/IllegalStateException") (text := "no row or no such place") (names := ["java/lang/RuntimeException", "java/lang/Exception"]) (ik := 348) (is := 350) (ic := 352) (sa := sc) (A := A) hx hb hl hown (by decide) (by decide) (hts _ (jm_at_T (i := 855) (by decide +kernel))) (hts _ (jm_at_T (i := 59) (by decide +kernel))) hsc ?_ (List.all_eq_true.mp jx_L2c) hZ.1 hZ.2 hSx (hszx.trans hml.symm) (by decide +kernel) (by decide +kernel) (by decide +kernel) (by decide +kernel) (by decide +kernel) (fun x hx => (ht x hx).elim) (by decide) (by decide) (by decide) (by decide) hlocks ?_ hSx.2.2 (by decide) (by decide)
      · exact vx_hat (L := jx_L2) (B := jx_B) (fun w hw => hts w (jx_sub jx_L2a w hw)) (jx_subB jx_L2b) (fun w hw => va_Nw.use (jx_onB hw) (hS0.2.2.2.1 w hw))
      · intro t hal hz hk
        exact ⟨_, rfl, ⟨Or.inr ⟨rfl, hth⟩, hPx.kept (fun k q hq => hk _ (hPx k q hq).lt)⟩, Nat.le_trans hSx.1 hz, fun q hq hn => (hk q (Nat.lt_of_lt_of_le hq hSx.1)).trans (hSx.2.1 q hq hn)⟩
    · rcases zr_cs (x := x) Y (Or.inr rfl) with ⟨qn, q0⟩ | ⟨d, hd, rfl, qa, q0⟩ | ⟨d, hd, rfl, qa, q0⟩ | ⟨d, hd, rfl, qa, q0⟩
      · exact absurd cs_ qn
      · rw [q0] at cy; exact absurd cy (by decide)
      · rw [q0] at cy; exact absurd cy (by decide)
      · have e1 : (nI d).toNatClampNeg = d := nI_clamp (by omega)
        have hk3 : ((3, d, 0) : jm_K) ∈ jm_ks := by rcases jt_k8 (n := d) (by omega) with rfl | rfl | rfl | rfl | rfl | rfl | rfl | rfl <;> decide
        have hok1 : jm_okl ([(0, .inr (.inr (0, 0, 0))), (1, .inl (nI d)), (2, .inl y)] : jm_L) := hf3.2.1
        have hf4 : jm_Fr D A ad cs s.heap 3 (26, [(0, .inr (.inr (0, 0, 0))), (1, .inl (nI d)), (2, .inl y)], [], m2) ls3 H4 locs4 := ⟨hf3.1, hok1, jm_oks_nil, hP4, hD4, hS4⟩
        refine gz_go (l := l) (e := e) (below := below) (f := (26, [(0, .inr (.inr (0, 0, 0))), (1, .inl (nI d)), (2, .inl y)], [], m2)) hFx [(26, .aload_n 0, 1, 0), (27, .getfield 11, 3, 0), (30, .iload_n 1, 1, 0), (31, .aaload, 1, 0), (32, .iload_n 2, 1, 0)] 5 (33, [(0, .inr (.inr (0, 0, 0))), (1, .inl (nI d)), (2, .inl y)], [.inl y, .inr (.inr (3, (nI d).toNatClampNeg, 0))], m2) (vp_in (nI d) 8 ∧ True) ls3 H4 locs4 (by decide +kernel) rfl ⟨vp_in_nI (by omega) (by decide), trivial⟩ hf4 (fun ls5 H5 locs5 hf5 => ?_)
        rw [e1] at hf5 ⊢
        obtain ⟨r335, hr335, hw335, hfit335, hmx335⟩ := gz_ck (own := "PapersAreOnCats") (kd := 2) (fr := 8) (lo := 140) (k := 2) (idx := 335) (n := 1) (ci := 5) (mi := 44) (ps := [802, 285, 286, 48]) (by decide +kernel)
        obtain ⟨n3, u3, m3, hR3, rfl, rfl⟩ := tk_has K Y hd qa (y := y)
        refine gz_cont (v := .inl (jm_b (nI 0 ≤ y ∧ y < nI (sh d 4)))) (gz_runV (rest := []) hF hr335 hw335 (show gz_fit jx_rT r335 from hfit335) (k0 := (3, d, 0)) (as := [.inl y]) hk3 rfl rfl (one y) hmx335 hR3 (show decode prog_1_method_59_code 33 = .ok (.invokevirtual 335, 3) by decide +kernel) hf5.1.1 (by decide) hf5.2.2.2.1 hf5.2.2.2.2.1 ⟨by decide, by decide⟩) hf5.2.2.2.2.2 (fun q h => h) (Or.inl ⟨_, rfl⟩) (fun H6 locs6 hP6 hD6 hS6 => ?_)
        have hszx : ls5.size = 3 := hf5.1.1
        refine lv_if_ne (cc := prog_1_method_59_code) (pc := 36) (off := 14) (tgt := 50) hx hb (by decide +kernel) (by decide) (fun cw => ?_) (fun cw => ?_)
        · have cy2 : nI 0 ≤ y ∧ y < nI (sh d 4) := Decidable.of_not_not (fun z => cw (jm_b_eq0.mpr z))
          have bz := kw_z Y (d := d) (by omega) qa
          obtain ⟨i, hi, rfl⟩ := jx_cat (by omega) cy2
          have hth : sx_th sh (nI d) (nI i) = 0 := by rw [sx_at hd]; exact if_pos ⟨qa, cy2⟩
          have hel : sx_el sh el (nI d) (nI i) = (tg sh el d i).toInt64 := by
            unfold sx_el tg
            rw [if_pos hth, e1, nI_clamp (by omega), if_pos hi]
          have hf6 : jm_Fr D A ad cs s.heap 3 (50, [(0, .inr (.inr (0, 0, 0))), (1, .inl (nI d)), (2, .inl (nI i))], [], m3) ls5 H6 locs6 := ⟨hf5.1, hf5.2.1, jm_oks_nil, hP6, hD6, hS6⟩
          refine gz_go (l := l) (e := e) (below := below) (f := (50, [(0, .inr (.inr (0, 0, 0))), (1, .inl (nI d)), (2, .inl (nI i))], [], m3)) hFx [(50, .aload_n 0, 1, 0), (51, .getfield 11, 3, 0), (54, .iload_n 1, 1, 0), (55, .aaload, 1, 0), (56, .iload_n 2, 1, 0)] 5 (57, [(0, .inr (.inr (0, 0, 0))), (1, .inl (nI d)), (2, .inl (nI i))], [.inl (nI i), .inr (.inr (3, (nI d).toNatClampNeg, 0))], m3) (vp_in (nI d) 8 ∧ True) ls5 H6 locs6 (by decide +kernel) rfl ⟨vp_in_nI (by omega) (by decide), trivial⟩ hf6 (fun ls7 H7 locs7 hf7 => ?_)
          rw [e1] at hf7 ⊢
          obtain ⟨r91, hr91, hw91, hfit91, hmx91⟩ := gz_ck (own := "PapersAreOnCats") (kd := 2) (fr := 8) (lo := 140) (k := 2) (idx := 91) (n := 1) (ci := 5) (mi := 46) (ps := [483, 281, 282, 48]) (by decide +kernel)
          obtain ⟨n4, u4, m4, hR4, rfl, rfl⟩ := tk_getx K Y hd qa (i := i) (by omega)
          refine gz_cont (v := .inl (tg sh el d i)) (gz_runV (rest := []) hF hr91 hw91 (show gz_fit jx_rT r91 from hfit91) (k0 := (3, d, 0)) (as := [.inl (nI i)]) hk3 rfl rfl (one _) hmx91 hR4 (show decode prog_1_method_59_code 57 = .ok (.invokevirtual 91, 3) by decide +kernel) hf7.1.1 (by decide) hf7.2.2.2.1 hf7.2.2.2.2.1 ⟨by decide, by decide⟩) hf7.2.2.2.2.2 (fun q h => h) (Or.inl ⟨_, rfl⟩) (fun H8 locs8 hP8 hD8 hS8 => ?_)
          refine lv_i2l (cc := prog_1_method_59_code) (pc := 60) (v := (tg sh el d i).toInt64) hx hb (by decide +kernel) rfl ?_
          refine W.widen (k := 1) (n := 6) (by decide) (by decide) ?_
          exact vx_ret (W.lret (v := (tg sh el d i).toInt64) hx hb B.returns (fun t ht hW => ⟨⟨(tg sh el d i).toInt64, m4, rfl, ⟨⟨hth, hel.symm⟩, rfl⟩, by unfold jx_P; rw [ht]; exact hP8⟩, hS8.F ht⟩) hS8.2.2 (by decide +kernel) hlocks)
        · have hth : sx_th sh (nI d) y = 2 := by rw [sx_at hd]; exact if_neg (fun z => absurd cw (by rw [jm_b_pos z.2]; decide))
          have hSx := hS6
          have hPx := hP6
          refine vx_throwSW (cc := prog_1_method_59_code) (pc := 39) (own := "PapersAreOnCats") (cls := "java/lang/IllegalStateException") (text := "no row or no such place") (names := ["java/lang/RuntimeException", "java/lang/Exception"]) (ik := 348) (is := 350) (ic := 352) (sa := sc) (A := A) hx hb hl hown (by decide) (by decide) (hts _ (jm_at_T (i := 855) (by decide +kernel))) (hts _ (jm_at_T (i := 59) (by decide +kernel))) hsc ?_ (List.all_eq_true.mp jx_L2c) hZ.1 hZ.2 hSx (hszx.trans hml.symm) (by decide +kernel) (by decide +kernel) (by decide +kernel) (by decide +kernel) (by decide +kernel) (fun x hx => (ht x hx).elim) (by decide) (by decide) (by decide) (by decide) hlocks ?_ hSx.2.2 (by decide) (by decide)
          · exact vx_hat (L := jx_L2) (B := jx_B) (fun w hw => hts w (jx_sub jx_L2a w hw)) (jx_subB jx_L2b) (fun w hw => va_Nw.use (jx_onB hw) (hS0.2.2.2.1 w hw))
          · intro t hal hz hk
            exact ⟨_, rfl, ⟨Or.inr ⟨rfl, hth⟩, hPx.kept (fun k q hq => hk _ (hPx k q hq).lt)⟩, Nat.le_trans hSx.1 hz, fun q hq hn => (hk q (Nat.lt_of_lt_of_le hq hSx.1)).trans (hSx.2.1 q hq hn)⟩
  · have hth : sx_th sh x y = 1 := sx_no (jm_b_eq0.mp cz)
    have hSx := hS2
    have hPx := hP2
    have hszx : ls1.size = 3 := hf1.1.1
    refine vx_throwSW (cc := prog_1_method_59_code) (pc := 7) (own := "PapersAreOnCats") (cls := "java/lang/IllegalArgumentException") (text := "no such shelf") (names := ["java/lang/RuntimeException", "java/lang/Exception"]) (ik := 341) (is := 343) (ic := 345) (sa := sb) (A := A) hx hb hl hown (by decide) (by decide) (hts _ (jm_at_T (i := 966) (by decide +kernel))) (hts _ (jm_at_T (i := 58) (by decide +kernel))) hsb ?_ (List.all_eq_true.mp jx_L1c) hZ.1 hZ.2 hSx (hszx.trans hml.symm) (by decide +kernel) (by decide +kernel) (by decide +kernel) (by decide +kernel) (by decide +kernel) (fun x hx => (ht x hx).elim) (by decide) (by decide) (by decide) (by decide) hlocks ?_ hSx.2.2 (by decide) (by decide)
    · exact vx_hat (L := jx_L1) (B := jx_B) (fun w hw => hts w (jx_sub jx_L1a w hw)) (jx_subB jx_L1b) (fun w hw => va_Nw.use (jx_onB hw) (hS0.2.2.2.1 w hw))
    · intro t hal hz hk
      exact ⟨_, rfl, ⟨Or.inl ⟨rfl, hth⟩, hPx.kept (fun k q hq => hk _ (hPx k q hq).lt)⟩, Nat.le_trans hSx.1 hz, fun q hq hn => (hk q (Nat.lt_of_lt_of_le hq hSx.1)).trans (hSx.2.1 q hq hn)⟩
