/-! THE SMALL MACHINE's plain steps in a frame with any room (the text of its own step, turned). -/
section GZS
variable {p : Program} {l : Launch} {e : Env} {R : Room} {s : State} {m : MethodId} {args : Array Value} {below : List Frame} {meth : Method} {c : Code} {H : Heap} {locs : List Loc} {cells slots : Nat} {Q : State → Prop}
variable {D : va_G} {A : Nat → Prop} {ad : jm_K → Nat} {cs : Nat → ClassId} {H0 : Heap} {r : jm_MT} {ls : Array Slot}
set_option maxHeartbeats 4000000 in
set_option maxRecDepth 100000 in
/-- a plain step -/
theorem gz_step {i : Instr} {n : Nat} {v : Int32} {f f' : jm_F} {cd : Option Prop} (hF : jm_Fx D cs r p s m args meth c) (hd : decode r.2.1 f.1 = .ok (i, n)) (hn : n = jm_len i ∨ jm_sw i = true) (ho : jm_offok f.1 i = true) (hv : jm_cval (jm_con.getD r.2.2.2.2.2.2 []) v i = true)
    (hlib : ∀ idx, ¬ i = .invokestatic idx)
    (hf : jm_Fr D A ad cs H0 r.2.2.1 f ls H locs) (hs : jm_step r.2.2.2.2.2.2 i n v f = some (cd, f')) (hc : jm_hold cd) (hlt : ∀ k, jm_loc i = some k → k < r.2.2.1)
    (kk : ∀ (ls' : Array Slot) (H' : Heap) (locs' : List Loc), jm_Fr D A ad cs H0 r.2.2.1 f' ls' H' locs' → W p l e R s m args below meth c H' locs' cells slots Q (F0 m f'.1 ls' (f'.2.2.1.map (jm_cv ad)))) :
    W p l e R s m args below meth c H locs cells slots Q (F0 m f.1 ls (f.2.2.1.map (jm_cv ad))) := by
  obtain ⟨hx, hb, hml, hown, hts, hK, hN, hr, hlocks, hon⟩ := hF
  obtain ⟨hl, hol, hos, hP, hD, hS⟩ := hf
  obtain ⟨pc, L, st, h⟩ := f
  dsimp only at hd ho hl hol hos hP hD hs ⊢
  cases i
  case iconst k =>
    obtain rfl : n = 1 := by simpa [jm_len, jm_sw] using hn
    cases hs
    refine lv_iconst hx hb hd (of_decide_eq_true hv) ?_
    exact kk ls H locs ⟨hl, hol, jm_oks_cons trivial hos, hP, hD, hS⟩
  case bipush k =>
    obtain rfl : n = 2 := by simpa [jm_len, jm_sw] using hn
    cases hs
    refine lv_bipush hx hb hd (of_decide_eq_true hv) ?_
    exact kk ls H locs ⟨hl, hol, jm_oks_cons trivial hos, hP, hD, hS⟩
  case sipush k =>
    obtain rfl : n = 3 := by simpa [jm_len, jm_sw] using hn
    cases hs
    refine lv_sipush hx hb hd (of_decide_eq_true hv) ?_
    exact kk ls H locs ⟨hl, hol, jm_oks_cons trivial hos, hP, hD, hS⟩
  case ldc k =>
    obtain rfl : n = 2 := by simpa [jm_len, jm_sw] using hn
    cases hs
    have hv2 := of_decide_eq_true hv
    obtain ⟨z, hz, hzv⟩ := Option.map_eq_some_iff.mp hv2
    have hlk : jm_lk jm_con r.2.2.2.2.2.2 k = some z := by
      unfold jm_lk
      rw [List.getD_eq_getElem?_getD] at hz
      cases hq : jm_con[r.2.2.2.2.2.2]? with
      | none => rw [hq] at hz; simp at hz
      | some q => rw [hq] at hz; exact hz
    have hw := jm_at_T (jm_lk_all (P := jm_conok) jm_con_ok hon hlk)
    dsimp only at hw
    rw [hzv] at hw
    refine lv_ldc hx hb hown (hts _ hw) hd ?_
    exact kk ls H locs ⟨hl, hol, jm_oks_cons trivial hos, hP, hD, hS⟩
  case ldc_w k =>
    obtain rfl : n = 3 := by simpa [jm_len, jm_sw] using hn
    cases hs
    have hv2 := of_decide_eq_true hv
    obtain ⟨z, hz, hzv⟩ := Option.map_eq_some_iff.mp hv2
    have hlk : jm_lk jm_con r.2.2.2.2.2.2 k = some z := by
      unfold jm_lk
      rw [List.getD_eq_getElem?_getD] at hz
      cases hq : jm_con[r.2.2.2.2.2.2]? with
      | none => rw [hq] at hz; simp at hz
      | some q => rw [hq] at hz; exact hz
    have hw := jm_at_T (jm_lk_all (P := jm_conok) jm_con_ok hon hlk)
    dsimp only at hw
    rw [hzv] at hw
    refine lv_ldcw hx hb hown (hts _ hw) hd ?_
    exact kk ls H locs ⟨hl, hol, jm_oks_cons trivial hos, hP, hD, hS⟩
  case lconst k =>
    obtain rfl : n = 1 := by simpa [jm_len, jm_sw] using hn
    cases hs
    refine lv_lconst hx hb hd rfl ?_
    exact kk ls H locs ⟨hl, hol, jm_oks_cons trivial hos, hP, hD, hS⟩
  case ldc2_w k =>
    obtain rfl : n = 3 := by simpa [jm_len, jm_sw] using hn
    unfold jm_step at hs
    dsimp only at hs
    split at hs
    · rename_i x q hq
      cases hs
      have hw := jm_at_T (jm_lk_all (P := jm_conLok) jm_conL_ok hon hq)
      refine lv_ldc2 hx hb hown (hts _ hw) hd ?_
      exact kk ls H locs ⟨hl, hol, jm_oks_cons trivial hos, hP, hD, hS⟩
    · cases hs
  case iload k =>
    obtain rfl : n = 2 := by simpa [jm_len, jm_sw] using hn
    obtain ⟨z, hz, rfl, rfl, hzz⟩ := jm_ld_spec (w := 0) (i := k) (n := 2) (f := (pc, L, st, h)) (c := cd) (f' := f') hs
    rcases hzz with ⟨-, x, rfl⟩ | ⟨q, -⟩ | ⟨q, -⟩
    · refine lv_iload hx hb hd (jm_lookup_lv hl hz) ?_
      exact kk ls H locs ⟨hl, hol, jm_oks_cons (jm_okl_get hol hz) hos, hP, hD, hS⟩
    · exact absurd q (by decide)
    · exact absurd q (by decide)
  case iload_n k =>
    obtain rfl : n = 1 := by simpa [jm_len, jm_sw] using hn
    obtain ⟨z, hz, rfl, rfl, hzz⟩ := jm_ld_spec (w := 0) (i := k) (n := 1) (f := (pc, L, st, h)) (c := cd) (f' := f') hs
    rcases hzz with ⟨-, x, rfl⟩ | ⟨q, -⟩ | ⟨q, -⟩
    · refine lv_iload_n hx hb hd rfl (jm_lookup_lv hl hz) ?_
      exact kk ls H locs ⟨hl, hol, jm_oks_cons (jm_okl_get hol hz) hos, hP, hD, hS⟩
    · exact absurd q (by decide)
    · exact absurd q (by decide)
  case lload k =>
    obtain rfl : n = 2 := by simpa [jm_len, jm_sw] using hn
    obtain ⟨z, hz, rfl, rfl, hzz⟩ := jm_ld_spec (w := 1) (i := k) (n := 2) (f := (pc, L, st, h)) (c := cd) (f' := f') hs
    rcases hzz with ⟨q, -⟩ | ⟨-, x, rfl⟩ | ⟨q, -⟩
    · exact absurd q (by decide)
    · refine lv_lload hx hb hd (jm_lookup_lv hl hz) ?_
      exact kk ls H locs ⟨hl, hol, jm_oks_cons (jm_okl_get hol hz) hos, hP, hD, hS⟩
    · exact absurd q (by decide)
  case lload_n k =>
    obtain rfl : n = 1 := by simpa [jm_len, jm_sw] using hn
    obtain ⟨z, hz, rfl, rfl, hzz⟩ := jm_ld_spec (w := 1) (i := k) (n := 1) (f := (pc, L, st, h)) (c := cd) (f' := f') hs
    rcases hzz with ⟨q, -⟩ | ⟨-, x, rfl⟩ | ⟨q, -⟩
    · exact absurd q (by decide)
    · refine lv_lload_n hx hb hd rfl (jm_lookup_lv hl hz) ?_
      exact kk ls H locs ⟨hl, hol, jm_oks_cons (jm_okl_get hol hz) hos, hP, hD, hS⟩
    · exact absurd q (by decide)
  case aload k =>
    obtain rfl : n = 2 := by simpa [jm_len, jm_sw] using hn
    obtain ⟨z, hz, rfl, rfl, hzz⟩ := jm_ld_spec (w := 2) (i := k) (n := 2) (f := (pc, L, st, h)) (c := cd) (f' := f') hs
    rcases hzz with ⟨q, -⟩ | ⟨q, -⟩ | ⟨-, x, rfl⟩
    · exact absurd q (by decide)
    · exact absurd q (by decide)
    · refine lv_aload hx hb hd (jm_lookup_lv hl hz) ?_
      exact kk ls H locs ⟨hl, hol, jm_oks_cons (jm_okl_get hol hz) hos, hP, hD, hS⟩
  case aload_n k =>
    obtain rfl : n = 1 := by simpa [jm_len, jm_sw] using hn
    obtain ⟨z, hz, rfl, rfl, hzz⟩ := jm_ld_spec (w := 2) (i := k) (n := 1) (f := (pc, L, st, h)) (c := cd) (f' := f') hs
    rcases hzz with ⟨q, -⟩ | ⟨q, -⟩ | ⟨-, x, rfl⟩
    · exact absurd q (by decide)
    · exact absurd q (by decide)
    · refine lv_aload_n hx hb hd rfl (jm_lookup_lv hl hz) ?_
      exact kk ls H locs ⟨hl, hol, jm_oks_cons (jm_okl_get hol hz) hos, hP, hD, hS⟩
  case istore k =>
    obtain rfl : n = 2 := by simpa [jm_len, jm_sw] using hn
    obtain ⟨z, st2, hz, rfl, hzz⟩ := jm_sto_spec (w := 0) (i := k) (n := 2) (f := (pc, L, st, h)) (c := cd) (f' := f') hs
    dsimp only at hz
    subst hz
    rcases hzz with ⟨q, ⟨x, rfl⟩, rfl⟩ | ⟨q, ⟨x, rfl⟩, rfl⟩ | ⟨q, ⟨x, rfl⟩, rfl⟩
    · refine lv_istore (lv' := jm_cvl ad (jm_put1 k (.inl x) L)) hx hb hd hl (hlt _ rfl) (jm_cvl_put1 ad k (.inl x) L) (fun ls2 hl2 => ?_)
      exact kk ls2 H locs ⟨hl2, jm_okl_put1 (jm_oks_head hos) hol, jm_oks_tail hos, hP, hD, hS⟩
    · exact absurd q (by decide)
    · exact absurd q (by decide)
  case istore_n k =>
    obtain rfl : n = 1 := by simpa [jm_len, jm_sw] using hn
    obtain ⟨z, st2, hz, rfl, hzz⟩ := jm_sto_spec (w := 0) (i := k) (n := 1) (f := (pc, L, st, h)) (c := cd) (f' := f') hs
    dsimp only at hz
    subst hz
    rcases hzz with ⟨q, ⟨x, rfl⟩, rfl⟩ | ⟨q, ⟨x, rfl⟩, rfl⟩ | ⟨q, ⟨x, rfl⟩, rfl⟩
    · refine lv_istore_n (lv' := jm_cvl ad (jm_put1 k (.inl x) L)) hx hb hd rfl hl (hlt _ rfl) (jm_cvl_put1 ad k (.inl x) L) (fun ls2 hl2 => ?_)
      exact kk ls2 H locs ⟨hl2, jm_okl_put1 (jm_oks_head hos) hol, jm_oks_tail hos, hP, hD, hS⟩
    · exact absurd q (by decide)
    · exact absurd q (by decide)
  case lstore k =>
    obtain rfl : n = 2 := by simpa [jm_len, jm_sw] using hn
    obtain ⟨z, st2, hz, rfl, hzz⟩ := jm_sto_spec (w := 1) (i := k) (n := 2) (f := (pc, L, st, h)) (c := cd) (f' := f') hs
    dsimp only at hz
    subst hz
    rcases hzz with ⟨q, ⟨x, rfl⟩, rfl⟩ | ⟨q, ⟨x, rfl⟩, rfl⟩ | ⟨q, ⟨x, rfl⟩, rfl⟩
    · exact absurd q (by decide)
    · refine lv_lstore (lv' := jm_cvl ad (jm_put2 k (.inr (.inl x)) L)) hx hb hd hl (hlt _ rfl) (jm_cvl_put2 ad k (.inr (.inl x)) L) (fun ls2 hl2 => ?_)
      exact kk ls2 H locs ⟨hl2, jm_okl_put2 (jm_oks_head hos) hol, jm_oks_tail hos, hP, hD, hS⟩
    · exact absurd q (by decide)
  case lstore_n k =>
    obtain rfl : n = 1 := by simpa [jm_len, jm_sw] using hn
    obtain ⟨z, st2, hz, rfl, hzz⟩ := jm_sto_spec (w := 1) (i := k) (n := 1) (f := (pc, L, st, h)) (c := cd) (f' := f') hs
    dsimp only at hz
    subst hz
    rcases hzz with ⟨q, ⟨x, rfl⟩, rfl⟩ | ⟨q, ⟨x, rfl⟩, rfl⟩ | ⟨q, ⟨x, rfl⟩, rfl⟩
    · exact absurd q (by decide)
    · refine lv_lstore_n (lv' := jm_cvl ad (jm_put2 k (.inr (.inl x)) L)) hx hb hd rfl hl (hlt _ rfl) (jm_cvl_put2 ad k (.inr (.inl x)) L) (fun ls2 hl2 => ?_)
      exact kk ls2 H locs ⟨hl2, jm_okl_put2 (jm_oks_head hos) hol, jm_oks_tail hos, hP, hD, hS⟩
    · exact absurd q (by decide)
  case astore k =>
    obtain rfl : n = 2 := by simpa [jm_len, jm_sw] using hn
    obtain ⟨z, st2, hz, rfl, hzz⟩ := jm_sto_spec (w := 2) (i := k) (n := 2) (f := (pc, L, st, h)) (c := cd) (f' := f') hs
    dsimp only at hz
    subst hz
    rcases hzz with ⟨q, ⟨x, rfl⟩, rfl⟩ | ⟨q, ⟨x, rfl⟩, rfl⟩ | ⟨q, ⟨x, rfl⟩, rfl⟩
    · exact absurd q (by decide)
    · exact absurd q (by decide)
    · refine lv_astore (lv' := jm_cvl ad (jm_put1 k (.inr (.inr x)) L)) hx hb hd hl (hlt _ rfl) (jm_cvl_put1 ad k (.inr (.inr x)) L) (fun ls2 hl2 => ?_)
      exact kk ls2 H locs ⟨hl2, jm_okl_put1 (jm_oks_head hos) hol, jm_oks_tail hos, hP, hD, hS⟩
  case astore_n k =>
    obtain rfl : n = 1 := by simpa [jm_len, jm_sw] using hn
    obtain ⟨z, st2, hz, rfl, hzz⟩ := jm_sto_spec (w := 2) (i := k) (n := 1) (f := (pc, L, st, h)) (c := cd) (f' := f') hs
    dsimp only at hz
    subst hz
    rcases hzz with ⟨q, ⟨x, rfl⟩, rfl⟩ | ⟨q, ⟨x, rfl⟩, rfl⟩ | ⟨q, ⟨x, rfl⟩, rfl⟩
    · exact absurd q (by decide)
    · exact absurd q (by decide)
    · refine lv_astore_n (lv' := jm_cvl ad (jm_put1 k (.inr (.inr x)) L)) hx hb hd rfl hl (hlt _ rfl) (jm_cvl_put1 ad k (.inr (.inr x)) L) (fun ls2 hl2 => ?_)
      exact kk ls2 H locs ⟨hl2, jm_okl_put1 (jm_oks_head hos) hol, jm_oks_tail hos, hP, hD, hS⟩
  case iinc k z =>
    obtain rfl : n = 3 := by simpa [jm_len, jm_sw] using hn
    unfold jm_step at hs
    dsimp only at hs
    split at hs
    · rename_i x hq
      cases hs
      obtain ⟨j, hj⟩ := List.mem_iff_getElem?.mp (List.mem_map.mpr ⟨(k, (.inl x : jm_V)), jm_lookup_mem hq, rfl⟩ : (k, jm_cv ad (.inl x)) ∈ jm_cvl ad L)
      refine lv_iinc (v := x + v) (lv' := jm_cvl ad (jm_put1 k (.inl (x + v)) L)) hx hb hd hl hj (by rw [of_decide_eq_true hv]) (hlt _ rfl) (jm_cvl_put1 ad k (.inl (x + v)) L) (fun ls2 hl2 => ?_)
      exact kk ls2 H locs ⟨hl2, jm_okl_put1 trivial hol, hos, hP, hD, hS⟩
    · cases hs
  case iadd =>
    obtain rfl : n = 1 := by simpa [jm_len, jm_sw] using hn
    obtain ⟨x, y, st2, hz, rfl, rfl⟩ := jm_ii_spec hs
    dsimp only at hz
    subst hz
    refine lv_iadd hx hb hd ?_
    exact kk ls H locs ⟨hl, hol, jm_oks_cons trivial (jm_oks_tail (jm_oks_tail hos)), hP, hD, hS⟩
  case isub =>
    obtain rfl : n = 1 := by simpa [jm_len, jm_sw] using hn
    obtain ⟨x, y, st2, hz, rfl, rfl⟩ := jm_ii_spec hs
    dsimp only at hz
    subst hz
    refine lv_isub hx hb hd ?_
    exact kk ls H locs ⟨hl, hol, jm_oks_cons trivial (jm_oks_tail (jm_oks_tail hos)), hP, hD, hS⟩
  case imul =>
    obtain rfl : n = 1 := by simpa [jm_len, jm_sw] using hn
    obtain ⟨x, y, st2, hz, rfl, rfl⟩ := jm_ii_spec hs
    dsimp only at hz
    subst hz
    refine lv_imul hx hb hd ?_
    exact kk ls H locs ⟨hl, hol, jm_oks_cons trivial (jm_oks_tail (jm_oks_tail hos)), hP, hD, hS⟩
  case iand =>
    obtain rfl : n = 1 := by simpa [jm_len, jm_sw] using hn
    obtain ⟨x, y, st2, hz, rfl, rfl⟩ := jm_ii_spec hs
    dsimp only at hz
    subst hz
    refine lv_iand hx hb hd ?_
    exact kk ls H locs ⟨hl, hol, jm_oks_cons trivial (jm_oks_tail (jm_oks_tail hos)), hP, hD, hS⟩
  case ior =>
    obtain rfl : n = 1 := by simpa [jm_len, jm_sw] using hn
    obtain ⟨x, y, st2, hz, rfl, rfl⟩ := jm_ii_spec hs
    dsimp only at hz
    subst hz
    refine lv_ior hx hb hd ?_
    exact kk ls H locs ⟨hl, hol, jm_oks_cons trivial (jm_oks_tail (jm_oks_tail hos)), hP, hD, hS⟩
  case ixor =>
    obtain rfl : n = 1 := by simpa [jm_len, jm_sw] using hn
    obtain ⟨x, y, st2, hz, rfl, rfl⟩ := jm_ii_spec hs
    dsimp only at hz
    subst hz
    refine lv_ixor hx hb hd ?_
    exact kk ls H locs ⟨hl, hol, jm_oks_cons trivial (jm_oks_tail (jm_oks_tail hos)), hP, hD, hS⟩
  case ishl =>
    obtain rfl : n = 1 := by simpa [jm_len, jm_sw] using hn
    obtain ⟨x, y, st2, hz, rfl, rfl⟩ := jm_ii_spec hs
    dsimp only at hz
    subst hz
    refine lv_ishl hx hb hd ?_
    exact kk ls H locs ⟨hl, hol, jm_oks_cons trivial (jm_oks_tail (jm_oks_tail hos)), hP, hD, hS⟩
  case ishr =>
    obtain rfl : n = 1 := by simpa [jm_len, jm_sw] using hn
    obtain ⟨x, y, st2, hz, rfl, rfl⟩ := jm_ii_spec hs
    dsimp only at hz
    subst hz
    refine lv_ishr hx hb hd ?_
    exact kk ls H locs ⟨hl, hol, jm_oks_cons trivial (jm_oks_tail (jm_oks_tail hos)), hP, hD, hS⟩
  case iushr =>
    obtain rfl : n = 1 := by simpa [jm_len, jm_sw] using hn
    obtain ⟨x, y, st2, hz, rfl, rfl⟩ := jm_ii_spec hs
    dsimp only at hz
    subst hz
    refine lv_iushr hx hb hd rfl ?_
    exact kk ls H locs ⟨hl, hol, jm_oks_cons trivial (jm_oks_tail (jm_oks_tail hos)), hP, hD, hS⟩
  case idiv =>
    obtain rfl : n = 1 := by simpa [jm_len, jm_sw] using hn
    obtain ⟨x, y, st2, hz, rfl, rfl⟩ := jm_ii_spec hs
    dsimp only at hz
    subst hz
    refine lv_idiv hx hb hd hc ?_
    exact kk ls H locs ⟨hl, hol, jm_oks_cons trivial (jm_oks_tail (jm_oks_tail hos)), hP, hD, hS⟩
  case irem =>
    obtain rfl : n = 1 := by simpa [jm_len, jm_sw] using hn
    obtain ⟨x, y, st2, hz, rfl, rfl⟩ := jm_ii_spec hs
    dsimp only at hz
    subst hz
    refine lv_irem hx hb hd hc ?_
    exact kk ls H locs ⟨hl, hol, jm_oks_cons trivial (jm_oks_tail (jm_oks_tail hos)), hP, hD, hS⟩
  case ladd =>
    obtain rfl : n = 1 := by simpa [jm_len, jm_sw] using hn
    obtain ⟨x, y, st2, hz, rfl, rfl⟩ := jm_ll_spec hs
    dsimp only at hz
    subst hz
    refine lv_ladd hx hb hd ?_
    exact kk ls H locs ⟨hl, hol, jm_oks_cons trivial (jm_oks_tail (jm_oks_tail hos)), hP, hD, hS⟩
  case lmul =>
    obtain rfl : n = 1 := by simpa [jm_len, jm_sw] using hn
    obtain ⟨x, y, st2, hz, rfl, rfl⟩ := jm_ll_spec hs
    dsimp only at hz
    subst hz
    refine lv_lmul hx hb hd ?_
    exact kk ls H locs ⟨hl, hol, jm_oks_cons trivial (jm_oks_tail (jm_oks_tail hos)), hP, hD, hS⟩
  case ldiv =>
    obtain rfl : n = 1 := by simpa [jm_len, jm_sw] using hn
    obtain ⟨x, y, st2, hz, rfl, rfl⟩ := jm_ll_spec hs
    dsimp only at hz
    subst hz
    refine lv_ldiv hx hb hd hc ?_
    exact kk ls H locs ⟨hl, hol, jm_oks_cons trivial (jm_oks_tail (jm_oks_tail hos)), hP, hD, hS⟩
  case lrem =>
    obtain rfl : n = 1 := by simpa [jm_len, jm_sw] using hn
    obtain ⟨x, y, st2, hz, rfl, rfl⟩ := jm_ll_spec hs
    dsimp only at hz
    subst hz
    refine lv_lrem hx hb hd hc ?_
    exact kk ls H locs ⟨hl, hol, jm_oks_cons trivial (jm_oks_tail (jm_oks_tail hos)), hP, hD, hS⟩
  case ineg =>
    obtain rfl : n = 1 := by simpa [jm_len, jm_sw] using hn
    obtain ⟨x, st2, hz, rfl, rfl⟩ := jm_u1_spec hs
    dsimp only at hz
    subst hz
    refine lv_ineg hx hb hd ?_
    exact kk ls H locs ⟨hl, hol, jm_oks_cons trivial (jm_oks_tail hos), hP, hD, hS⟩
  case i2b =>
    obtain rfl : n = 1 := by simpa [jm_len, jm_sw] using hn
    obtain ⟨x, st2, hz, rfl, rfl⟩ := jm_u1_spec hs
    dsimp only at hz
    subst hz
    refine lv_i2b hx hb hd rfl ?_
    exact kk ls H locs ⟨hl, hol, jm_oks_cons trivial (jm_oks_tail hos), hP, hD, hS⟩
  case i2s =>
    obtain rfl : n = 1 := by simpa [jm_len, jm_sw] using hn
    obtain ⟨x, st2, hz, rfl, rfl⟩ := jm_u1_spec hs
    dsimp only at hz
    subst hz
    refine lv_i2s hx hb hd rfl ?_
    exact kk ls H locs ⟨hl, hol, jm_oks_cons trivial (jm_oks_tail hos), hP, hD, hS⟩
  case i2l =>
    obtain rfl : n = 1 := by simpa [jm_len, jm_sw] using hn
    unfold jm_step at hs
    dsimp only at hs
    split at hs
    · rename_i x st2
      cases hs
      refine lv_i2l hx hb hd rfl ?_
      exact kk ls H locs ⟨hl, hol, jm_oks_cons trivial (jm_oks_tail hos), hP, hD, hS⟩
    · cases hs
  case lcmp =>
    obtain rfl : n = 1 := by simpa [jm_len, jm_sw] using hn
    unfold jm_step at hs
    dsimp only at hs
    split at hs
    · rename_i y x st2
      cases hs
      refine W.lcmp hx hb hd ?_
      exact kk ls H locs ⟨hl, hol, jm_oks_cons trivial (jm_oks_tail (jm_oks_tail hos)), hP, hD, hS⟩
    · cases hs
  case dup =>
    obtain rfl : n = 1 := by simpa [jm_len, jm_sw] using hn
    unfold jm_step at hs
    dsimp only at hs
    split at hs
    · rename_i x st2
      cases hs
      refine lv_dup hx hb hd rfl ?_
      exact kk ls H locs ⟨hl, hol, jm_oks_cons trivial hos, hP, hD, hS⟩
    · rename_i x st2
      cases hs
      refine lv_dup hx hb hd rfl ?_
      exact kk ls H locs ⟨hl, hol, jm_oks_cons (jm_oks_head hos) hos, hP, hD, hS⟩
    · cases hs
  case pop =>
    obtain rfl : n = 1 := by simpa [jm_len, jm_sw] using hn
    unfold jm_step at hs
    dsimp only at hs
    split at hs
    · rename_i x st2
      cases hs
      refine lv_pop hx hb hd rfl ?_
      exact kk ls H locs ⟨hl, hol, jm_oks_tail hos, hP, hD, hS⟩
    · cases hs
  case dup2 =>
    obtain rfl : n = 1 := by simpa [jm_len, jm_sw] using hn
    unfold jm_step at hs
    dsimp only at hs
    split at hs
    · rename_i y x st2
      cases hs
      refine lv_dup2_11 hx hb hd rfl rfl ?_
      exact kk ls H locs ⟨hl, hol, jm_oks_cons trivial (jm_oks_cons (jm_oks_head (jm_oks_tail hos)) hos), hP, hD, hS⟩
    · cases hs
  case goto z =>
    obtain rfl : n = 3 := by simpa [jm_len, jm_sw] using hn
    cases hs
    refine lv_goto hx hb hd (jm_tgt (of_decide_eq_true ho)) ?_
    exact kk ls H locs ⟨hl, hol, hos, hP, hD, hS⟩
  case ifCond cd1 z =>
    obtain rfl : n = 3 := by simpa [jm_len, jm_sw] using hn
    unfold jm_step at hs
    dsimp only at hs
    split at hs
    · rename_i x st2
      cases hs
      have htg := jm_tgt (of_decide_eq_true ho)
      have hfr : jm_Fr D A ad cs H0 r.2.2.1 (jm_br cd1 x 0 (jm_tg pc z) (pc + 3), L, st2, h) ls H locs := ⟨hl, hol, jm_oks_tail hos, hP, hD, hS⟩
      have k2 := kk ls H locs hfr
      dsimp only at k2
      cases cd1
      · exact lv_if_eq hx hb hd htg (fun q => by rw [show jm_br .eq x 0 (jm_tg pc z) (pc + 3) = jm_tg pc z from if_pos q] at k2; exact k2) (fun q => by rw [show jm_br .eq x 0 (jm_tg pc z) (pc + 3) = pc + 3 from if_neg q] at k2; exact k2)
      · exact lv_if_ne hx hb hd htg (fun q => by rw [show jm_br .ne x 0 (jm_tg pc z) (pc + 3) = jm_tg pc z from if_neg q] at k2; exact k2) (fun q => by rw [show jm_br .ne x 0 (jm_tg pc z) (pc + 3) = pc + 3 from if_pos q] at k2; exact k2)
      · exact lv_if_lt hx hb hd htg (fun q => by rw [show jm_br .lt x 0 (jm_tg pc z) (pc + 3) = jm_tg pc z from if_pos q] at k2; exact k2) (fun q => by rw [show jm_br .lt x 0 (jm_tg pc z) (pc + 3) = pc + 3 from if_neg q] at k2; exact k2)
      · exact lv_if_ge hx hb hd htg (fun q => by rw [show jm_br .ge x 0 (jm_tg pc z) (pc + 3) = jm_tg pc z from if_pos q] at k2; exact k2) (fun q => by rw [show jm_br .ge x 0 (jm_tg pc z) (pc + 3) = pc + 3 from if_neg q] at k2; exact k2)
      · exact lv_if_gt hx hb hd htg (fun q => by rw [show jm_br .gt x 0 (jm_tg pc z) (pc + 3) = jm_tg pc z from if_pos q] at k2; exact k2) (fun q => by rw [show jm_br .gt x 0 (jm_tg pc z) (pc + 3) = pc + 3 from if_neg q] at k2; exact k2)
      · exact lv_if_le hx hb hd htg (fun q => by rw [show jm_br .le x 0 (jm_tg pc z) (pc + 3) = jm_tg pc z from if_pos q] at k2; exact k2) (fun q => by rw [show jm_br .le x 0 (jm_tg pc z) (pc + 3) = pc + 3 from if_neg q] at k2; exact k2)
    · cases hs
  case if_icmp cd1 z =>
    obtain rfl : n = 3 := by simpa [jm_len, jm_sw] using hn
    unfold jm_step at hs
    dsimp only at hs
    split at hs
    · rename_i y x st2
      cases hs
      have htg := jm_tgt (of_decide_eq_true ho)
      have hfr : jm_Fr D A ad cs H0 r.2.2.1 (jm_br cd1 x y (jm_tg pc z) (pc + 3), L, st2, h) ls H locs := ⟨hl, hol, jm_oks_tail (jm_oks_tail hos), hP, hD, hS⟩
      have k2 := kk ls H locs hfr
      dsimp only at k2
      cases cd1
      · exact lv_icmp_eq hx hb hd htg (fun q => by rw [show jm_br .eq x y (jm_tg pc z) (pc + 3) = jm_tg pc z from if_pos q] at k2; exact k2) (fun q => by rw [show jm_br .eq x y (jm_tg pc z) (pc + 3) = pc + 3 from if_neg q] at k2; exact k2)
      · exact lv_icmp_ne hx hb hd htg (fun q => by rw [show jm_br .ne x y (jm_tg pc z) (pc + 3) = jm_tg pc z from if_neg q] at k2; exact k2) (fun q => by rw [show jm_br .ne x y (jm_tg pc z) (pc + 3) = pc + 3 from if_pos q] at k2; exact k2)
      · exact lv_icmp_lt hx hb hd htg (fun q => by rw [show jm_br .lt x y (jm_tg pc z) (pc + 3) = jm_tg pc z from if_pos q] at k2; exact k2) (fun q => by rw [show jm_br .lt x y (jm_tg pc z) (pc + 3) = pc + 3 from if_neg q] at k2; exact k2)
      · exact lv_icmp_ge hx hb hd htg (fun q => by rw [show jm_br .ge x y (jm_tg pc z) (pc + 3) = jm_tg pc z from if_pos q] at k2; exact k2) (fun q => by rw [show jm_br .ge x y (jm_tg pc z) (pc + 3) = pc + 3 from if_neg q] at k2; exact k2)
      · exact lv_icmp_gt hx hb hd htg (fun q => by rw [show jm_br .gt x y (jm_tg pc z) (pc + 3) = jm_tg pc z from if_pos q] at k2; exact k2) (fun q => by rw [show jm_br .gt x y (jm_tg pc z) (pc + 3) = pc + 3 from if_neg q] at k2; exact k2)
      · exact lv_icmp_le hx hb hd htg (fun q => by rw [show jm_br .le x y (jm_tg pc z) (pc + 3) = jm_tg pc z from if_pos q] at k2; exact k2) (fun q => by rw [show jm_br .le x y (jm_tg pc z) (pc + 3) = pc + 3 from if_neg q] at k2; exact k2)
    · cases hs
  case tableswitch d lo hi os =>
    unfold jm_step at hs
    dsimp only at hs
    split at hs
    · rename_i x st2
      cases hs
      simp only [jm_offok, Bool.and_eq_true, decide_eq_true_eq, List.all_eq_true] at ho
      obtain ⟨⟨⟨⟨ho1, ho2⟩, ho3⟩, ho4⟩, ho5⟩ := ho
      have hsz : (os.toList.length : Int) = (os.size : Int) := by simp
      obtain ⟨g1, g2⟩ := jm_ts_spec pc d x os.toList os.toList lo 0 (by simp) ho4 (by rw [hsz]; omega)
      have k2 := kk ls H locs ⟨hl, hol, jm_oks_tail hos, hP, hD, hS⟩
      dsimp only at k2
      by_cases hin : lo ≤ x.toInt ∧ x.toInt < lo + (os.toList.length : Int)
      · obtain ⟨o, e1, e2⟩ := g2 hin.1 hin.2
        rw [e2] at k2
        rw [Nat.zero_add] at e1
        exact lv_tableIn hx hb hd (by omega) (by rw [hsz] at hin; omega) (by rw [← Array.getElem?_toList]; exact e1) (jm_tgt (ho2 o (List.mem_of_getElem? e1))) k2
      · rw [g1 (by omega)] at k2
        exact lv_tableOut hx hb hd (by rw [hsz] at hin; omega) (jm_tgt ho1) k2
    · cases hs
  case lookupswitch d ps =>
    unfold jm_step at hs
    dsimp only at hs
    split at hs
    · rename_i x st2
      cases hs
      simp only [jm_offok, Bool.and_eq_true, decide_eq_true_eq] at ho
      obtain ⟨⟨ho1, ho2⟩, ho3⟩ := ho
      have ho2 := List.all_eq_true.mp ho2
      simp only [Bool.and_eq_true, decide_eq_true_eq] at ho2
      have k2 := kk ls H locs ⟨hl, hol, jm_oks_tail hos, hP, hD, hS⟩
      dsimp only at k2
      rw [jm_ls_spec pc d x ps.toList (fun q hq => ⟨(ho2 q hq).1.2, (ho2 q hq).2⟩)] at k2
      refine lv_lookup hx hb hd ho3 rfl (jm_tgt ?_) k2
      have key : ∀ qs : List (Int × Int), (∀ q ∈ qs, 0 ≤ (pc : Int) + q.2) → 0 ≤ (pc : Int) + Op.lookupswitch.offset qs d x.toInt := by
        intro qs
        induction qs with
        | nil => intro _; exact ho1
        | cons a t ih =>
          intro hq
          obtain ⟨a1, a2⟩ := a
          rw [Op.lookupswitch.offset_cons]
          split
          · exact hq (a1, a2) List.mem_cons_self
          · exact ih (fun q h => hq q (List.mem_cons_of_mem _ h))
      exact key ps.toList (fun q hq => (ho2 q hq).1.1)
    · cases hs
  case getfield idx =>
    obtain rfl : n = 3 := by simpa [jm_len, jm_sw] using hn
    have hs : jm_getf r.2.2.2.2.2.2 idx (pc, L, st, h) = some (cd, f') := hs
    exact jm_getf_W (f := (pc, L, st, h)) (f' := f') hx hb hown hts hK hon hd ⟨hl, hol, hos, hP, hD, hS⟩ hs kk
  case putfield idx =>
    obtain rfl : n = 3 := by simpa [jm_len, jm_sw] using hn
    have hs : jm_putf r.2.2.2.2.2.2 idx (pc, L, st, h) = some (cd, f') := hs
    exact jm_putf_W (f := (pc, L, st, h)) (f' := f') hx hb hown hts hK hon hd ⟨hl, hol, hos, hP, hD, hS⟩ hs hc kk
  case iaload =>
    obtain rfl : n = 1 := by simpa [jm_len, jm_sw] using hn
    have hs : jm_iald (pc, L, st, h) = some (cd, f') := hs
    exact jm_iald_W (f := (pc, L, st, h)) (f' := f') hx hb hK hd ⟨hl, hol, hos, hP, hD, hS⟩ hs hc kk
  case iastore =>
    obtain rfl : n = 1 := by simpa [jm_len, jm_sw] using hn
    have hs : jm_iast (pc, L, st, h) = some (cd, f') := hs
    exact jm_iast_W (f := (pc, L, st, h)) (f' := f') hx hb hK hd ⟨hl, hol, hos, hP, hD, hS⟩ hs hc kk
  case aaload =>
    obtain rfl : n = 1 := by simpa [jm_len, jm_sw] using hn
    have hs : jm_aald (pc, L, st, h) = some (cd, f') := hs
    exact jm_aald_W (f := (pc, L, st, h)) (f' := f') hx hb hK hd ⟨hl, hol, hos, hP, hD, hS⟩ hs hc kk
  case arraylength =>
    obtain rfl : n = 1 := by simpa [jm_len, jm_sw] using hn
    have hs : jm_alen (pc, L, st, h) = some (cd, f') := hs
    exact jm_alen_W (f := (pc, L, st, h)) (f' := f') hx hb hK hd ⟨hl, hol, hos, hP, hD, hS⟩ hs kk
  case invokestatic idx => exact absurd rfl (hlib idx)
  all_goals cases (show (none : Option (Option Prop × jm_F)) = some (cd, f') from hs)
def gz_ns : Instr → Bool
  | .invokestatic _ => false
  | _ => true
/-- a stretch of a method's instructions, as decoded -/
def gz_ok (r : jm_MT) (il : List jm_IT) : Bool := il.all (fun q => jm_inok (jm_con.getD r.2.2.2.2.2.2 []) r.2.1 q && gz_ns q.2.1 && (match jm_loc q.2.1 with
  | some k => decide (k < r.2.2.1)
  | none => true))
theorem gz_go (hF : jm_Fx D cs r p s m args meth c) : ∀ (il : List jm_IT) (k : Nat) (f f' : jm_F) (P : Prop) (ls : Array Slot) (H : Heap) (locs : List Loc), gz_ok r il = true → jm_go r.2.2.2.2.2.2 il k f = some (P, f') → P → jm_Fr D A ad cs H0 r.2.2.1 f ls H locs →
    (∀ (ls' : Array Slot) (H' : Heap) (locs' : List Loc), jm_Fr D A ad cs H0 r.2.2.1 f' ls' H' locs' → W p l e R s m args below meth c H' locs' cells slots Q (F0 m f'.1 ls' (f'.2.2.1.map (jm_cv ad)))) → W p l e R s m args below meth c H locs cells slots Q (F0 m f.1 ls (f.2.2.1.map (jm_cv ad))) := by
  intro il
  induction il with
  | nil =>
    intro k f f' P ls H locs _ hg hP hf kk
    cases k with
    | zero =>
      cases hg
      exact kk ls H locs hf
    | succ k => cases hg
  | cons q t ih =>
    intro k f f' P ls H locs hk hg hP hf kk
    cases k with
    | zero =>
      have e1 : some (True, f) = some (P, f') := hg
      cases e1
      exact kk ls H locs hf
    | succ k =>
      unfold gz_ok at hk
      rw [List.all_cons, Bool.and_eq_true] at hk
      obtain ⟨h1, h2⟩ := hk
      simp only [Bool.and_eq_true] at h1
      obtain ⟨⟨h3, h4⟩, h5⟩ := h1
      obtain ⟨qa, qi, qn, qv⟩ := q
      unfold jm_inok at h3
      simp only [Bool.and_eq_true, Bool.or_eq_true, decide_eq_true_eq] at h3
      obtain ⟨⟨⟨hd, hn⟩, ho⟩, hv⟩ := h3
      have hns : ∀ idx, ¬ qi = .invokestatic idx := fun idx z => by rw [z] at h4; cases h4
      have hlt : ∀ k, jm_loc qi = some k → k < r.2.2.1 := fun k hk2 => by
        dsimp only at h5
        rw [hk2] at h5
        exact of_decide_eq_true h5
      unfold jm_go at hg
      split at hg
      · rename_i g' hb hs
        have hpc : qa = f.1 := Nat.eq_of_beq_eq_true hb
        subst hpc
        exact gz_step hF hd hn ho hv hns hf hs trivial hlt (fun ls' H' locs' hf' => ih k g' f' P ls' H' locs' h2 hg hP hf' kk)
      · rename_i pp g' hb hs
        have hpc : qa = f.1 := Nat.eq_of_beq_eq_true hb
        subst hpc
        split at hg
        · rename_i P2 g2 hg2
          cases hg
          exact gz_step hF hd hn ho hv hns hf hs hP.1 hlt (fun ls' H' locs' hf' => ih k g' f' P2 ls' H' locs' h2 hg2 hP.2 hf' kk)
        · cases hg
      · cases hg
end GZS
