/-! TEXT: codes. -/
/-- what the class gets at i; the code of the character there: 0 where there is none -/
def tg (s : Nat → Nat → Nat) (e : Nat → Nat → Int32) (d i : Nat) : Int32 := if i < s d 4 then e d i else nI 0
def cc (s : Nat → Nat → Nat) (e : Nat → Nat → Int32) (d i : Nat) : Nat := (tg s e d i).toNatClampNeg
theorem eb_cs {x : Int32} (h : eb x) : (∃ c : Nat, c < 128 ∧ x = nI c) ∨ (x < 0 ∧ x.toNatClampNeg = 0) := by
  by_cases q : x < 0
  · refine Or.inr ⟨q, ?_⟩
    have := Int32.lt_iff_toInt_lt.mp q
    rw [Int32.toInt_zero] at this
    show x.toInt.toNat = 0
    omega
  · obtain ⟨c, hc, rfl⟩ := nI_of (x := x) q
    have := h.2
    rw [nI_toInt hc] at this
    exact Or.inl ⟨c, by omega, rfl⟩
theorem tg_eb {s : Nat → Nat → Nat} {e : Nat → Nat → Int32} (B : ke s e) (Y : kw s) {d : Nat} (hd : d ≤ 7) (qa : s d 0 = 2) (q3 : s d 3 = 0) (i : Nat) : eb (tg s e d i) := by
  unfold tg
  split
  · have := kw_z Y (d := d) (by omega) qa
    exact B d (by omega) qa q3 i (by omega)
  · exact eb_0
theorem tg_cs {s : Nat → Nat → Nat} {e : Nat → Nat → Int32} (B : ke s e) (Y : kw s) {d : Nat} (hd : d ≤ 7) (qa : s d 0 = 2) (q3 : s d 3 = 0) (i : Nat) : (∃ c : Nat, c < 128 ∧ tg s e d i = nI c ∧ cc s e d i = c) ∨ (tg s e d i < 0 ∧ cc s e d i = 0) := by
  rcases eb_cs (tg_eb B Y hd qa q3 i) with ⟨c, hc, q⟩ | ⟨q, r⟩
  · exact Or.inl ⟨c, hc, q, by unfold cc; rw [q, nI_clamp (by omega)]⟩
  · exact Or.inr ⟨q, r⟩
/-- digits behind a letter -/
def dg (c : Nat) : Nat := if c = 99 then 4 else if c = 102 then 3 else if c = 104 then 2 else if c = 109 then 1 else if c = 119 then 2 else if c = 120 then 3 else 0
theorem dg_le (c : Nat) : dg c ≤ 4 := by unfold dg; split; omega; split; omega; split; omega; split; omega; split; omega; split <;> omega
set_option maxHeartbeats 4000000 in
set_option maxRecDepth 20000 in
theorem tk_getx {h : jm_M} {s : Nat → Nat → Nat} {e : Nat → Nat → Int32} (K : jk_rel h s e) (Y : kw s) {d : Nat} (hd : d ≤ 7) (qa : s d 0 = 2) {i : Nat} (hi31 : i < 2 ^ 31) : jt_Pu 46 [.inr (.inr (3, d, 0)), .inl (nI i)] h (.inl (tg s e d i)) := by
  have bz := kw_z Y (d := d) (by omega) qa
  show jt_T 46 (0, [(0, .inr (.inr (3, d, 0))), (1, .inl (nI i))], [], h) _
  refine jt_go jm_m46 0 2 (f' := (2, [(0, .inr (.inr (3, d, 0))), (1, .inl (nI i))], [.inl (nI i), .inr (.inr (3, d, 0))], h)) (P := True) rfl trivial ?_
  refine jt_callp (w := .inl (jm_b (nI 0 ≤ nI i ∧ nI i < nI (s d 4)))) jm_m46 2 (mi' := 44) (as := [.inr (.inr (3, d, 0)), .inl (nI i)]) (rest := []) (nxt := 5) rfl rfl jm_m44 rfl rfl (tk_has K Y (by omega) (by assumption)) ?_
  refine jt_ifbeq jm_m46 3 (tgt := 17) (nxt := 8) rfl rfl rfl (fun c5 => ?_) (fun c5 => ?_)
  · have hi : ¬ i < s d 4 := fun z => c5 ⟨nI_pos' (by omega), (nI_ltI (by omega) (by omega)).mpr z⟩
    refine jt_go jm_m46 9 1 (f' := (18, [(0, .inr (.inr (3, d, 0))), (1, .inl (nI i))], [.inl (nI 0)], h)) (P := True) rfl trivial ?_
    refine jt_iret jm_m46 10 rfl ?_
    refine ⟨jt_li ?_, rfl⟩
    first | exact (if_pos hi).symm | exact (if_neg hi).symm
  · have hi : i < s d 4 := (nI_ltI (by omega) (by omega)).mp c5.2
    refine jt_go jm_m46 4 4 (f' := (14, [(0, .inr (.inr (3, d, 0))), (1, .inl (nI i))], [.inl (h (3, d, 1) (nI i).toNatClampNeg)], h)) (P := vp_in (nI i) 100 ∧ True) rfl ⟨(vp_in_nI (by omega) (by decide)), trivial⟩ ?_
    refine jt_ti (show (h (3, d, 1) (nI i).toNatClampNeg) = e d i from jk_cell K (d := d) (i := i) (by omega) (by assumption) (nI_clamp (by omega)) (by omega)) ?_
    refine jt_go jm_m46 8 1 (f' := (18, [(0, .inr (.inr (3, d, 0))), (1, .inl (nI i))], [.inl (e d i)], h)) (P := True) rfl trivial ?_
    refine jt_iret jm_m46 10 rfl ?_
    refine ⟨jt_li ?_, rfl⟩
    first | exact (if_pos hi).symm | exact (if_neg hi).symm
set_option maxHeartbeats 4000000 in
set_option maxRecDepth 20000 in
theorem tk_dig {h : jm_M} {c : Nat} (hc : c < 2 ^ 31) : jt_Pu 56 [.inl (nI c)] h (.inl (nI (dg c))) := by
  show jt_T 56 (0, [(0, .inl (nI c))], [], h) _
  refine jt_go jm_m56 0 1 (f' := (1, [(0, .inl (nI c))], [.inl (nI c)], h)) (P := True) rfl trivial ?_
  refine jt_ls jm_m56 1 rfl ⟨fun d0 => ?_, fun d0 => ⟨fun d1 => ?_, fun d1 => ⟨fun d2 => ?_, fun d2 => ⟨fun d3 => ?_, fun d3 => ⟨fun d4 => ?_, fun d4 => ⟨fun d5 => ?_, fun d5 => ?_⟩⟩⟩⟩⟩⟩
  · have d0 : c = 99 := nI_inj (by omega) (by decide) d0
    show jt_T 56 (60, [(0, .inl (nI c))], [], h) _
    refine jt_go jm_m56 2 1 (f' := (61, [(0, .inl (nI c))], [.inl (nI 4)], h)) (P := True) rfl trivial ?_
    refine jt_iret jm_m56 3 rfl ?_
    refine ⟨jt_ln ?_, rfl⟩
    unfold dg
    subst d0
    rfl
  · have d1 : c = 102 := nI_inj (by omega) (by decide) d1
    show jt_T 56 (64, [(0, .inl (nI c))], [], h) _
    refine jt_go jm_m56 6 1 (f' := (65, [(0, .inl (nI c))], [.inl (nI 3)], h)) (P := True) rfl trivial ?_
    refine jt_iret jm_m56 7 rfl ?_
    refine ⟨jt_ln ?_, rfl⟩
    unfold dg
    subst d1
    rfl
  · have d2 : c = 104 := nI_inj (by omega) (by decide) d2
    show jt_T 56 (70, [(0, .inl (nI c))], [], h) _
    refine jt_go jm_m56 12 1 (f' := (71, [(0, .inl (nI c))], [.inl (nI 2)], h)) (P := True) rfl trivial ?_
    refine jt_iret jm_m56 13 rfl ?_
    refine ⟨jt_ln ?_, rfl⟩
    unfold dg
    subst d2
    rfl
  · have d3 : c = 109 := nI_inj (by omega) (by decide) d3
    show jt_T 56 (62, [(0, .inl (nI c))], [], h) _
    refine jt_go jm_m56 4 1 (f' := (63, [(0, .inl (nI c))], [.inl (nI 1)], h)) (P := True) rfl trivial ?_
    refine jt_iret jm_m56 5 rfl ?_
    refine ⟨jt_ln ?_, rfl⟩
    unfold dg
    subst d3
    rfl
  · have d4 : c = 119 := nI_inj (by omega) (by decide) d4
    show jt_T 56 (68, [(0, .inl (nI c))], [], h) _
    refine jt_go jm_m56 10 1 (f' := (69, [(0, .inl (nI c))], [.inl (nI 2)], h)) (P := True) rfl trivial ?_
    refine jt_iret jm_m56 11 rfl ?_
    refine ⟨jt_ln ?_, rfl⟩
    unfold dg
    subst d4
    rfl
  · have d5 : c = 120 := nI_inj (by omega) (by decide) d5
    show jt_T 56 (66, [(0, .inl (nI c))], [], h) _
    refine jt_go jm_m56 8 1 (f' := (67, [(0, .inl (nI c))], [.inl (nI 3)], h)) (P := True) rfl trivial ?_
    refine jt_iret jm_m56 9 rfl ?_
    refine ⟨jt_ln ?_, rfl⟩
    unfold dg
    subst d5
    rfl
  · have d0 : ¬ c = 99 := fun z => d0 (by rw [z]; rfl)
    have d1 : ¬ c = 102 := fun z => d1 (by rw [z]; rfl)
    have d2 : ¬ c = 104 := fun z => d2 (by rw [z]; rfl)
    have d3 : ¬ c = 109 := fun z => d3 (by rw [z]; rfl)
    have d4 : ¬ c = 119 := fun z => d4 (by rw [z]; rfl)
    have d5 : ¬ c = 120 := fun z => d5 (by rw [z]; rfl)
    show jt_T 56 (72, [(0, .inl (nI c))], [], h) _
    refine jt_go jm_m56 14 1 (f' := (73, [(0, .inl (nI c))], [.inl (nI 0)], h)) (P := True) rfl trivial ?_
    refine jt_iret jm_m56 15 rfl ?_
    refine ⟨jt_ln ?_, rfl⟩
    unfold dg
    rw [if_neg d0, if_neg d1, if_neg d2, if_neg d3, if_neg d4, if_neg d5]
theorem jx_neglit {x : Int32} (h : x < 0) {n : Nat} (hn : n < 2 ^ 31) : ¬ x = nI n := by
  intro q
  rw [q] at h
  exact absurd ((nI_ltI hn (by decide)).mp h) (Nat.not_lt_zero _)
set_option maxHeartbeats 4000000 in
set_option maxRecDepth 20000 in
theorem tk_dign {h : jm_M} {x : Int32} (hx : x < 0) : jt_Pu 56 [.inl (x)] h (.inl (nI 0)) := by
  show jt_T 56 (0, [(0, .inl (x))], [], h) _
  refine jt_go jm_m56 0 1 (f' := (1, [(0, .inl (x))], [.inl (x)], h)) (P := True) rfl trivial ?_
  refine jt_ls jm_m56 1 rfl ⟨fun d0 => ?_, fun d0 => ⟨fun d1 => ?_, fun d1 => ⟨fun d2 => ?_, fun d2 => ⟨fun d3 => ?_, fun d3 => ⟨fun d4 => ?_, fun d4 => ⟨fun d5 => ?_, fun d5 => ?_⟩⟩⟩⟩⟩⟩
  · have d0 : x = nI 99 := d0
    show jt_T 56 (60, [(0, .inl (x))], [], h) _
    exact absurd d0 (jx_neglit hx (by decide))
  · have d1 : x = nI 102 := d1
    show jt_T 56 (64, [(0, .inl (x))], [], h) _
    exact absurd d1 (jx_neglit hx (by decide))
  · have d2 : x = nI 104 := d2
    show jt_T 56 (70, [(0, .inl (x))], [], h) _
    exact absurd d2 (jx_neglit hx (by decide))
  · have d3 : x = nI 109 := d3
    show jt_T 56 (62, [(0, .inl (x))], [], h) _
    exact absurd d3 (jx_neglit hx (by decide))
  · have d4 : x = nI 119 := d4
    show jt_T 56 (68, [(0, .inl (x))], [], h) _
    exact absurd d4 (jx_neglit hx (by decide))
  · have d5 : x = nI 120 := d5
    show jt_T 56 (66, [(0, .inl (x))], [], h) _
    exact absurd d5 (jx_neglit hx (by decide))
  · show jt_T 56 (72, [(0, .inl (x))], [], h) _
    refine jt_go jm_m56 14 1 (f' := (73, [(0, .inl (x))], [.inl (nI 0)], h)) (P := True) rfl trivial ?_
    refine jt_iret jm_m56 15 rfl ?_
    exact ⟨rfl, rfl⟩
