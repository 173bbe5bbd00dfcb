/-! TEXT: the call of the reference. -/
/-- its refusal: no row of bytes -/
def zr_b (s : Nat → Nat → Nat) (x : Int32) : Int32 := if zr_h 2 s x = nI 0 then (if s x.toNatClampNeg 3 = 0 then nI 0 else (-12)) else zr_h 2 s x
theorem zr_b_no {s : Nat → Nat → Nat} {x : Int32} (q : ¬ (nI 0 ≤ x ∧ x ≤ nI 7)) : zr_b s x = (-1) := by
  unfold zr_b
  rw [zr_no q]
  exact if_neg (by decide)
theorem zr_b_at {s : Nat → Nat → Nat} {d : Nat} (hd : d ≤ 7) : zr_b s (nI d) = if s d 0 = 0 then (-11) else if s d 0 = 2 then (if s d 3 = 0 then nI 0 else (-12)) else (-12) := by
  unfold zr_b
  rw [zr_at hd, nI_clamp (by omega)]
  by_cases q : s d 0 = 0
  · rw [if_pos q, if_pos q]; exact if_neg (by decide)
  · rw [if_neg q, if_neg q]
    by_cases r : s d 0 = 2
    · rw [if_pos r, if_pos r]; exact if_pos rfl
    · rw [if_neg r, if_neg r]; exact if_neg (by decide)
theorem zr_b_cs {s : Nat → Nat → Nat} {x : Int32} (W : kw s) : (¬ zr_b s x = nI 0 ∧ (zr_h 2 s x = nI 0 → ∃ d, d ≤ 7 ∧ x = nI d ∧ ¬ s d 3 = 0 ∧ zr_b s x = (-12)) ∧ (¬ zr_h 2 s x = nI 0 → zr_b s x = zr_h 2 s x)) ∨ (∃ d, d ≤ 7 ∧ x = nI d ∧ s d 0 = 2 ∧ s d 3 = 0 ∧ zr_h 2 s (nI d) = nI 0 ∧ zr_b s x = nI 0) := by
  rcases zr_cs (x := x) W (Or.inr rfl) with ⟨qn, q0⟩ | ⟨d, hd, rfl, qa, q0⟩ | ⟨d, hd, rfl, qa, q0⟩ | ⟨d, hd, rfl, qa, q0⟩
  · have e1 : zr_b s x = (-1) := zr_b_no qn
    refine Or.inl ⟨by rw [e1]; decide, fun z => absurd z (by rw [q0]; decide), fun _ => by rw [e1, q0]⟩
  · have e1 : zr_b s (nI d) = (-11) := (zr_b_at hd).trans (if_pos qa)
    refine Or.inl ⟨by rw [e1]; decide, fun z => absurd z (by rw [q0]; decide), fun _ => by rw [e1, q0]⟩
  · have e1 : zr_b s (nI d) = (-12) := (zr_b_at hd).trans ((if_neg (by omega)).trans (if_neg (by omega)))
    refine Or.inl ⟨by rw [e1]; decide, fun z => absurd z (by rw [q0]; decide), fun _ => by rw [e1, q0]⟩
  · by_cases r : s d 3 = 0
    · exact Or.inr ⟨d, hd, rfl, qa, r, q0, (zr_b_at hd).trans ((if_neg (by omega)).trans ((if_pos qa).trans (if_pos r)))⟩
    · have e1 : zr_b s (nI d) = (-12) := (zr_b_at hd).trans ((if_neg (by omega)).trans ((if_pos qa).trans (if_neg r)))
      exact Or.inl ⟨by rw [e1]; decide, fun _ => ⟨d, hd, rfl, r, e1⟩, fun z => absurd q0 z⟩
theorem tx_m1 : ∀ q : Nat, q < 128 → ¬ ((-1000) - nI q = 0) ∧ ¬ ((-2000) - nI q = 0) := by decide +kernel
/-- what the call changes in the reference -/
def jr_fr (h h2 : jm_M) : Prop := (∀ k : jm_K, k ≠ (5, 0, 0) → k ≠ (5, 3, 0) → k ≠ (4, 0, 0) → k ≠ (4, 0, 1) → h2 k = h k) ∧ h2 (4, 0, 0) 4 = h (4, 0, 0) 4
theorem jr_rf {h : jm_M} : jr_fr h h := ⟨fun _ _ _ _ _ => rfl, rfl⟩
theorem jr_tr {h h2 h3 : jm_M} (a : jr_fr h h2) (b : jr_fr h2 h3) : jr_fr h h3 := ⟨fun k p q r s => (b.1 k p q r s).trans (a.1 k p q r s), b.2.trans a.2⟩
theorem jr_p {h h2 : jm_M} (a : jp_fr h h2) : jr_fr h h2 := ⟨fun k _ _ r s => a.1 k r s, a.2 4 (by decide)⟩
theorem jr_0 {h h2 : jm_M} (a : jg_fr 0 h h2) : jr_fr h h2 := ⟨fun k p _ _ _ => a k p, congrFun (a (4, 0, 0) (by decide)) 4⟩
theorem jr_3 {h h2 : jm_M} (a : jg_fr 3 h h2) : jr_fr h h2 := ⟨fun k _ q _ _ => a k q, congrFun (a (4, 0, 0) (by decide)) 4⟩
theorem jr_sl {h h2 : jm_M} (a : jr_fr h h2) {i : Nat} {x : Int32} (hi : 4 ≠ i) : jr_fr h (jm_set h2 (4, 0, 0) (upd (h2 (4, 0, 0)) i x)) := ⟨fun k p q r s => (jm_set_ne r).trans (a.1 k p q r s), by rw [jm_set_eq, jx_ne hi]; exact a.2⟩
theorem jl_mvr {h h2 : jm_M} {s : Nat → Nat → Nat} {e : Nat → Nat → Int32} (K : jl_rel h s e) (F : jr_fr h h2) : jl_rel h2 s e := jl_mv K (fun k hk => F.1 k (fun z => by rw [z] at hk; exact absurd hk.1 (by decide)) (fun z => by rw [z] at hk; exact absurd hk.1 (by decide)) (fun z => by rw [z] at hk; exact absurd hk.2 (by decide)) (fun z => by rw [z] at hk; exact absurd hk.2 (by decide)))
theorem jp_mvg {h h2 : jm_M} {s : Nat → Nat → Nat} {d p a : Nat} (J : jp_st h s d p) (F : jg_fr a h h2) : jp_st h2 s d p := by
  unfold jp_st
  rw [F (4, 0, 0) (fun q => absurd (congrArg (fun z : jm_K => z.1) q) (show ¬ (4 : Nat) = 5 by decide))]
  exact J
theorem jg_mvs {h : jm_M} {a : Nat} {g : Nat → Nat} (R : jg_rel h a g) {f : Nat → Int32} : jg_rel (jm_set h (4, 0, 0) f) a g := fun i hi => by
  rw [jm_set_ne (fun q => absurd (congrArg (fun z : jm_K => z.1) q) (show ¬ (5 : Nat) = 4 by decide))]
  exact R i hi
set_option maxHeartbeats 4000000 in
set_option maxRecDepth 20000 in
theorem tl_rowb {h : jm_M} {s : Nat → Nat → Nat} {e : Nat → Nat → Int32} (K : jl_rel h s e) (Y : kw s) {x : Int32} : jt_Pu 228 [.inr (.inr (4, 0, 0)), .inl (x), .inl (nI 0)] h (.inl (zr_b s x)) := by
  show jt_T 228 (0, [(0, .inr (.inr (4, 0, 0))), (1, .inl (x)), (2, .inl (nI 0))], [], h) _
  refine jt_go jm_m228 0 1 (f' := (1, [(0, .inr (.inr (4, 0, 0))), (1, .inl (x)), (2, .inl (nI 0))], [.inl (x)], h)) (P := True) rfl trivial ?_
  refine jt_callp (w := .inl (jm_b (nI 0 ≤ x ∧ x ≤ nI 7))) jm_m228 1 (mi' := 227) (as := [.inl (x)]) (rest := []) (nxt := 4) rfl rfl jm_m227 rfl rfl (tb_shelf) ?_
  refine jt_ifbne jm_m228 2 (tgt := 11) (nxt := 7) rfl rfl rfl (fun c4 => ?_) (fun c4 => ?_)
  · obtain ⟨d, hd, rfl⟩ := jx_win (by decide) c4
    have ba := kw_a Y (d := d) (by omega)
    show jt_T 228 (11, [(0, .inr (.inr (4, 0, 0))), (1, .inl (nI d)), (2, .inl (nI 0))], [], h) _
    refine jt_go jm_m228 5 4 (f' := (17, [(0, .inr (.inr (4, 0, 0))), (1, .inl (nI d)), (2, .inl (nI 0))], [.inl (h (4, 0, 3) (nI d).toNatClampNeg)], h)) (P := vp_in (nI d) 8 ∧ True) rfl ⟨(vp_in_nI (by omega) (by decide)), trivial⟩ ?_
    refine jt_ti (show (h (4, 0, 3) (nI d).toNatClampNeg) = nI (s d 0) from jl_holds K (d := d) (nI_clamp (by omega)) (by omega)) ?_
    have bq1 := kw_a Y (d := d) (by omega)
    refine jt_nifne jm_m228 9 (by omega) (tgt := 25) (nxt := 20) rfl rfl rfl (fun c17 => ?_) (fun c17 => ?_)
    · refine jt_go jm_m228 12 4 (f' := (31, [(0, .inr (.inr (4, 0, 0))), (1, .inl (nI d)), (2, .inl (nI 0))], [.inl (h (4, 0, 3) (nI d).toNatClampNeg)], h)) (P := vp_in (nI d) 8 ∧ True) rfl ⟨(vp_in_nI (by omega) (by decide)), trivial⟩ ?_
      refine jt_ti (show (h (4, 0, 3) (nI d).toNatClampNeg) = nI (s d 0) from jl_holds K (d := d) (nI_clamp (by omega)) (by omega)) ?_
      have bq2 := kw_a Y (d := d) (by omega)
      refine jt_go jm_m228 16 1 (f' := (32, [(0, .inr (.inr (4, 0, 0))), (1, .inl (nI d)), (2, .inl (nI 0))], [.inl (nI 2), .inl (nI (s d 0))], h)) (P := True) rfl trivial ?_
      refine jt_nicne jm_m228 17 (a := s d 0) (b := 2) (by omega) (by omega) (tgt := 49) (nxt := 35) rfl rfl rfl (fun c32 => ?_) (fun c32 => ?_)
      · refine jt_go jm_m228 26 2 (f' := (55, [(0, .inr (.inr (4, 0, 0))), (1, .inl (nI d)), (2, .inl (nI 0))], [.inl ((-12))], h)) (P := True) rfl trivial ?_
        refine jt_iret jm_m228 29 rfl ?_
        refine ⟨jt_li ?_, rfl⟩
        rw [zr_b_at hd]
        first | rw [if_pos (by omega)] | (rw [if_neg (by omega)]; first | rw [if_pos (by omega), if_pos (by omega)] | rw [if_pos (by omega), if_neg (by omega)] | rw [if_neg (by omega)])
      · refine jt_go jm_m228 18 1 (f' := (36, [(0, .inr (.inr (4, 0, 0))), (1, .inl (nI d)), (2, .inl (nI 0))], [.inl (nI 0)], h)) (P := True) rfl trivial ?_
        refine jt_niflt jm_m228 19 (by omega) rfl rfl rfl (fun _ => ?_)
        refine jt_go jm_m228 20 4 (f' := (45, [(0, .inr (.inr (4, 0, 0))), (1, .inl (nI d)), (2, .inl (nI 0))], [.inl (h (4, 0, 6) (nI d).toNatClampNeg)], h)) (P := vp_in (nI d) 8 ∧ True) rfl ⟨(vp_in_nI (by omega) (by decide)), trivial⟩ ?_
        refine jt_ti (show (h (4, 0, 6) (nI d).toNatClampNeg) = nI (s d 3) from jl_sort K (d := d) (nI_clamp (by omega)) (by omega) (by assumption)) ?_
        have bq3 := kw_s Y (d := d) (by omega) (by assumption)
        refine jt_go jm_m228 24 1 (f' := (46, [(0, .inr (.inr (4, 0, 0))), (1, .inl (nI d)), (2, .inl (nI 0))], [.inl (nI 0), .inl (nI (s d 3))], h)) (P := True) rfl trivial ?_
        refine jt_niceq jm_m228 25 (a := s d 3) (b := 0) (by omega) (by omega) (tgt := 54) (nxt := 49) rfl rfl rfl (fun c46 => ?_) (fun c46 => ?_)
        · refine jt_go jm_m228 28 1 (f' := (55, [(0, .inr (.inr (4, 0, 0))), (1, .inl (nI d)), (2, .inl (nI 0))], [.inl (nI 0)], h)) (P := True) rfl trivial ?_
          refine jt_iret jm_m228 29 rfl ?_
          refine ⟨jt_li ?_, rfl⟩
          rw [zr_b_at hd]
          first | rw [if_pos (by omega)] | (rw [if_neg (by omega)]; first | rw [if_pos (by omega), if_pos (by omega)] | rw [if_pos (by omega), if_neg (by omega)] | rw [if_neg (by omega)])
        · refine jt_go jm_m228 26 2 (f' := (55, [(0, .inr (.inr (4, 0, 0))), (1, .inl (nI d)), (2, .inl (nI 0))], [.inl ((-12))], h)) (P := True) rfl trivial ?_
          refine jt_iret jm_m228 29 rfl ?_
          refine ⟨jt_li ?_, rfl⟩
          rw [zr_b_at hd]
          first | rw [if_pos (by omega)] | (rw [if_neg (by omega)]; first | rw [if_pos (by omega), if_pos (by omega)] | rw [if_pos (by omega), if_neg (by omega)] | rw [if_neg (by omega)])
    · refine jt_go jm_m228 10 2 (f' := (55, [(0, .inr (.inr (4, 0, 0))), (1, .inl (nI d)), (2, .inl (nI 0))], [.inl ((-11))], h)) (P := True) rfl trivial ?_
      refine jt_iret jm_m228 29 rfl ?_
      refine ⟨jt_li ?_, rfl⟩
      rw [zr_b_at hd]
      first | rw [if_pos (by omega)] | (rw [if_neg (by omega)]; first | rw [if_pos (by omega), if_pos (by omega)] | rw [if_pos (by omega), if_neg (by omega)] | rw [if_neg (by omega)])
  · refine jt_go jm_m228 3 2 (f' := (55, [(0, .inr (.inr (4, 0, 0))), (1, .inl (x)), (2, .inl (nI 0))], [.inl ((-1))], h)) (P := True) rfl trivial ?_
    refine jt_iret jm_m228 29 rfl ?_
    exact ⟨jt_li (zr_b_no c4).symm, rfl⟩
set_option maxHeartbeats 4000000 in
set_option maxRecDepth 20000 in
theorem tb_p1_s {h : jm_M} {s : Nat → Nat → Nat} {e : Nat → Nat → Int32} (K : jl_rel h s e) (Y : kw s) (B : ke s e) {d : Nat} (hd : d ≤ 7) (qa : s d 0 = 2) (q3 : s d 3 = 0) {p n : Nat} (hp : p ≤ 100) (J : jp_st h s d p) {Q : Option jm_V → jm_M → Prop} (kont : st_bad s e d p = none → p + dg (cc s e d p) + 2 < s d 4 → ∀ h1, jp_st h1 s d (p + dg (cc s e d p) + 2) → jp_fr h h1 → jt_T 174 (41, [(0, .inr (.inr (4, 0, 0))), (1, .inl (nI d)), (2, .inl (nI 0)), (3, .inl (nI (n + 1))), (4, .inl (nI 0))], [], h1) Q) (fin : st_bad s e d p = none → ¬ p + dg (cc s e d p) + 2 < s d 4 → ∀ h1, jp_st h1 s d (p + dg (cc s e d p) + 2) → jp_fr h h1 → jt_T 174 (77, [(0, .inr (.inr (4, 0, 0))), (1, .inl (nI d)), (2, .inl (nI 0)), (3, .inl (nI (n + 1))), (4, .inl (nI 0))], [], h1) Q) (bad : ∀ q, st_bad s e d p = some q → ∀ h1, jp_st h1 s d q → jp_fr h h1 → jt_T 174 (77, [(0, .inr (.inr (4, 0, 0))), (1, .inl (nI d)), (2, .inl (nI 0)), (3, .inl (nI (n + 1))), (4, .inl ((-1000) - nI q))], [], h1) Q)  : jt_T 174 (41, [(0, .inr (.inr (4, 0, 0))), (1, .inl (nI d)), (2, .inl (nI 0)), (3, .inl (nI n)), (4, .inl (nI 0))], [], h) (Q) := by
  have bz := kw_z Y (d := d) (by omega) qa
  refine jt_go jm_m174 27 1 (f' := (42, [(0, .inr (.inr (4, 0, 0))), (1, .inl (nI d)), (2, .inl (nI 0)), (3, .inl (nI n)), (4, .inl (nI 0))], [.inr (.inr (4, 0, 0))], h)) (P := True) rfl trivial ?_
  refine jt_call jm_m174 28 (mi' := 170) (as := [.inr (.inr (4, 0, 0))]) (rest := []) (nxt := 45) rfl rfl jm_m170 rfl rfl (tb_rs K Y B hd qa q3 hp J) ?_
  rintro u h1 ⟨rfl, Fh1, P1, P2⟩
  show jt_T 174 (45, [(0, .inr (.inr (4, 0, 0))), (1, .inl (nI d)), (2, .inl (nI 0)), (3, .inl (nI n)), (4, .inl (nI 0))], [.inl (jm_b (st_bad s e d p = none))], h1) _
  have Kh1 := jl_mvp K Fh1
  rcases so_cs (st_bad s e d p) with qs | ⟨q, qs⟩
  · obtain ⟨Jh1, Nh1⟩ := P1 qs
    refine jt_ti (show jm_b (st_bad s e d p = none) = nI 1 from jm_b_pos qs) ?_
    have hin := txs_in qs
    show jt_T 174 (45, [(0, .inr (.inr (4, 0, 0))), (1, .inl (nI d)), (2, .inl (nI 0)), (3, .inl (nI n)), (4, .inl (nI 0))], [.inl (nI 1)], h1) _
    refine jt_nifne jm_m174 29 (by omega) (tgt := 58) (nxt := 48) rfl rfl rfl (fun c45 => ?_) (fun c45 => ?_)
    · refine jt_inc jm_m174 35 (c := n) (L' := [(3, .inl (nI (n + 1))), (0, .inr (.inr (4, 0, 0))), (1, .inl (nI d)), (2, .inl (nI 0)), (4, .inl (nI 0))]) rfl rfl rfl rfl ?_
      refine jt_go jm_m174 36 1 (f' := (63, [(3, .inl (nI (n + 1))), (0, .inr (.inr (4, 0, 0))), (1, .inl (nI d)), (2, .inl (nI 0)), (4, .inl (nI 0))], [.inl (nI 0)], h1)) (P := True) rfl trivial ?_
      refine jt_nifne jm_m174 37 (by omega) (tgt := 77) (nxt := 66) rfl rfl rfl (fun c63 => ?_) (fun c63 => ?_)
      · exact absurd c63 (by decide)
      · refine jt_go jm_m174 38 2 (f' := (70, [(3, .inl (nI (n + 1))), (0, .inr (.inr (4, 0, 0))), (1, .inl (nI d)), (2, .inl (nI 0)), (4, .inl (nI 0))], [.inl (h1 (4, 0, 0) 5)], h1)) (P := True) rfl trivial ?_
        refine jt_ti (show (h1 (4, 0, 0) 5) = nI (p + dg (cc s e d p) + 2) from Jh1.1) ?_
        refine jt_go jm_m174 40 2 (f' := (74, [(3, .inl (nI (n + 1))), (0, .inr (.inr (4, 0, 0))), (1, .inl (nI d)), (2, .inl (nI 0)), (4, .inl (nI 0))], [.inl (h1 (4, 0, 0) 7), .inl (nI (p + dg (cc s e d p) + 2))], h1)) (P := True) rfl trivial ?_
        refine jt_ti (show (h1 (4, 0, 0) 7) = nI (s d 4) from Jh1.2.2) ?_
        refine jt_niclt jm_m174 42 (a := p + dg (cc s e d p) + 2) (b := s d 4) (by omega) (by omega) (tgt := 41) (nxt := 77) rfl rfl rfl (fun c74 => ?_) (fun c74 => ?_)
        · refine jt_pick (L' := [(0, .inr (.inr (4, 0, 0))), (1, .inl (nI d)), (2, .inl (nI 0)), (3, .inl (nI (n + 1))), (4, .inl (nI 0))]) [1, 2, 3, 0, 4] rfl ?_
          exact kont qs c74 h1 Jh1 Fh1
        · refine jt_pick (L' := [(0, .inr (.inr (4, 0, 0))), (1, .inl (nI d)), (2, .inl (nI 0)), (3, .inl (nI (n + 1))), (4, .inl (nI 0))]) [1, 2, 3, 0, 4] rfl ?_
          exact fin qs (by omega) h1 Jh1 Fh1
    · exact absurd c45 (by decide)
  · have Jh1 := P2 q qs
    have hq5 := txs_le qs
    refine jt_ti (show jm_b (st_bad s e d p = none) = nI 0 from jm_b_neg (fun z => by rw [qs] at z; cases z)) ?_
    show jt_T 174 (45, [(0, .inr (.inr (4, 0, 0))), (1, .inl (nI d)), (2, .inl (nI 0)), (3, .inl (nI n)), (4, .inl (nI 0))], [.inl (nI 0)], h1) _
    refine jt_nifne jm_m174 29 (by omega) (tgt := 58) (nxt := 48) rfl rfl rfl (fun c45 => ?_) (fun c45 => ?_)
    · exact absurd c45 (by decide)
    · refine jt_go jm_m174 30 3 (f' := (55, [(0, .inr (.inr (4, 0, 0))), (1, .inl (nI d)), (2, .inl (nI 0)), (3, .inl (nI n)), (4, .inl (nI 0))], [.inl (h1 (4, 0, 0) 5), .inl ((-1000))], h1)) (P := True) rfl trivial ?_
      refine jt_ti (show (h1 (4, 0, 0) 5) = nI q from Jh1.1) ?_
      refine jt_go jm_m174 33 2 (f' := (58, [(4, .inl ((-1000) - (nI q))), (0, .inr (.inr (4, 0, 0))), (1, .inl (nI d)), (2, .inl (nI 0)), (3, .inl (nI n))], [], h1)) (P := True) rfl trivial ?_
      refine jt_inc jm_m174 35 (c := n) (L' := [(3, .inl (nI (n + 1))), (4, .inl ((-1000) - (nI q))), (0, .inr (.inr (4, 0, 0))), (1, .inl (nI d)), (2, .inl (nI 0))]) rfl rfl rfl rfl ?_
      refine jt_go jm_m174 36 1 (f' := (63, [(3, .inl (nI (n + 1))), (4, .inl ((-1000) - (nI q))), (0, .inr (.inr (4, 0, 0))), (1, .inl (nI d)), (2, .inl (nI 0))], [.inl ((-1000) - (nI q))], h1)) (P := True) rfl trivial ?_
      refine jt_ifne jm_m174 37 (tgt := 77) (nxt := 66) rfl rfl rfl (fun c63 => ?_) (fun c63 => ?_)
      · refine jt_pick (L' := [(0, .inr (.inr (4, 0, 0))), (1, .inl (nI d)), (2, .inl (nI 0)), (3, .inl (nI (n + 1))), (4, .inl ((-1000) - (nI q)))]) [2, 3, 4, 0, 1] rfl ?_
        exact bad q qs h1 Jh1 Fh1
      · exact absurd c63 (tx_m1 q (by omega)).1
theorem tb_p1_n {s : Nat → Nat → Nat} {e : Nat → Nat → Int32} (Y : kw s) (B : ke s e) {d : Nat} (hd : d ≤ 7) (qa : s d 0 = 2) (q3 : s d 3 = 0) {Q : Option jm_V → jm_M → Prop} : ∀ (n p k : Nat) (h : jm_M), jl_rel h s e → jp_st h s d p → p ≤ 100 → s d 4 < p + n → 0 < n →
    (tx_bad s e d n p = none → ∀ h1 p1, jp_st h1 s d p1 → jp_fr h h1 → jt_T 174 (77, [(0, .inr (.inr (4, 0, 0))), (1, .inl (nI d)), (2, .inl (nI 0)), (3, .inl (nI (k + tx_n s e d n p))), (4, .inl (nI 0))], [], h1) Q) → (∀ q, tx_bad s e d n p = some q → ∀ k1 h1 p1, jp_st h1 s d p1 → jp_fr h h1 → jt_T 174 (77, [(0, .inr (.inr (4, 0, 0))), (1, .inl (nI d)), (2, .inl (nI 0)), (3, .inl (nI k1)), (4, .inl ((-1000) - nI q))], [], h1) Q) → jt_T 174 (41, [(0, .inr (.inr (4, 0, 0))), (1, .inl (nI d)), (2, .inl (nI 0)), (3, .inl (nI k)), (4, .inl (nI 0))], [], h) Q
  | 0, _, _, _, _, _, _, _, h0, _, _ => absurd h0 (by omega)
  | n + 1, p, k, h, K, J, hp, hn, _, good, bad => by
    have bz := kw_z Y (d := d) (by omega) qa
    have e1 : ∀ o, st_bad s e d p = o → tx_bad s e d (n + 1) p = (match o with | some q => some q | none => if p + dg (cc s e d p) + 2 < s d 4 then tx_bad s e d n (p + dg (cc s e d p) + 2) else none) := by
      intro o ho; subst ho; rfl
    refine tb_p1_s K Y B hd qa q3 hp J (fun qs c h1 J1 F1 => ?_) (fun qs c h1 J1 F1 => ?_) (fun q qs h1 J1 F1 => ?_)
    · have hin := txs_in qs
      have e2 : tx_bad s e d (n + 1) p = tx_bad s e d n (p + dg (cc s e d p) + 2) := (e1 none qs).trans (if_pos c)
      refine tb_p1_n Y B hd qa q3 n (p + dg (cc s e d p) + 2) (k + 1) h1 (jl_mvp K F1) J1 (by omega) (by omega) (by omega) (fun z h2 p1 J2 F2 => ?_) (fun q z k1 h2 p1 J2 F2 => bad q (e2.trans z) k1 h2 p1 J2 (jp_tr F1 F2))
      have := good (e2.trans z) h2 p1 J2 (jp_tr F1 F2)
      rw [tx_n_s (by omega), show k + (tx_n s e d n (p + dg (cc s e d p) + 2) + 1) = k + 1 + tx_n s e d n (p + dg (cc s e d p) + 2) by omega] at this
      exact this
    · have hin := txs_in qs
      have e2 : tx_bad s e d (n + 1) p = none := (e1 none qs).trans (if_neg c)
      have := good e2 h1 _ J1 F1
      rw [tx_n_s (by omega), tx_n_e c] at this
      exact this
    · exact bad q (e1 (some q) qs) (k + 1) h1 _ J1 F1
set_option maxHeartbeats 4000000 in
set_option maxRecDepth 20000 in
theorem tb_p2_s {h : jm_M} {s : Nat → Nat → Nat} {e : Nat → Nat → Int32} (K : jl_rel h s e) (Y : kw s) (B : ke s e) {d : Nat} (hd : d ≤ 7) (qa : s d 0 = 2) (q3 : s d 3 = 0) {g g0 : Nat → Nat} (R : jg_rel h 0 g) (V : jg_rel h 3 g0) (W : jw g) {p m : Nat} (hp : p ≤ 100) (hm : m < 2 ^ 31) (J : jp_st h s d p) (SS : p < s d 4 → st_bad s e d p = none) {Q : Option jm_V → jm_M → Prop} (kont : p < s d 4 → td_ok s e d p g = true → ∀ h1, jp_st h1 s d (p + dg (cc s e d p) + 2) → jg_rel h1 0 (td_g s e d p g) → jg_rel h1 3 g0 → jr_fr h h1 → jt_T 174 (93, [(0, .inr (.inr (4, 0, 0))), (1, .inl (nI d)), (2, .inl (nI 0)), (3, .inl (nI m)), (4, .inl (nI 0))], [], h1) Q) (bad : p < s d 4 → ¬ td_ok s e d p g = true → ∀ h1, jg_rel h1 0 g0 → jr_fr h h1 → Q (some (.inl ((-2000) - nI p))) h1) (fin : ¬ p < s d 4 → Q (some (.inl (nI m))) h)  : jt_T 174 (93, [(0, .inr (.inr (4, 0, 0))), (1, .inl (nI d)), (2, .inl (nI 0)), (3, .inl (nI m)), (4, .inl (nI 0))], [], h) (Q) := by
  have bz := kw_z Y (d := d) (by omega) qa
  refine jt_go jm_m174 51 1 (f' := (95, [(0, .inr (.inr (4, 0, 0))), (1, .inl (nI d)), (2, .inl (nI 0)), (3, .inl (nI m)), (4, .inl (nI 0))], [.inl (nI 0)], h)) (P := True) rfl trivial ?_
  refine jt_nifne jm_m174 52 (by omega) (tgt := 161) (nxt := 98) rfl rfl rfl (fun c95 => ?_) (fun c95 => ?_)
  · exact absurd c95 (by decide)
  · refine jt_go jm_m174 53 2 (f' := (102, [(0, .inr (.inr (4, 0, 0))), (1, .inl (nI d)), (2, .inl (nI 0)), (3, .inl (nI m)), (4, .inl (nI 0))], [.inl (h (4, 0, 0) 5)], h)) (P := True) rfl trivial ?_
    refine jt_ti (show (h (4, 0, 0) 5) = nI p from J.1) ?_
    refine jt_go jm_m174 55 2 (f' := (106, [(0, .inr (.inr (4, 0, 0))), (1, .inl (nI d)), (2, .inl (nI 0)), (3, .inl (nI m)), (4, .inl (nI 0))], [.inl (h (4, 0, 0) 7), .inl (nI p)], h)) (P := True) rfl trivial ?_
    refine jt_ti (show (h (4, 0, 0) 7) = nI (s d 4) from J.2.2) ?_
    refine jt_nicge jm_m174 57 (a := p) (b := s d 4) (by omega) (by omega) (tgt := 161) (nxt := 109) rfl rfl rfl (fun c106 => ?_) (fun c106 => ?_)
    · refine jt_go jm_m174 82 1 (f' := (163, [(0, .inr (.inr (4, 0, 0))), (1, .inl (nI d)), (2, .inl (nI 0)), (3, .inl (nI m)), (4, .inl (nI 0))], [.inl (nI 0)], h)) (P := True) rfl trivial ?_
      refine jt_nifne jm_m174 83 (by omega) (tgt := 170) (nxt := 166) rfl rfl rfl (fun c163 => ?_) (fun c163 => ?_)
      · exact absurd c163 (by decide)
      · refine jt_go jm_m174 84 2 (f' := (172, [(0, .inr (.inr (4, 0, 0))), (1, .inl (nI d)), (2, .inl (nI 0)), (3, .inl (nI m)), (4, .inl (nI 0))], [.inl (nI m)], h)) (P := True) rfl trivial ?_
        refine jt_iret jm_m174 87 rfl ?_
        exact fin (by omega)
    · refine jt_go jm_m174 58 2 (f' := (113, [(0, .inr (.inr (4, 0, 0))), (1, .inl (nI d)), (2, .inl (nI 0)), (3, .inl (nI m)), (4, .inl (nI 0))], [.inl (h (4, 0, 0) 5)], h)) (P := True) rfl trivial ?_
      refine jt_ti (show (h (4, 0, 0) 5) = nI p from J.1) ?_
      refine jt_go jm_m174 60 2 (f' := (116, [(5, .inl (nI p)), (0, .inr (.inr (4, 0, 0))), (1, .inl (nI d)), (2, .inl (nI 0)), (3, .inl (nI m)), (4, .inl (nI 0))], [.inr (.inr (4, 0, 0))], h)) (P := True) rfl trivial ?_
      have S := SS (by omega)
      obtain ⟨n0, A, n59⟩ := txs_of S
      have hl := dg_pos n0
      have hve : hv s e d p = nI (cc s e d p) := (hv_eq Y B hd qa q3 (by omega) (by omega)).mpr rfl
      refine jt_callp (w := .inl (nI (cc s e d p))) jm_m174 62 (mi' := 168) (as := [.inr (.inr (4, 0, 0))]) (rest := []) (nxt := 119) rfl rfl jm_m168 rfl rfl (by rw [← hve]; exact tb_here K Y B hd qa q3 (by omega) J) ?_
      refine jt_go jm_m174 63 2 (f' := (122, [(6, .inl (nI (cc s e d p))), (5, .inl (nI p)), (0, .inr (.inr (4, 0, 0))), (1, .inl (nI d)), (2, .inl (nI 0)), (3, .inl (nI m)), (4, .inl (nI 0))], [.inr (.inr (4, 0, 0))], h)) (P := True) rfl trivial ?_
      refine jt_call jm_m174 65 (mi' := 170) (as := [.inr (.inr (4, 0, 0))]) (rest := []) (nxt := 125) rfl rfl jm_m170 rfl rfl (tb_rs K Y B hd qa q3 hp J) ?_
      rintro u h1 ⟨rfl, Gh1, P1, P2⟩
      show jt_T 174 (125, [(6, .inl (nI (cc s e d p))), (5, .inl (nI p)), (0, .inr (.inr (4, 0, 0))), (1, .inl (nI d)), (2, .inl (nI 0)), (3, .inl (nI m)), (4, .inl (nI 0))], [.inl (jm_b (st_bad s e d p = none))], h1) _
      have Fh1 := jr_p Gh1
      have Kh1 := jl_mvr K Fh1
      obtain ⟨Jh1, NU⟩ := P1 S
      have Rh1 := jg_mvp R Gh1
      have Vh1 := jg_mvp V Gh1
      have hin := txs_in S
      refine jt_go jm_m174 66 3 (f' := (130, [(7, .inl (jm_b (st_bad s e d p = none))), (6, .inl (nI (cc s e d p))), (5, .inl (nI p)), (0, .inr (.inr (4, 0, 0))), (1, .inl (nI d)), (2, .inl (nI 0)), (3, .inl (nI m)), (4, .inl (nI 0))], [.inl (nI (cc s e d p)), .inr (.inr (4, 0, 0))], h1)) (P := True) rfl trivial ?_
      refine jt_call jm_m174 69 (mi' := 173) (as := [.inr (.inr (4, 0, 0)), .inl (nI (cc s e d p))]) (rest := []) (nxt := 133) rfl rfl jm_m173 rfl rfl (tb_done Rh1 W S NU) ?_
      rintro u h2 ⟨rfl, O1, O2, Gh2⟩
      show jt_T 174 (133, [(7, .inl (jm_b (st_bad s e d p = none))), (6, .inl (nI (cc s e d p))), (5, .inl (nI p)), (0, .inr (.inr (4, 0, 0))), (1, .inl (nI d)), (2, .inl (nI 0)), (3, .inl (nI m)), (4, .inl (nI 0))], [.inl (jm_b (td_ok s e d p g = true))], h2) _
      have Fh2 := jr_tr Fh1 (jr_0 Gh2)
      have Kh2 := jl_mvr K Fh2
      have Jh2 := jp_mvg Jh1 Gh2
      have Vh2 := jg_mv Vh1 Gh2 (by decide)
      refine jt_ifbeq jm_m174 70 (tgt := 139) (nxt := 136) rfl rfl rfl (fun c133 => ?_) (fun c133 => ?_)
      · refine jt_go jm_m174 72 8 (f' := (155, [(4, .inl ((-2000) - (nI p))), (7, .inl (jm_b (st_bad s e d p = none))), (6, .inl (nI (cc s e d p))), (5, .inl (nI p)), (0, .inr (.inr (4, 0, 0))), (1, .inl (nI d)), (2, .inl (nI 0)), (3, .inl (nI m))], [.inr (.inr (5, 0, 0)), .inr (.inr (5, 3, 0))], h2)) (P := True) rfl trivial ?_
        refine jt_call jm_m174 80 (mi' := 146) (as := [.inr (.inr (5, 3, 0)), .inr (.inr (5, 0, 0))]) (rest := []) (nxt := 158) rfl rfl jm_m146 rfl rfl (tb_copies Vh2 (by decide)) ?_
        rintro u h3 ⟨rfl, Rh3, Gh3⟩
        show jt_T 174 (158, [(4, .inl ((-2000) - (nI p))), (7, .inl (jm_b (st_bad s e d p = none))), (6, .inl (nI (cc s e d p))), (5, .inl (nI p)), (0, .inr (.inr (4, 0, 0))), (1, .inl (nI d)), (2, .inl (nI 0)), (3, .inl (nI m))], [], h3) _
        have Fh3 := jr_tr Fh2 (jr_0 Gh3)
        refine jt_go jm_m174 81 1 (f' := (93, [(4, .inl ((-2000) - (nI p))), (7, .inl (jm_b (st_bad s e d p = none))), (6, .inl (nI (cc s e d p))), (5, .inl (nI p)), (0, .inr (.inr (4, 0, 0))), (1, .inl (nI d)), (2, .inl (nI 0)), (3, .inl (nI m))], [], h3)) (P := True) rfl trivial ?_
        refine jt_go jm_m174 51 1 (f' := (95, [(4, .inl ((-2000) - (nI p))), (7, .inl (jm_b (st_bad s e d p = none))), (6, .inl (nI (cc s e d p))), (5, .inl (nI p)), (0, .inr (.inr (4, 0, 0))), (1, .inl (nI d)), (2, .inl (nI 0)), (3, .inl (nI m))], [.inl ((-2000) - (nI p))], h3)) (P := True) rfl trivial ?_
        refine jt_ifne jm_m174 52 (tgt := 161) (nxt := 98) rfl rfl rfl (fun c95 => ?_) (fun c95 => ?_)
        · refine jt_go jm_m174 82 1 (f' := (163, [(4, .inl ((-2000) - (nI p))), (7, .inl (jm_b (st_bad s e d p = none))), (6, .inl (nI (cc s e d p))), (5, .inl (nI p)), (0, .inr (.inr (4, 0, 0))), (1, .inl (nI d)), (2, .inl (nI 0)), (3, .inl (nI m))], [.inl ((-2000) - (nI p))], h3)) (P := True) rfl trivial ?_
          refine jt_ifne jm_m174 83 (tgt := 170) (nxt := 166) rfl rfl rfl (fun c163 => ?_) (fun c163 => ?_)
          · refine jt_go jm_m174 86 1 (f' := (172, [(4, .inl ((-2000) - (nI p))), (7, .inl (jm_b (st_bad s e d p = none))), (6, .inl (nI (cc s e d p))), (5, .inl (nI p)), (0, .inr (.inr (4, 0, 0))), (1, .inl (nI d)), (2, .inl (nI 0)), (3, .inl (nI m))], [.inl ((-2000) - (nI p))], h3)) (P := True) rfl trivial ?_
            refine jt_iret jm_m174 87 rfl ?_
            exact bad c106 c133 h3 Rh3 Fh3
          · exact absurd c163 (tx_m1 p (by omega)).2
        · exact absurd c95 (tx_m1 p (by omega)).2
      · refine jt_go jm_m174 71 1 (f' := (93, [(7, .inl (jm_b (st_bad s e d p = none))), (6, .inl (nI (cc s e d p))), (5, .inl (nI p)), (0, .inr (.inr (4, 0, 0))), (1, .inl (nI d)), (2, .inl (nI 0)), (3, .inl (nI m)), (4, .inl (nI 0))], [], h2)) (P := True) rfl trivial ?_
        refine jt_pick (L' := [(0, .inr (.inr (4, 0, 0))), (1, .inl (nI d)), (2, .inl (nI 0)), (3, .inl (nI m)), (4, .inl (nI 0))]) [3, 4, 5, 6, 7] rfl ?_
        exact kont c106 c133 h2 Jh2 (O1 c133) Vh2 Fh2
theorem tb_p2_n {s : Nat → Nat → Nat} {e : Nat → Nat → Int32} (Y : kw s) (B : ke s e) {d : Nat} (hd : d ≤ 7) (qa : s d 0 = 2) (q3 : s d 3 = 0) {g0 : Nat → Nat} {m : Nat} (hm : m < 2 ^ 31) : ∀ (n p : Nat) (g : Nat → Nat) (h : jm_M), jl_rel h s e → jg_rel h 0 g → jg_rel h 3 g0 → jw g → p ≤ 100 → jp_st h s d p → s d 4 < p + n → (p < s d 4 → tx_bad s e d n p = none) → jt_T 174 (93, [(0, .inr (.inr (4, 0, 0))), (1, .inl (nI d)), (2, .inl (nI 0)), (3, .inl (nI m)), (4, .inl (nI 0))], [], h) (fun u h' => ((tx_f s e d n p g).1 = none → u = some (.inl (nI m)) ∧ jg_rel h' 0 (tx_f s e d n p g).2) ∧ (∀ q, (tx_f s e d n p g).1 = some q → u = some (.inl ((-2000) - nI q)) ∧ jg_rel h' 0 g0) ∧ jr_fr h h')
  | 0, p, g, h, K, R, V, W, hp, J, hn, hb => by
    have q : ¬ p < s d 4 := by omega
    refine tb_p2_s K Y B hd qa q3 R V W hp hm J (fun z => absurd z q) (fun z => absurd z q) (fun z => absurd z q) (fun _ => ?_)
    rw [tx_f_e q]
    exact ⟨fun _ => ⟨rfl, R⟩, fun q2 h2 => (by cases h2), jr_rf⟩
  | n + 1, p, g, h, K, R, V, W, hp, J, hn, hb => by
    have bz := kw_z Y (d := d) (by omega) qa
    refine tb_p2_s K Y B hd qa q3 R V W hp hm J (fun z => (tx_b_s (hb z)).1) (fun c o h1 J1 R1 V1 F1 => ?_) (fun c o h1 R1 F1 => ?_) (fun q => ?_)
    · have b := tx_b_s (hb c)
      have hin := txs_in b.1
      refine jt_mono (tb_p2_n Y B hd qa q3 hm n (p + dg (cc s e d p) + 2) (td_g s e d p g) h1 (jl_mvr K F1) R1 V1 (td_jw b.1 W o) (by omega) J1 (by omega) b.2) (fun u h2 z => ?_)
      rw [tx_f_s c, if_pos o]
      exact ⟨z.1, z.2.1, jr_tr F1 z.2.2⟩
    · rw [tx_f_s c, if_neg o]
      exact ⟨fun z => (by cases z), fun q hq => (by cases hq; exact ⟨rfl, R1⟩), F1⟩
    · rw [tx_f_e q]
      exact ⟨fun _ => ⟨rfl, R⟩, fun q2 h2 => (by cases h2), jr_rf⟩
set_option maxHeartbeats 4000000 in
set_option maxRecDepth 20000 in
theorem cb_frontier {h : jm_M} {s : Nat → Nat → Nat} {e : Nat → Nat → Int32} (K : jl_rel h s e) (Y : kw s) (B : ke s e) {g : Nat → Nat} (R : jg_rel h 0 g) (W : jw g) {x : Int32}  : jt_T 174 (0, [(0, .inr (.inr (4, 0, 0))), (1, .inl (x))], [], h) (fun u h' => u = some (.inl (za_frontier g s e x)) ∧ jg_rel h' 0 (zm_frontier g s e x) ∧ jr_fr h h') := by
  refine jt_go jm_m174 0 3 (f' := (3, [(0, .inr (.inr (4, 0, 0))), (1, .inl (x))], [.inl (nI 0), .inl (x), .inr (.inr (4, 0, 0))], h)) (P := True) rfl trivial ?_
  refine jt_callp (w := .inl (zr_b s x)) jm_m174 3 (mi' := 228) (as := [.inr (.inr (4, 0, 0)), .inl (x), .inl (nI 0)]) (rest := []) (nxt := 6) rfl rfl jm_m228 rfl rfl (tl_rowb K Y) ?_
  rcases zr_b_cs (x := x) Y with ⟨qn, q1, q2⟩ | ⟨d, hd, rfl, qa, q3, q0h, q0⟩
  · skip
    show jt_T 174 (6, [(0, .inr (.inr (4, 0, 0))), (1, .inl (x))], [.inl (zr_b s x)], h) _
    refine jt_go jm_m174 4 2 (f' := (8, [(2, .inl (zr_b s x)), (0, .inr (.inr (4, 0, 0))), (1, .inl (x))], [.inl (zr_b s x)], h)) (P := True) rfl trivial ?_
    refine jt_ifeq jm_m174 6 (tgt := 13) (nxt := 11) rfl rfl rfl (fun c8 => ?_) (fun c8 => ?_)
    · exact absurd c8 qn
    · refine jt_go jm_m174 7 1 (f' := (12, [(2, .inl (zr_b s x)), (0, .inr (.inr (4, 0, 0))), (1, .inl (x))], [.inl (zr_b s x)], h)) (P := True) rfl trivial ?_
      refine jt_iret jm_m174 8 rfl ?_
      by_cases q4 : zr_h 2 s x = nI 0
      · obtain ⟨d, hd, rfl, q5, q6⟩ := q1 q4
        have zz := za_fr_at (g := g) (e := e) hd q4
        rw [zz.1, zz.2, q6]
        unfold zb_frontier zn_frontier
        rw [if_neg q5, if_neg (fun z => q5 z.1)]
        exact ⟨rfl, R, jr_rf⟩
      · have zz := za_fr_no (g := g) (e := e) q4
        rw [zz.1, zz.2, q2 q4]
        exact ⟨rfl, R, jr_rf⟩
  · refine jt_ti (show zr_b s (nI d) = nI 0 from q0) ?_
    show jt_T 174 (6, [(0, .inr (.inr (4, 0, 0))), (1, .inl (nI d))], [.inl (nI 0)], h) _
    refine jt_go jm_m174 4 2 (f' := (8, [(2, .inl (nI 0)), (0, .inr (.inr (4, 0, 0))), (1, .inl (nI d))], [.inl (nI 0)], h)) (P := True) rfl trivial ?_
    refine jt_nifeq jm_m174 6 (by omega) (tgt := 13) (nxt := 11) rfl rfl rfl (fun c8 => ?_) (fun c8 => ?_)
    · refine jt_go jm_m174 9 4 (f' := (18, [(2, .inl (nI 0)), (0, .inr (.inr (4, 0, 0))), (1, .inl (nI d))], [.inl ((nI 100) * (nI d)), .inr (.inr (4, 0, 0))], h)) (P := True) rfl trivial ?_
      refine jt_ti (show ((nI 100) * (nI d)) = nI (100 * d) from nI_mul _ _) ?_
      refine jt_goM jm_m174 13 1 (pc' := 21) (L' := [(2, .inl (nI 0)), (0, .inr (.inr (4, 0, 0))), (1, .inl (nI d))]) (st' := []) (m' := jm_set h (4, 0, 0) (upd (h (4, 0, 0)) 6 (nI (100 * d)))) (P := True) rfl trivial (fun h1 eh1 => ?_)
      have Fh1 : jr_fr h h1 := by rw [eh1]; exact jr_sl jr_rf (by decide)
      have Rh1 : jg_rel h1 0 g := by rw [eh1]; exact jg_mvs R
      have Kh1 := jl_mvr K Fh1
      have E6h1 : h1 (4, 0, 0) 6 = nI (100 * d) := by rw [eh1, jm_set_eq]; exact jx_eq _ _ _
      refine jt_go jm_m174 14 5 (f' := (28, [(2, .inl (nI 0)), (0, .inr (.inr (4, 0, 0))), (1, .inl (nI d))], [.inl (h1 (4, 0, 7) (nI d).toNatClampNeg), .inr (.inr (4, 0, 0))], h1)) (P := vp_in (nI d) 8 ∧ True) rfl ⟨(vp_in_nI (by omega) (by decide)), trivial⟩ ?_
      refine jt_ti (show (h1 (4, 0, 7) (nI d).toNatClampNeg) = nI (s d 4) from jl_size Kh1 (d := d) (nI_clamp (by omega)) (by omega) qa) ?_
      have bz := kw_z Y (d := d) (by omega) qa
      refine jt_goM jm_m174 19 1 (pc' := 31) (L' := [(2, .inl (nI 0)), (0, .inr (.inr (4, 0, 0))), (1, .inl (nI d))]) (st' := []) (m' := jm_set h1 (4, 0, 0) (upd (h1 (4, 0, 0)) 7 (nI (s d 4)))) (P := True) rfl trivial (fun h2 eh2 => ?_)
      have Fh2 : jr_fr h h2 := by rw [eh2]; exact jr_sl Fh1 (by decide)
      have Rh2 : jg_rel h2 0 g := by rw [eh2]; exact jg_mvs Rh1
      have Kh2 := jl_mvr K Fh2
      have E6h2 : h2 (4, 0, 0) 6 = nI (100 * d) := by rw [eh2, jm_set_eq, jx_ne (by decide)]; exact E6h1
      have E7h2 : h2 (4, 0, 0) 7 = nI (s d 4) := by rw [eh2, jm_set_eq]; exact jx_eq _ _ _
      refine jt_goM jm_m174 20 3 (pc' := 36) (L' := [(2, .inl (nI 0)), (0, .inr (.inr (4, 0, 0))), (1, .inl (nI d))]) (st' := []) (m' := jm_set h2 (4, 0, 0) (upd (h2 (4, 0, 0)) 5 (nI 0))) (P := True) rfl trivial (fun h3 eh3 => ?_)
      have Fh3 : jr_fr h h3 := by rw [eh3]; exact jr_sl Fh2 (by decide)
      have Rh3 : jg_rel h3 0 g := by rw [eh3]; exact jg_mvs Rh2
      have Kh3 := jl_mvr K Fh3
      have E6h3 : h3 (4, 0, 0) 6 = nI (100 * d) := by rw [eh3, jm_set_eq, jx_ne (by decide)]; exact E6h2
      have E7h3 : h3 (4, 0, 0) 7 = nI (s d 4) := by rw [eh3, jm_set_eq, jx_ne (by decide)]; exact E7h2
      have E5h3 : h3 (4, 0, 0) 5 = nI (0) := by rw [eh3, jm_set_eq]; exact jx_eq _ _ _
      refine jt_go jm_m174 23 4 (f' := (41, [(4, .inl (nI 0)), (3, .inl (nI 0)), (2, .inl (nI 0)), (0, .inr (.inr (4, 0, 0))), (1, .inl (nI d))], [], h3)) (P := True) rfl trivial ?_
      refine jt_pick (L' := [(0, .inr (.inr (4, 0, 0))), (1, .inl (nI d)), (2, .inl (nI 0)), (3, .inl (nI 0)), (4, .inl (nI 0))]) [3, 4, 2, 1, 0] rfl ?_
      refine tb_p1_n Y B hd qa q3 (s d 4 + 1) 0 0 h3 Kh3 ⟨E5h3, E6h3, E7h3⟩ (by omega) (by omega) (by omega) (fun tb h1 p1 J1 F1 => ?_) (fun q tb k1 h1 p1 J1 F1 => ?_)
      · have A1 := jr_tr Fh3 (jr_p F1)
        have K1 := jl_mvr K A1
        have R1 := jg_mvp Rh3 F1
        have tn := tx_n_le (s := s) (e := e) (d := d) (s d 4 + 1) 0
        refine jt_go jm_m174 43 4 (f' := (85, [(0, .inr (.inr (4, 0, 0))), (1, .inl (nI d)), (2, .inl (nI 0)), (3, .inl (nI (0 + tx_n s e d (s d 4 + 1) 0))), (4, .inl (nI 0))], [.inr (.inr (5, 3, 0)), .inr (.inr (5, 0, 0))], h1)) (P := True) rfl trivial ?_
        refine jt_call jm_m174 47 (mi' := 146) (as := [.inr (.inr (5, 0, 0)), .inr (.inr (5, 3, 0))]) (rest := []) (nxt := 88) rfl rfl jm_m146 rfl rfl (tb_copies R1 (by decide)) ?_
        rintro u h11 ⟨rfl, Vh11, Gh11⟩
        show jt_T 174 (88, [(0, .inr (.inr (4, 0, 0))), (1, .inl (nI d)), (2, .inl (nI 0)), (3, .inl (nI (0 + tx_n s e d (s d 4 + 1) 0))), (4, .inl (nI 0))], [], h11) _
        have Fh11 := jr_tr A1 (jr_3 Gh11)
        have Rh11 := jg_mv R1 Gh11 (by decide)
        have Kh11 := jl_mvr K Fh11
        have Jh11 := jp_mvg J1 Gh11
        refine jt_goM jm_m174 48 3 (pc' := 93) (L' := [(0, .inr (.inr (4, 0, 0))), (1, .inl (nI d)), (2, .inl (nI 0)), (3, .inl (nI (0 + tx_n s e d (s d 4 + 1) 0))), (4, .inl (nI 0))]) (st' := []) (m' := jm_set h11 (4, 0, 0) (upd (h11 (4, 0, 0)) 5 (nI 0))) (P := True) rfl trivial (fun h12 eh12 => ?_)
        have Fh12 : jr_fr h h12 := by rw [eh12]; exact jr_sl Fh11 (by decide)
        have Rh12 : jg_rel h12 0 g := by rw [eh12]; exact jg_mvs Rh11
        have Kh12 := jl_mvr K Fh12
        have Vh12 : jg_rel h12 3 g := by rw [eh12]; exact jg_mvs Vh11
        have E6h12 : h12 (4, 0, 0) 6 = nI (100 * d) := by rw [eh12, jm_set_eq, jx_ne (by decide)]; exact Jh11.2.1
        have E7h12 : h12 (4, 0, 0) 7 = nI (s d 4) := by rw [eh12, jm_set_eq, jx_ne (by decide)]; exact Jh11.2.2
        have E5h12 : h12 (4, 0, 0) 5 = nI (0) := by rw [eh12, jm_set_eq]; exact jx_eq _ _ _
        refine jt_pick (L' := [(0, .inr (.inr (4, 0, 0))), (1, .inl (nI d)), (2, .inl (nI 0)), (3, .inl (nI (0 + tx_n s e d (s d 4 + 1) 0))), (4, .inl (nI 0))]) [0, 1, 2, 3, 4] rfl ?_
        refine jt_mono (tb_p2_n Y B hd qa q3 (by omega) (s d 4 + 1) 0 g h12 Kh12 Rh12 Vh12 W (by omega) ⟨E5h12, E6h12, E7h12⟩ (by omega) (fun _ => tb)) (fun u h2 z => ?_)
        have zz := za_fr_at (g := g) (e := e) hd q0h
        rw [zz.1, zz.2]
        unfold zb_frontier zn_frontier
        rw [if_pos q3, if_pos ((tx_v_no bz).mpr tb)]
        cases qf : (tx_f s e d (s d 4 + 1) 0 g).1 with
        | none =>
          obtain ⟨z1, z2⟩ := z.1 qf
          rw [if_pos ⟨q3, tb, rfl⟩]
          rw [Nat.zero_add] at z1
          exact ⟨z1, z2, jr_tr Fh12 z.2.2⟩
        | some q =>
          obtain ⟨z1, z2⟩ := z.2.1 q qf
          rw [if_neg (fun z => by cases z.2.2)]
          exact ⟨z1, z2, jr_tr Fh12 z.2.2⟩
      · have A1 := jr_tr Fh3 (jr_p F1)
        have K1 := jl_mvr K A1
        have R1 := jg_mvp Rh3 F1
        have tq := tx_bad_le bz _ _ _ (by omega) tb
        refine jt_go jm_m174 43 4 (f' := (85, [(0, .inr (.inr (4, 0, 0))), (1, .inl (nI d)), (2, .inl (nI 0)), (3, .inl (nI k1)), (4, .inl ((-1000) - nI q))], [.inr (.inr (5, 3, 0)), .inr (.inr (5, 0, 0))], h1)) (P := True) rfl trivial ?_
        refine jt_call jm_m174 47 (mi' := 146) (as := [.inr (.inr (5, 0, 0)), .inr (.inr (5, 3, 0))]) (rest := []) (nxt := 88) rfl rfl jm_m146 rfl rfl (tb_copies R1 (by decide)) ?_
        rintro u h21 ⟨rfl, Vh21, Gh21⟩
        show jt_T 174 (88, [(0, .inr (.inr (4, 0, 0))), (1, .inl (nI d)), (2, .inl (nI 0)), (3, .inl (nI k1)), (4, .inl ((-1000) - nI q))], [], h21) _
        have Fh21 := jr_tr A1 (jr_3 Gh21)
        have Rh21 := jg_mv R1 Gh21 (by decide)
        have Kh21 := jl_mvr K Fh21
        have Jh21 := jp_mvg J1 Gh21
        refine jt_goM jm_m174 48 3 (pc' := 93) (L' := [(0, .inr (.inr (4, 0, 0))), (1, .inl (nI d)), (2, .inl (nI 0)), (3, .inl (nI k1)), (4, .inl ((-1000) - nI q))]) (st' := []) (m' := jm_set h21 (4, 0, 0) (upd (h21 (4, 0, 0)) 5 (nI 0))) (P := True) rfl trivial (fun h22 eh22 => ?_)
        have Fh22 : jr_fr h h22 := by rw [eh22]; exact jr_sl Fh21 (by decide)
        have Rh22 : jg_rel h22 0 g := by rw [eh22]; exact jg_mvs Rh21
        have Kh22 := jl_mvr K Fh22
        have Vh22 : jg_rel h22 3 g := by rw [eh22]; exact jg_mvs Vh21
        have E6h22 : h22 (4, 0, 0) 6 = nI (100 * d) := by rw [eh22, jm_set_eq, jx_ne (by decide)]; exact Jh21.2.1
        have E7h22 : h22 (4, 0, 0) 7 = nI (s d 4) := by rw [eh22, jm_set_eq, jx_ne (by decide)]; exact Jh21.2.2
        have E5h22 : h22 (4, 0, 0) 5 = nI (0) := by rw [eh22, jm_set_eq]; exact jx_eq _ _ _
        refine jt_go jm_m174 51 1 (f' := (95, [(0, .inr (.inr (4, 0, 0))), (1, .inl (nI d)), (2, .inl (nI 0)), (3, .inl (nI k1)), (4, .inl ((-1000) - nI q))], [.inl ((-1000) - nI q)], h22)) (P := True) rfl trivial ?_
        refine jt_ifne jm_m174 52 (tgt := 161) (nxt := 98) rfl rfl rfl (fun c95 => ?_) (fun c95 => ?_)
        · refine jt_go jm_m174 82 1 (f' := (163, [(0, .inr (.inr (4, 0, 0))), (1, .inl (nI d)), (2, .inl (nI 0)), (3, .inl (nI k1)), (4, .inl ((-1000) - nI q))], [.inl ((-1000) - nI q)], h22)) (P := True) rfl trivial ?_
          refine jt_ifne jm_m174 83 (tgt := 170) (nxt := 166) rfl rfl rfl (fun c163 => ?_) (fun c163 => ?_)
          · refine jt_go jm_m174 86 1 (f' := (172, [(0, .inr (.inr (4, 0, 0))), (1, .inl (nI d)), (2, .inl (nI 0)), (3, .inl (nI k1)), (4, .inl ((-1000) - nI q))], [.inl ((-1000) - nI q)], h22)) (P := True) rfl trivial ?_
            refine jt_iret jm_m174 87 rfl ?_
            have zz := za_fr_at (g := g) (e := e) hd q0h
            rw [zz.1, zz.2]
            have tv : tx_v (tx_bad s e d (s d 4 + 1) 0) = nI q := by rw [tb]; rfl
            have t1 : ¬ tx_v (tx_bad s e d (s d 4 + 1) 0) = (-1) := fun z => by
              have z := (tx_v_no bz).mp z
              rw [tb] at z
              cases z
            unfold zb_frontier zn_frontier
            rw [if_pos q3, if_neg t1, if_neg (fun z => t1 ((tx_v_no bz).mpr z.2.1)), tv]
            exact ⟨rfl, Rh22, Fh22⟩
          · exact absurd c163 (tx_m1 q (by omega)).1
        · exact absurd c95 (tx_m1 q (by omega)).1
    · exact absurd c8 (by decide)
