/-! SHELVES: put, element. -/
theorem jx_sz {y : Int32} {n : Nat} (hn : n ≤ 100) : (nI 0 ≤ y ∧ y ≤ nI n - nI 1) ↔ (nI 0 ≤ y ∧ y < nI n) := by
  constructor
  · rintro ⟨a, b⟩
    obtain ⟨j, hj, rfl⟩ := nI_of (x := y) (Int32.not_lt.mpr a)
    refine ⟨a, (nI_ltI hj (by omega)).mpr ?_⟩
    rcases Nat.eq_zero_or_pos n with q | q
    · subst q
      exact absurd (Int32.le_trans a b) (by decide)
    · rw [nI_subN (by omega)] at b
      have := (nI_leI hj (by omega)).mp b
      omega
  · rintro ⟨a, b⟩
    obtain ⟨j, hj, rfl⟩ := nI_of (x := y) (Int32.not_lt.mpr a)
    have := (nI_ltI hj (by omega)).mp b
    refine ⟨a, ?_⟩
    rw [nI_subN (by omega)]
    exact (nI_leI hj (by omega)).mpr (by omega)
section JKE
variable {h h2 : jm_M} {s : Nat → Nat → Nat} {e : Nat → Nat → Int32} {d : Nat} {u : Nat → Int32}
theorem jk_pute (K : jk_rel h s e) (F : ∀ k : jm_K, ¬ (k.1 = 3 ∧ k.2.1 = d) → h2 k = h k) (n : jk_one h2 d (s d) u) : jk_rel h2 s (ks_put e d u) := by
  have w := jk_put K F n
  rw [ks_self] at w
  exact w
theorem jl_pute (K : jl_rel h s e) (F : ∀ d2, d2 < 8 → ¬ d2 = d → jl_one h d2 (s d2) (e d2) → jl_one h2 d2 (s d2) (e d2)) (n : jl_one h2 d (s d) u) : jl_rel h2 s (ks_put e d u) := by
  have w := jl_put K F n
  rw [ks_self] at w
  exact w
end JKE
def sp_tr (k : Nat) (v : Int32) : Int32 := if k = 0 then v.toInt8.toInt32 else if k = 1 then v.toInt16.toInt32 else v
/-- whether the row has y -/
abbrev el_ok (s : Nat → Nat → Nat) (x y : Int32) : Prop := nI 0 ≤ y ∧ y < nI (s x.toNatClampNeg 4)
def za_put (s : Nat → Nat → Nat) (x y : Int32) : Int32 := if zr_h 2 s x = nI 0 then (if el_ok s x y then nI 0 else (-13)) else zr_h 2 s x
def ze_put (s : Nat → Nat → Nat) (e : Nat → Nat → Int32) (x y v : Int32) : Nat → Nat → Int32 := if zr_h 2 s x = nI 0 ∧ el_ok s x y then ks_put e x.toNatClampNeg (fun i => if i = y.toNatClampNeg then sp_tr (s x.toNatClampNeg 3) v else e x.toNatClampNeg i) else e
theorem ze_no {s : Nat → Nat → Nat} {e : Nat → Nat → Int32} {x y v : Int32} (q : ¬ (zr_h 2 s x = nI 0 ∧ el_ok s x y)) : ze_put s e x y v = e := if_neg q
set_option maxHeartbeats 4000000 in
set_option maxRecDepth 20000 in
theorem tk_has {h : jm_M} {s : Nat → Nat → Nat} {e : Nat → Nat → Int32} (K : jk_rel h s e) (Y : kw s) {d : Nat} (hd : d ≤ 7) (qa : s d 0 = 2) {y : Int32} : jt_Pu 44 [.inr (.inr (3, d, 0)), .inl (y)] h (.inl (jm_b (nI 0 ≤ y ∧ y < nI (s d 4)))) := by
  show jt_T 44 (0, [(0, .inr (.inr (3, d, 0))), (1, .inl (y))], [], h) _
  refine jt_go jm_m44 0 1 (f' := (1, [(0, .inr (.inr (3, d, 0))), (1, .inl (y))], [.inl (y)], h)) (P := True) rfl trivial ?_
  refine jt_iflt jm_m44 1 (tgt := 16) (nxt := 4) rfl rfl rfl (fun c1 => ?_) (fun c1 => ?_)
  · refine jt_go jm_m44 8 1 (f' := (17, [(0, .inr (.inr (3, d, 0))), (1, .inl (y))], [.inl (nI 0)], h)) (P := True) rfl trivial ?_
    refine jt_zret jm_m44 9 rfl (Or.inl rfl) ?_
    exact ⟨jt_lb0 (fun z => absurd c1 (Int32.not_lt.mpr z.1)), rfl⟩
  · refine jt_go jm_m44 2 3 (f' := (9, [(0, .inr (.inr (3, d, 0))), (1, .inl (y))], [.inl (h (3, d, 0) 4), .inl (y)], h)) (P := True) rfl trivial ?_
    refine jt_ti (show (h (3, d, 0) 4) = nI (s d 4) from jk_size K (d := d) (by omega) (by assumption)) ?_
    have bq1 := kw_z Y (d := d) (by omega) (by assumption)
    refine jt_icge jm_m44 5 (tgt := 16) (nxt := 12) rfl rfl rfl (fun c9 => ?_) (fun c9 => ?_)
    · refine jt_go jm_m44 8 1 (f' := (17, [(0, .inr (.inr (3, d, 0))), (1, .inl (y))], [.inl (nI 0)], h)) (P := True) rfl trivial ?_
      refine jt_zret jm_m44 9 rfl (Or.inl rfl) ?_
      exact ⟨jt_lb0 (fun z => c9 z.2), rfl⟩
    · refine jt_go jm_m44 6 2 (f' := (17, [(0, .inr (.inr (3, d, 0))), (1, .inl (y))], [.inl (nI 1)], h)) (P := True) rfl trivial ?_
      refine jt_zret jm_m44 9 rfl (Or.inr rfl) ?_
      exact ⟨jt_lb1 (⟨Int32.not_lt.mp c1, c9⟩), rfl⟩
set_option maxHeartbeats 4000000 in
set_option maxRecDepth 20000 in
theorem tk_get {h : jm_M} {s : Nat → Nat → Nat} {e : Nat → Nat → Int32} (K : jk_rel h s e) (Y : kw s) {d : Nat} (hd : d ≤ 7) (qa : s d 0 = 2) {i : Nat} (hi : i < s d 4) : jt_Pu 46 [.inr (.inr (3, d, 0)), .inl (nI i)] h (.inl (e d i)) := by
  have bz := kw_z Y (d := d) (by omega) qa
  show jt_T 46 (0, [(0, .inr (.inr (3, d, 0))), (1, .inl (nI i))], [], h) _
  refine jt_go jm_m46 0 2 (f' := (2, [(0, .inr (.inr (3, d, 0))), (1, .inl (nI i))], [.inl (nI i), .inr (.inr (3, d, 0))], h)) (P := True) rfl trivial ?_
  refine jt_callp (w := .inl (jm_b (nI 0 ≤ nI i ∧ nI i < nI (s d 4)))) jm_m46 2 (mi' := 44) (as := [.inr (.inr (3, d, 0)), .inl (nI i)]) (rest := []) (nxt := 5) rfl rfl jm_m44 rfl rfl (tk_has K Y (by omega) (by assumption)) ?_
  refine jt_ifbeq jm_m46 3 (tgt := 17) (nxt := 8) rfl rfl rfl (fun c5 => ?_) (fun c5 => ?_)
  · exact absurd ⟨nI_pos' (by omega), (nI_ltI (by omega) (by omega)).mpr hi⟩ c5
  · refine jt_go jm_m46 4 4 (f' := (14, [(0, .inr (.inr (3, d, 0))), (1, .inl (nI i))], [.inl (h (3, d, 1) (nI i).toNatClampNeg)], h)) (P := vp_in (nI i) 100 ∧ True) rfl ⟨(vp_in_nI (by omega) (by decide)), trivial⟩ ?_
    refine jt_ti (show (h (3, d, 1) (nI i).toNatClampNeg) = e d i from jk_cell K (d := d) (i := i) (by omega) (by assumption) (nI_clamp (by omega)) (by omega)) ?_
    refine jt_go jm_m46 8 1 (f' := (18, [(0, .inr (.inr (3, d, 0))), (1, .inl (nI i))], [.inl (e d i)], h)) (P := True) rfl trivial ?_
    refine jt_iret jm_m46 10 rfl ?_
    exact ⟨rfl, rfl⟩
set_option maxHeartbeats 4000000 in
set_option maxRecDepth 20000 in
theorem tk_set {h : jm_M} {s : Nat → Nat → Nat} {e : Nat → Nat → Int32} (K : jk_rel h s e) (Y : kw s) {d : Nat} (hd : d ≤ 7) (qa : s d 0 = 2) {i : Nat} {v : Int32} (hi : i < s d 4) : jt_T 47 (0, [(0, .inr (.inr (3, d, 0))), (1, .inl (nI i)), (2, .inl (v))], [], h) (fun u h' => u = none ∧ h' = jm_set h (3, d, 1) (upd (h (3, d, 1)) i (sp_tr (s d 3) v))) := by
  have bz := kw_z Y (d := d) (by omega) qa
  refine jt_go jm_m47 0 2 (f' := (2, [(0, .inr (.inr (3, d, 0))), (1, .inl (nI i)), (2, .inl (v))], [.inl (nI i), .inr (.inr (3, d, 0))], h)) (P := True) rfl trivial ?_
  refine jt_callp (w := .inl (jm_b (nI 0 ≤ nI i ∧ nI i < nI (s d 4)))) jm_m47 2 (mi' := 44) (as := [.inr (.inr (3, d, 0)), .inl (nI i)]) (rest := []) (nxt := 5) rfl rfl jm_m44 rfl rfl (tk_has K Y (by omega) (by assumption)) ?_
  refine jt_ifbne jm_m47 3 (tgt := 9) (nxt := 8) rfl rfl rfl (fun c5 => ?_) (fun c5 => ?_)
  · refine jt_go jm_m47 5 2 (f' := (13, [(0, .inr (.inr (3, d, 0))), (1, .inl (nI i)), (2, .inl (v))], [.inl (h (3, d, 0) 3)], h)) (P := True) rfl trivial ?_
    refine jt_ti (show (h (3, d, 0) 3) = nI (s d 3) from jk_sort K (d := d) (by omega) (by assumption)) ?_
    have bq1 := kw_s Y (d := d) (by omega) (by assumption)
    refine jt_ls jm_m47 7 rfl ⟨fun d0 => ?_, fun d0 => ⟨fun d1 => ?_, fun d1 => ?_⟩⟩
    · have d0 : s d 3 = 0 := nI_inj (by omega) (by decide) d0
      show jt_T 47 (40, [(0, .inr (.inr (3, d, 0))), (1, .inl (nI i)), (2, .inl (v))], [], h) _
      refine jt_goM jm_m47 8 6 (pc' := 48) (L' := [(0, .inr (.inr (3, d, 0))), (1, .inl (nI i)), (2, .inl (v))]) (st' := []) (m' := jm_set h (3, d, 1) (upd (h (3, d, 1)) (nI i).toNatClampNeg v.toInt8.toInt32)) (P := vp_in (nI i) 100 ∧ True) rfl ⟨(vp_in_nI (by omega) (by decide)), trivial⟩ (fun h1 eh1 => ?_)
      refine jt_go jm_m47 14 1 (f' := (69, [(0, .inr (.inr (3, d, 0))), (1, .inl (nI i)), (2, .inl (v))], [], h1)) (P := True) rfl trivial ?_
      refine jt_vret jm_m47 27 rfl ?_
      refine ⟨rfl, ?_⟩
      rw [eh1, nI_clamp (by omega)]
      unfold sp_tr
      first | rw [if_pos d0] | rw [if_neg d0, if_pos d1] | rw [if_neg d0, if_neg d1] | (rw [if_neg (by omega), if_pos d1])
    · have d1 : s d 3 = 1 := nI_inj (by omega) (by decide) d1
      show jt_T 47 (51, [(0, .inr (.inr (3, d, 0))), (1, .inl (nI i)), (2, .inl (v))], [], h) _
      refine jt_goM jm_m47 15 6 (pc' := 59) (L' := [(0, .inr (.inr (3, d, 0))), (1, .inl (nI i)), (2, .inl (v))]) (st' := []) (m' := jm_set h (3, d, 1) (upd (h (3, d, 1)) (nI i).toNatClampNeg v.toInt16.toInt32)) (P := vp_in (nI i) 100 ∧ True) rfl ⟨(vp_in_nI (by omega) (by decide)), trivial⟩ (fun h2 eh2 => ?_)
      refine jt_go jm_m47 21 1 (f' := (69, [(0, .inr (.inr (3, d, 0))), (1, .inl (nI i)), (2, .inl (v))], [], h2)) (P := True) rfl trivial ?_
      refine jt_vret jm_m47 27 rfl ?_
      refine ⟨rfl, ?_⟩
      rw [eh2, nI_clamp (by omega)]
      unfold sp_tr
      first | rw [if_pos d0] | rw [if_neg d0, if_pos d1] | rw [if_neg d0, if_neg d1] | (rw [if_neg (by omega), if_pos d1])
    · have d0 : ¬ s d 3 = 0 := fun z => d0 (by rw [z]; rfl)
      have d1 : ¬ s d 3 = 1 := fun z => d1 (by rw [z]; rfl)
      show jt_T 47 (62, [(0, .inr (.inr (3, d, 0))), (1, .inl (nI i)), (2, .inl (v))], [], h) _
      refine jt_goM jm_m47 22 5 (pc' := 69) (L' := [(0, .inr (.inr (3, d, 0))), (1, .inl (nI i)), (2, .inl (v))]) (st' := []) (m' := jm_set h (3, d, 1) (upd (h (3, d, 1)) (nI i).toNatClampNeg v)) (P := vp_in (nI i) 100 ∧ True) rfl ⟨(vp_in_nI (by omega) (by decide)), trivial⟩ (fun h3 eh3 => ?_)
      refine jt_vret jm_m47 27 rfl ?_
      refine ⟨rfl, ?_⟩
      rw [eh3, nI_clamp (by omega)]
      unfold sp_tr
      first | rw [if_pos d0] | rw [if_neg d0, if_pos d1] | rw [if_neg d0, if_neg d1] | (rw [if_neg (by omega), if_pos d1])
  · exact absurd ⟨nI_pos' (by omega), (nI_ltI (by omega) (by omega)).mpr hi⟩ c5
set_option maxHeartbeats 4000000 in
set_option maxRecDepth 20000 in
theorem ck_put {h : jm_M} {s : Nat → Nat → Nat} {e : Nat → Nat → Int32} (K : jk_rel h s e) (Y : kw s) {x y v : Int32} : jt_T 129 (0, [(0, .inr (.inr (0, 0, 0))), (1, .inl (x)), (2, .inl (y)), (3, .inl (v))], [], h) (fun u h' => u = some (.inl (za_put s x y)) ∧ jk_rel h' s (ze_put s e x y v) ∧ jk_fr h h') := by
  refine jt_go jm_m129 0 2 (f' := (2, [(0, .inr (.inr (0, 0, 0))), (1, .inl (x)), (2, .inl (y)), (3, .inl (v))], [.inl (x), .inr (.inr (0, 0, 0))], h)) (P := True) rfl trivial ?_
  refine jt_callp (w := .inl (zr_h 2 s x)) jm_m129 2 (mi' := 133) (as := [.inr (.inr (0, 0, 0)), .inl (x)]) (rest := []) (nxt := 5) rfl rfl jm_m133 rfl rfl (tk_row K Y) ?_
  rcases zr_cs (x := x) Y (Or.inr rfl) with ⟨qn, q0⟩ | ⟨d, hd, rfl, qa, q0⟩ | ⟨d, hd, rfl, qa, q0⟩ | ⟨d, hd, rfl, qa, q0⟩
  · refine jt_ti (show zr_h 2 s x = (-1) from q0) ?_
    show jt_T 129 (5, [(0, .inr (.inr (0, 0, 0))), (1, .inl (x)), (2, .inl (y)), (3, .inl (v))], [.inl ((-1))], h) _
    refine jt_go jm_m129 3 2 (f' := (9, [(4, .inl ((-1))), (0, .inr (.inr (0, 0, 0))), (1, .inl (x)), (2, .inl (y)), (3, .inl (v))], [.inl ((-1))], h)) (P := True) rfl trivial ?_
    refine jt_ifeq jm_m129 5 (tgt := 15) (nxt := 12) rfl rfl rfl (fun c9 => ?_) (fun c9 => ?_)
    · exact absurd c9 (by decide)
    · refine jt_go jm_m129 6 1 (f' := (14, [(4, .inl ((-1))), (0, .inr (.inr (0, 0, 0))), (1, .inl (x)), (2, .inl (y)), (3, .inl (v))], [.inl ((-1))], h)) (P := True) rfl trivial ?_
      refine jt_iret jm_m129 7 rfl ?_
      refine ⟨jt_li ?_, ?_, jk_fr_rf⟩
      · unfold za_put
        rw [q0]
        rfl
      · rw [ze_no (fun z => absurd (q0.symm.trans z.1) (by decide))]
        exact K
  · refine jt_ti (show zr_h 2 s (nI d) = (-11) from q0) ?_
    show jt_T 129 (5, [(0, .inr (.inr (0, 0, 0))), (1, .inl (nI d)), (2, .inl (y)), (3, .inl (v))], [.inl ((-11))], h) _
    refine jt_go jm_m129 3 2 (f' := (9, [(4, .inl ((-11))), (0, .inr (.inr (0, 0, 0))), (1, .inl (nI d)), (2, .inl (y)), (3, .inl (v))], [.inl ((-11))], h)) (P := True) rfl trivial ?_
    refine jt_ifeq jm_m129 5 (tgt := 15) (nxt := 12) rfl rfl rfl (fun c9 => ?_) (fun c9 => ?_)
    · exact absurd c9 (by decide)
    · refine jt_go jm_m129 6 1 (f' := (14, [(4, .inl ((-11))), (0, .inr (.inr (0, 0, 0))), (1, .inl (nI d)), (2, .inl (y)), (3, .inl (v))], [.inl ((-11))], h)) (P := True) rfl trivial ?_
      refine jt_iret jm_m129 7 rfl ?_
      refine ⟨jt_li ?_, ?_, jk_fr_rf⟩
      · unfold za_put
        rw [q0]
        rfl
      · rw [ze_no (fun z => absurd (q0.symm.trans z.1) (by decide))]
        exact K
  · refine jt_ti (show zr_h 2 s (nI d) = (-12) from q0) ?_
    show jt_T 129 (5, [(0, .inr (.inr (0, 0, 0))), (1, .inl (nI d)), (2, .inl (y)), (3, .inl (v))], [.inl ((-12))], h) _
    refine jt_go jm_m129 3 2 (f' := (9, [(4, .inl ((-12))), (0, .inr (.inr (0, 0, 0))), (1, .inl (nI d)), (2, .inl (y)), (3, .inl (v))], [.inl ((-12))], h)) (P := True) rfl trivial ?_
    refine jt_ifeq jm_m129 5 (tgt := 15) (nxt := 12) rfl rfl rfl (fun c9 => ?_) (fun c9 => ?_)
    · exact absurd c9 (by decide)
    · refine jt_go jm_m129 6 1 (f' := (14, [(4, .inl ((-12))), (0, .inr (.inr (0, 0, 0))), (1, .inl (nI d)), (2, .inl (y)), (3, .inl (v))], [.inl ((-12))], h)) (P := True) rfl trivial ?_
      refine jt_iret jm_m129 7 rfl ?_
      refine ⟨jt_li ?_, ?_, jk_fr_rf⟩
      · unfold za_put
        rw [q0]
        rfl
      · rw [ze_no (fun z => absurd (q0.symm.trans z.1) (by decide))]
        exact K
  · refine jt_ti (show zr_h 2 s (nI d) = nI 0 from q0) ?_
    show jt_T 129 (5, [(0, .inr (.inr (0, 0, 0))), (1, .inl (nI d)), (2, .inl (y)), (3, .inl (v))], [.inl (nI 0)], h) _
    refine jt_go jm_m129 3 2 (f' := (9, [(4, .inl (nI 0)), (0, .inr (.inr (0, 0, 0))), (1, .inl (nI d)), (2, .inl (y)), (3, .inl (v))], [.inl (nI 0)], h)) (P := True) rfl trivial ?_
    refine jt_nifeq jm_m129 5 (by omega) (tgt := 15) (nxt := 12) rfl rfl rfl (fun c9 => ?_) (fun c9 => ?_)
    · refine jt_go jm_m129 8 4 (f' := (21, [(4, .inl (nI 0)), (0, .inr (.inr (0, 0, 0))), (1, .inl (nI d)), (2, .inl (y)), (3, .inl (v))], [.inr (.inr (3, (nI d).toNatClampNeg, 0))], h)) (P := vp_in (nI d) 8 ∧ True) rfl ⟨(vp_in_nI (by omega) (by decide)), trivial⟩ ?_
      refine jt_tr (show ((3, (nI d).toNatClampNeg, 0) : jm_K) = (3, d, 0) by rw [nI_clamp (by omega)]) ?_
      refine jt_go jm_m129 12 1 (f' := (22, [(4, .inl (nI 0)), (0, .inr (.inr (0, 0, 0))), (1, .inl (nI d)), (2, .inl (y)), (3, .inl (v))], [.inl (y), .inr (.inr (3, d, 0))], h)) (P := True) rfl trivial ?_
      refine jt_callp (w := .inl (jm_b (nI 0 ≤ y ∧ y < nI (s d 4)))) jm_m129 13 (mi' := 44) (as := [.inr (.inr (3, d, 0)), .inl (y)]) (rest := []) (nxt := 25) rfl rfl jm_m44 rfl rfl (tk_has K Y (by omega) (by assumption)) ?_
      refine jt_ifbne jm_m129 14 (tgt := 31) (nxt := 28) rfl rfl rfl (fun c25 => ?_) (fun c25 => ?_)
      · have bz := kw_z Y (d := d) (by omega) qa
        obtain ⟨i, hi, rfl⟩ := jx_cat (by omega) c25
        show jt_T 129 (31, [(4, .inl (nI 0)), (0, .inr (.inr (0, 0, 0))), (1, .inl (nI d)), (2, .inl (nI i)), (3, .inl (v))], [], h) _
        refine jt_go jm_m129 17 4 (f' := (37, [(4, .inl (nI 0)), (0, .inr (.inr (0, 0, 0))), (1, .inl (nI d)), (2, .inl (nI i)), (3, .inl (v))], [.inr (.inr (3, (nI d).toNatClampNeg, 0))], h)) (P := vp_in (nI d) 8 ∧ True) rfl ⟨(vp_in_nI (by omega) (by decide)), trivial⟩ ?_
        refine jt_tr (show ((3, (nI d).toNatClampNeg, 0) : jm_K) = (3, d, 0) by rw [nI_clamp (by omega)]) ?_
        refine jt_go jm_m129 21 2 (f' := (39, [(4, .inl (nI 0)), (0, .inr (.inr (0, 0, 0))), (1, .inl (nI d)), (2, .inl (nI i)), (3, .inl (v))], [.inl (v), .inl (nI i), .inr (.inr (3, d, 0))], h)) (P := True) rfl trivial ?_
        refine jt_call jm_m129 23 (mi' := 47) (as := [.inr (.inr (3, d, 0)), .inl (nI i), .inl (v)]) (rest := []) (nxt := 42) rfl rfl jm_m47 rfl rfl (tk_set K Y (by omega) (by assumption) (by omega)) ?_
        rintro u h1 ⟨rfl, e1⟩
        show jt_T 129 (42, [(4, .inl (nI 0)), (0, .inr (.inr (0, 0, 0))), (1, .inl (nI d)), (2, .inl (nI i)), (3, .inl (v))], [], h1) _
        refine jt_go jm_m129 24 1 (f' := (43, [(4, .inl (nI 0)), (0, .inr (.inr (0, 0, 0))), (1, .inl (nI d)), (2, .inl (nI i)), (3, .inl (v))], [.inl (nI 0)], h1)) (P := True) rfl trivial ?_
        refine jt_iret jm_m129 25 rfl ?_
        have ok : el_ok s (nI d) (nI i) := by
          unfold el_ok
          rw [nI_clamp (by omega)]
          exact ⟨nI_pos' (by omega), (nI_ltI (by omega) (by omega)).mpr hi⟩
        have ee : ze_put s e (nI d) (nI i) v = ks_put e d (fun j => if j = i then sp_tr (s d 3) v else e d j) := by
          refine (if_pos ⟨q0, ok⟩).trans ?_
          rw [nI_clamp (by omega), nI_clamp (by omega)]
        refine ⟨jt_li ((if_pos q0).trans (if_pos ok)).symm, ?_, fun k hk => by rw [e1]; exact jm_set_ne (fun q => hk (by rw [q]))⟩
        rw [ee]
        refine jk_pute K (fun k hk => by rw [e1]; exact jm_set_ne (fun q => hk (by rw [q]; exact ⟨rfl, rfl⟩))) ?_
        have w := K d (by omega)
        unfold jk_one at w ⊢
        have a0 : h1 (3, d, 0) = h (3, d, 0) := by rw [e1]; exact jm_set_ne (jx_k0 (by decide))
        rw [a0]
        refine ⟨w.1, w.2.1, fun p => ⟨(w.2.2 p).1, (w.2.2 p).2.1, fun j hj => ?_⟩⟩
        rw [e1, jm_set_eq]
        by_cases q : j = i
        · rw [q, jx_eq]; exact (if_pos rfl).symm
        · rw [jx_ne q]; exact ((w.2.2 p).2.2 j hj).trans (if_neg q).symm
      · refine jt_go jm_m129 15 1 (f' := (30, [(4, .inl (nI 0)), (0, .inr (.inr (0, 0, 0))), (1, .inl (nI d)), (2, .inl (y)), (3, .inl (v))], [.inl ((-13))], h)) (P := True) rfl trivial ?_
        refine jt_iret jm_m129 16 rfl ?_
        have ng : ¬ el_ok s (nI d) y := by
          unfold el_ok
          rw [nI_clamp (by omega)]
          exact c25
        exact ⟨jt_li (((if_pos q0).trans (if_neg ng)).symm), by rw [ze_no (fun z => ng z.2)]; exact K, jk_fr_rf⟩
    · exact absurd c9 (by decide)
set_option maxHeartbeats 4000000 in
set_option maxRecDepth 20000 in
theorem cl_put {h : jm_M} {s : Nat → Nat → Nat} {e : Nat → Nat → Int32} (K : jl_rel h s e) (Y : kw s) {x y v : Int32} : jt_T 232 (0, [(0, .inr (.inr (4, 0, 0))), (1, .inl (x)), (2, .inl (y)), (3, .inl (v))], [], h) (fun u h' => u = some (.inl (za_put s x y)) ∧ jl_rel h' s (ze_put s e x y v) ∧ jl_fr h h') := by
  refine jt_go jm_m232 0 3 (f' := (3, [(0, .inr (.inr (4, 0, 0))), (1, .inl (x)), (2, .inl (y)), (3, .inl (v))], [.inl ((-1)), .inl (x), .inr (.inr (4, 0, 0))], h)) (P := True) rfl trivial ?_
  refine jt_callp (w := .inl (zr_h 2 s x)) jm_m232 3 (mi' := 228) (as := [.inr (.inr (4, 0, 0)), .inl (x), .inl ((-1))]) (rest := []) (nxt := 6) rfl rfl jm_m228 rfl rfl (tl_row K Y) ?_
  rcases zr_cs (x := x) Y (Or.inr rfl) with ⟨qn, q0⟩ | ⟨d, hd, rfl, qa, q0⟩ | ⟨d, hd, rfl, qa, q0⟩ | ⟨d, hd, rfl, qa, q0⟩
  · refine jt_ti (show zr_h 2 s x = (-1) from q0) ?_
    show jt_T 232 (6, [(0, .inr (.inr (4, 0, 0))), (1, .inl (x)), (2, .inl (y)), (3, .inl (v))], [.inl ((-1))], h) _
    refine jt_go jm_m232 4 2 (f' := (10, [(4, .inl ((-1))), (0, .inr (.inr (4, 0, 0))), (1, .inl (x)), (2, .inl (y)), (3, .inl (v))], [.inl ((-1))], h)) (P := True) rfl trivial ?_
    refine jt_ifeq jm_m232 6 (tgt := 16) (nxt := 13) rfl rfl rfl (fun c10 => ?_) (fun c10 => ?_)
    · exact absurd c10 (by decide)
    · refine jt_go jm_m232 7 1 (f' := (15, [(4, .inl ((-1))), (0, .inr (.inr (4, 0, 0))), (1, .inl (x)), (2, .inl (y)), (3, .inl (v))], [.inl ((-1))], h)) (P := True) rfl trivial ?_
      refine jt_iret jm_m232 8 rfl ?_
      refine ⟨jt_li ?_, ?_, jl_fr_rf⟩
      · unfold za_put
        rw [q0]
        rfl
      · rw [ze_no (fun z => absurd (q0.symm.trans z.1) (by decide))]
        exact K
  · refine jt_ti (show zr_h 2 s (nI d) = (-11) from q0) ?_
    show jt_T 232 (6, [(0, .inr (.inr (4, 0, 0))), (1, .inl (nI d)), (2, .inl (y)), (3, .inl (v))], [.inl ((-11))], h) _
    refine jt_go jm_m232 4 2 (f' := (10, [(4, .inl ((-11))), (0, .inr (.inr (4, 0, 0))), (1, .inl (nI d)), (2, .inl (y)), (3, .inl (v))], [.inl ((-11))], h)) (P := True) rfl trivial ?_
    refine jt_ifeq jm_m232 6 (tgt := 16) (nxt := 13) rfl rfl rfl (fun c10 => ?_) (fun c10 => ?_)
    · exact absurd c10 (by decide)
    · refine jt_go jm_m232 7 1 (f' := (15, [(4, .inl ((-11))), (0, .inr (.inr (4, 0, 0))), (1, .inl (nI d)), (2, .inl (y)), (3, .inl (v))], [.inl ((-11))], h)) (P := True) rfl trivial ?_
      refine jt_iret jm_m232 8 rfl ?_
      refine ⟨jt_li ?_, ?_, jl_fr_rf⟩
      · unfold za_put
        rw [q0]
        rfl
      · rw [ze_no (fun z => absurd (q0.symm.trans z.1) (by decide))]
        exact K
  · refine jt_ti (show zr_h 2 s (nI d) = (-12) from q0) ?_
    show jt_T 232 (6, [(0, .inr (.inr (4, 0, 0))), (1, .inl (nI d)), (2, .inl (y)), (3, .inl (v))], [.inl ((-12))], h) _
    refine jt_go jm_m232 4 2 (f' := (10, [(4, .inl ((-12))), (0, .inr (.inr (4, 0, 0))), (1, .inl (nI d)), (2, .inl (y)), (3, .inl (v))], [.inl ((-12))], h)) (P := True) rfl trivial ?_
    refine jt_ifeq jm_m232 6 (tgt := 16) (nxt := 13) rfl rfl rfl (fun c10 => ?_) (fun c10 => ?_)
    · exact absurd c10 (by decide)
    · refine jt_go jm_m232 7 1 (f' := (15, [(4, .inl ((-12))), (0, .inr (.inr (4, 0, 0))), (1, .inl (nI d)), (2, .inl (y)), (3, .inl (v))], [.inl ((-12))], h)) (P := True) rfl trivial ?_
      refine jt_iret jm_m232 8 rfl ?_
      refine ⟨jt_li ?_, ?_, jl_fr_rf⟩
      · unfold za_put
        rw [q0]
        rfl
      · rw [ze_no (fun z => absurd (q0.symm.trans z.1) (by decide))]
        exact K
  · refine jt_ti (show zr_h 2 s (nI d) = nI 0 from q0) ?_
    show jt_T 232 (6, [(0, .inr (.inr (4, 0, 0))), (1, .inl (nI d)), (2, .inl (y)), (3, .inl (v))], [.inl (nI 0)], h) _
    refine jt_go jm_m232 4 2 (f' := (10, [(4, .inl (nI 0)), (0, .inr (.inr (4, 0, 0))), (1, .inl (nI d)), (2, .inl (y)), (3, .inl (v))], [.inl (nI 0)], h)) (P := True) rfl trivial ?_
    refine jt_nifeq jm_m232 6 (by omega) (tgt := 16) (nxt := 13) rfl rfl rfl (fun c10 => ?_) (fun c10 => ?_)
    · refine jt_go jm_m232 9 6 (f' := (24, [(4, .inl (nI 0)), (0, .inr (.inr (4, 0, 0))), (1, .inl (nI d)), (2, .inl (y)), (3, .inl (v))], [.inl (h (4, 0, 7) (nI d).toNatClampNeg), .inl (nI 0), .inl (y)], h)) (P := vp_in (nI d) 8 ∧ True) rfl ⟨(vp_in_nI (by omega) (by decide)), trivial⟩ ?_
      refine jt_ti (show (h (4, 0, 7) (nI d).toNatClampNeg) = nI (s d 4) from jl_size K (d := d) (nI_clamp (by omega)) (by omega) (by assumption)) ?_
      have bq1 := kw_z Y (d := d) (by omega) (by assumption)
      refine jt_go jm_m232 15 2 (f' := (26, [(4, .inl (nI 0)), (0, .inr (.inr (4, 0, 0))), (1, .inl (nI d)), (2, .inl (y)), (3, .inl (v))], [.inl ((nI (s d 4)) - (nI 1)), .inl (nI 0), .inl (y)], h)) (P := True) rfl trivial ?_
      refine jt_callp (w := .inl (jm_b (nI 0 ≤ y ∧ y ≤ ((nI (s d 4)) - (nI 1))))) jm_m232 17 (mi' := 143) (as := [.inl (y), .inl (nI 0), .inl ((nI (s d 4)) - (nI 1))]) (rest := []) (nxt := 29) rfl rfl jm_m143 rfl rfl (tb_isIn) ?_
      refine jt_ifbne jm_m232 18 (tgt := 35) (nxt := 32) rfl rfl rfl (fun c29 => ?_) (fun c29 => ?_)
      · have bz := kw_z Y (d := d) (by omega) qa
        obtain ⟨i, hi, rfl⟩ := jx_cat (by omega) ((jx_sz (by omega)).mp c29)
        show jt_T 232 (35, [(4, .inl (nI 0)), (0, .inr (.inr (4, 0, 0))), (1, .inl (nI d)), (2, .inl (nI i)), (3, .inl (v))], [], h) _
        refine jt_go jm_m232 21 5 (f' := (43, [(4, .inl (nI 0)), (0, .inr (.inr (4, 0, 0))), (1, .inl (nI d)), (2, .inl (nI i)), (3, .inl (v))], [.inl ((nI 100) * (nI d)), .inr (.inr (4, 0, 8))], h)) (P := True) rfl trivial ?_
        refine jt_ti (show ((nI 100) * (nI d)) = nI (100 * d) from nI_mul _ _) ?_
        refine jt_go jm_m232 26 2 (f' := (45, [(4, .inl (nI 0)), (0, .inr (.inr (4, 0, 0))), (1, .inl (nI d)), (2, .inl (nI i)), (3, .inl (v))], [.inl ((nI (100 * d)) + (nI i)), .inr (.inr (4, 0, 8))], h)) (P := True) rfl trivial ?_
        refine jt_ti (show ((nI (100 * d)) + (nI i)) = nI (100 * d + i) from nI_add _ _) ?_
        refine jt_go jm_m232 28 4 (f' := (51, [(4, .inl (nI 0)), (0, .inr (.inr (4, 0, 0))), (1, .inl (nI d)), (2, .inl (nI i)), (3, .inl (v))], [.inl (h (4, 0, 6) (nI d).toNatClampNeg), .inl (nI (100 * d + i)), .inr (.inr (4, 0, 8))], h)) (P := vp_in (nI d) 8 ∧ True) rfl ⟨(vp_in_nI (by omega) (by decide)), trivial⟩ ?_
        refine jt_ti (show (h (4, 0, 6) (nI d).toNatClampNeg) = nI (s d 3) from jl_sort K (d := d) (nI_clamp (by omega)) (by omega) (by assumption)) ?_
        have bq2 := kw_s Y (d := d) (by omega) (by assumption)
        refine jt_nifne jm_m232 32 (by omega) (tgt := 59) (nxt := 54) rfl rfl rfl (fun c51 => ?_) (fun c51 => ?_)
        · refine jt_go jm_m232 36 4 (f' := (65, [(4, .inl (nI 0)), (0, .inr (.inr (4, 0, 0))), (1, .inl (nI d)), (2, .inl (nI i)), (3, .inl (v))], [.inl (h (4, 0, 6) (nI d).toNatClampNeg), .inl (nI (100 * d + i)), .inr (.inr (4, 0, 8))], h)) (P := vp_in (nI d) 8 ∧ True) rfl ⟨(vp_in_nI (by omega) (by decide)), trivial⟩ ?_
          refine jt_ti (show (h (4, 0, 6) (nI d).toNatClampNeg) = nI (s d 3) from jl_sort K (d := d) (nI_clamp (by omega)) (by omega) (by assumption)) ?_
          have bq3 := kw_s Y (d := d) (by omega) (by assumption)
          refine jt_go jm_m232 40 1 (f' := (66, [(4, .inl (nI 0)), (0, .inr (.inr (4, 0, 0))), (1, .inl (nI d)), (2, .inl (nI i)), (3, .inl (v))], [.inl (nI 1), .inl (nI (s d 3)), .inl (nI (100 * d + i)), .inr (.inr (4, 0, 8))], h)) (P := True) rfl trivial ?_
          refine jt_nicne jm_m232 41 (a := s d 3) (b := 1) (by omega) (by omega) (tgt := 74) (nxt := 69) rfl rfl rfl (fun c66 => ?_) (fun c66 => ?_)
          · refine jt_goM jm_m232 45 2 (pc' := 76) (L' := [(4, .inl (nI 0)), (0, .inr (.inr (4, 0, 0))), (1, .inl (nI d)), (2, .inl (nI i)), (3, .inl (v))]) (st' := []) (m' := jm_set h (4, 0, 8) (upd (h (4, 0, 8)) (nI (100 * d + i)).toNatClampNeg v)) (P := vp_in (nI (100 * d + i)) 800 ∧ True) rfl ⟨(vp_in_nI (by omega) (by decide)), trivial⟩ (fun h1 eh1 => ?_)
            refine jt_go jm_m232 47 1 (f' := (77, [(4, .inl (nI 0)), (0, .inr (.inr (4, 0, 0))), (1, .inl (nI d)), (2, .inl (nI i)), (3, .inl (v))], [.inl (nI 0)], h1)) (P := True) rfl trivial ?_
            refine jt_iret jm_m232 48 rfl ?_
            have ok : el_ok s (nI d) (nI i) := by
              unfold el_ok
              rw [nI_clamp (by omega)]
              exact ⟨nI_pos' (by omega), (nI_ltI (by omega) (by omega)).mpr hi⟩
            have ee : ze_put s e (nI d) (nI i) v = ks_put e d (fun j => if j = i then sp_tr (s d 3) v else e d j) := by
              refine (if_pos ⟨q0, ok⟩).trans ?_
              rw [nI_clamp (by omega), nI_clamp (by omega)]
            have et : v = sp_tr (s d 3) v := by
              unfold sp_tr
              first | rw [if_pos c51] | rw [if_neg c51, if_pos c66] | rw [if_neg c51, if_neg c66]
            have a8 : h1 (4, 0, 8) = upd (h (4, 0, 8)) (100 * d + i) (sp_tr (s d 3) v) := by rw [eh1, jm_set_eq, nI_clamp (by omega)]; exact congrArg (upd (h (4, 0, 8)) (100 * d + i)) et
            have a3 : h1 (4, 0, 3) = h (4, 0, 3) := by rw [eh1]; exact jm_set_ne (by decide)
            have a4 : h1 (4, 0, 4) = h (4, 0, 4) := by rw [eh1]; exact jm_set_ne (by decide)
            have a5 : h1 (4, 0, 5) = h (4, 0, 5) := by rw [eh1]; exact jm_set_ne (by decide)
            have a6 : h1 (4, 0, 6) = h (4, 0, 6) := by rw [eh1]; exact jm_set_ne (by decide)
            have a7 : h1 (4, 0, 7) = h (4, 0, 7) := by rw [eh1]; exact jm_set_ne (by decide)
            refine ⟨jt_li ((if_pos q0).trans (if_pos ok)).symm, ?_, fun k hk => by rw [eh1]; exact jm_set_ne (fun q => hk (by rw [q]; decide))⟩
            rw [ee]
            refine jl_pute K (fun d2 h2 q w => ?_) ?_
            · unfold jl_one at w ⊢
              rw [a3, a4, a5, a6, a7, a8]
              exact ⟨w.1, w.2.1, fun p => ⟨(w.2.2 p).1, (w.2.2 p).2.1, fun j hj => by rw [jx_ne (by omega)]; exact (w.2.2 p).2.2 j hj⟩⟩
            · have w := K d (by omega)
              unfold jl_one at w ⊢
              rw [a3, a4, a5, a6, a7, a8]
              refine ⟨w.1, w.2.1, fun p => ⟨(w.2.2 p).1, (w.2.2 p).2.1, fun j hj => ?_⟩⟩
              by_cases q : j = i
              · rw [q, jx_eq]; exact (if_pos rfl).symm
              · rw [jx_ne (by omega)]; exact ((w.2.2 p).2.2 j hj).trans (if_neg q).symm
          · refine jt_go jm_m232 42 3 (f' := (75, [(4, .inl (nI 0)), (0, .inr (.inr (4, 0, 0))), (1, .inl (nI d)), (2, .inl (nI i)), (3, .inl (v))], [.inl (v.toInt16.toInt32), .inl (nI (100 * d + i)), .inr (.inr (4, 0, 8))], h)) (P := True) rfl trivial ?_
            refine jt_goM jm_m232 46 1 (pc' := 76) (L' := [(4, .inl (nI 0)), (0, .inr (.inr (4, 0, 0))), (1, .inl (nI d)), (2, .inl (nI i)), (3, .inl (v))]) (st' := []) (m' := jm_set h (4, 0, 8) (upd (h (4, 0, 8)) (nI (100 * d + i)).toNatClampNeg v.toInt16.toInt32)) (P := vp_in (nI (100 * d + i)) 800 ∧ True) rfl ⟨(vp_in_nI (by omega) (by decide)), trivial⟩ (fun h2 eh2 => ?_)
            refine jt_go jm_m232 47 1 (f' := (77, [(4, .inl (nI 0)), (0, .inr (.inr (4, 0, 0))), (1, .inl (nI d)), (2, .inl (nI i)), (3, .inl (v))], [.inl (nI 0)], h2)) (P := True) rfl trivial ?_
            refine jt_iret jm_m232 48 rfl ?_
            have ok : el_ok s (nI d) (nI i) := by
              unfold el_ok
              rw [nI_clamp (by omega)]
              exact ⟨nI_pos' (by omega), (nI_ltI (by omega) (by omega)).mpr hi⟩
            have ee : ze_put s e (nI d) (nI i) v = ks_put e d (fun j => if j = i then sp_tr (s d 3) v else e d j) := by
              refine (if_pos ⟨q0, ok⟩).trans ?_
              rw [nI_clamp (by omega), nI_clamp (by omega)]
            have et : v.toInt16.toInt32 = sp_tr (s d 3) v := by
              unfold sp_tr
              first | rw [if_pos c51] | rw [if_neg c51, if_pos c66] | rw [if_neg c51, if_neg c66]
            have a8 : h2 (4, 0, 8) = upd (h (4, 0, 8)) (100 * d + i) (sp_tr (s d 3) v) := by rw [eh2, jm_set_eq, nI_clamp (by omega)]; exact congrArg (upd (h (4, 0, 8)) (100 * d + i)) et
            have a3 : h2 (4, 0, 3) = h (4, 0, 3) := by rw [eh2]; exact jm_set_ne (by decide)
            have a4 : h2 (4, 0, 4) = h (4, 0, 4) := by rw [eh2]; exact jm_set_ne (by decide)
            have a5 : h2 (4, 0, 5) = h (4, 0, 5) := by rw [eh2]; exact jm_set_ne (by decide)
            have a6 : h2 (4, 0, 6) = h (4, 0, 6) := by rw [eh2]; exact jm_set_ne (by decide)
            have a7 : h2 (4, 0, 7) = h (4, 0, 7) := by rw [eh2]; exact jm_set_ne (by decide)
            refine ⟨jt_li ((if_pos q0).trans (if_pos ok)).symm, ?_, fun k hk => by rw [eh2]; exact jm_set_ne (fun q => hk (by rw [q]; decide))⟩
            rw [ee]
            refine jl_pute K (fun d2 h2 q w => ?_) ?_
            · unfold jl_one at w ⊢
              rw [a3, a4, a5, a6, a7, a8]
              exact ⟨w.1, w.2.1, fun p => ⟨(w.2.2 p).1, (w.2.2 p).2.1, fun j hj => by rw [jx_ne (by omega)]; exact (w.2.2 p).2.2 j hj⟩⟩
            · have w := K d (by omega)
              unfold jl_one at w ⊢
              rw [a3, a4, a5, a6, a7, a8]
              refine ⟨w.1, w.2.1, fun p => ⟨(w.2.2 p).1, (w.2.2 p).2.1, fun j hj => ?_⟩⟩
              by_cases q : j = i
              · rw [q, jx_eq]; exact (if_pos rfl).symm
              · rw [jx_ne (by omega)]; exact ((w.2.2 p).2.2 j hj).trans (if_neg q).symm
        · refine jt_go jm_m232 33 3 (f' := (75, [(4, .inl (nI 0)), (0, .inr (.inr (4, 0, 0))), (1, .inl (nI d)), (2, .inl (nI i)), (3, .inl (v))], [.inl (v.toInt8.toInt32), .inl (nI (100 * d + i)), .inr (.inr (4, 0, 8))], h)) (P := True) rfl trivial ?_
          refine jt_goM jm_m232 46 1 (pc' := 76) (L' := [(4, .inl (nI 0)), (0, .inr (.inr (4, 0, 0))), (1, .inl (nI d)), (2, .inl (nI i)), (3, .inl (v))]) (st' := []) (m' := jm_set h (4, 0, 8) (upd (h (4, 0, 8)) (nI (100 * d + i)).toNatClampNeg v.toInt8.toInt32)) (P := vp_in (nI (100 * d + i)) 800 ∧ True) rfl ⟨(vp_in_nI (by omega) (by decide)), trivial⟩ (fun h3 eh3 => ?_)
          refine jt_go jm_m232 47 1 (f' := (77, [(4, .inl (nI 0)), (0, .inr (.inr (4, 0, 0))), (1, .inl (nI d)), (2, .inl (nI i)), (3, .inl (v))], [.inl (nI 0)], h3)) (P := True) rfl trivial ?_
          refine jt_iret jm_m232 48 rfl ?_
          have ok : el_ok s (nI d) (nI i) := by
            unfold el_ok
            rw [nI_clamp (by omega)]
            exact ⟨nI_pos' (by omega), (nI_ltI (by omega) (by omega)).mpr hi⟩
          have ee : ze_put s e (nI d) (nI i) v = ks_put e d (fun j => if j = i then sp_tr (s d 3) v else e d j) := by
            refine (if_pos ⟨q0, ok⟩).trans ?_
            rw [nI_clamp (by omega), nI_clamp (by omega)]
          have et : v.toInt8.toInt32 = sp_tr (s d 3) v := by
            unfold sp_tr
            first | rw [if_pos c51] | rw [if_neg c51, if_pos c66] | rw [if_neg c51, if_neg c66]
          have a8 : h3 (4, 0, 8) = upd (h (4, 0, 8)) (100 * d + i) (sp_tr (s d 3) v) := by rw [eh3, jm_set_eq, nI_clamp (by omega)]; exact congrArg (upd (h (4, 0, 8)) (100 * d + i)) et
          have a3 : h3 (4, 0, 3) = h (4, 0, 3) := by rw [eh3]; exact jm_set_ne (by decide)
          have a4 : h3 (4, 0, 4) = h (4, 0, 4) := by rw [eh3]; exact jm_set_ne (by decide)
          have a5 : h3 (4, 0, 5) = h (4, 0, 5) := by rw [eh3]; exact jm_set_ne (by decide)
          have a6 : h3 (4, 0, 6) = h (4, 0, 6) := by rw [eh3]; exact jm_set_ne (by decide)
          have a7 : h3 (4, 0, 7) = h (4, 0, 7) := by rw [eh3]; exact jm_set_ne (by decide)
          refine ⟨jt_li ((if_pos q0).trans (if_pos ok)).symm, ?_, fun k hk => by rw [eh3]; exact jm_set_ne (fun q => hk (by rw [q]; decide))⟩
          rw [ee]
          refine jl_pute K (fun d2 h2 q w => ?_) ?_
          · unfold jl_one at w ⊢
            rw [a3, a4, a5, a6, a7, a8]
            exact ⟨w.1, w.2.1, fun p => ⟨(w.2.2 p).1, (w.2.2 p).2.1, fun j hj => by rw [jx_ne (by omega)]; exact (w.2.2 p).2.2 j hj⟩⟩
          · have w := K d (by omega)
            unfold jl_one at w ⊢
            rw [a3, a4, a5, a6, a7, a8]
            refine ⟨w.1, w.2.1, fun p => ⟨(w.2.2 p).1, (w.2.2 p).2.1, fun j hj => ?_⟩⟩
            by_cases q : j = i
            · rw [q, jx_eq]; exact (if_pos rfl).symm
            · rw [jx_ne (by omega)]; exact ((w.2.2 p).2.2 j hj).trans (if_neg q).symm
      · refine jt_go jm_m232 19 1 (f' := (34, [(4, .inl (nI 0)), (0, .inr (.inr (4, 0, 0))), (1, .inl (nI d)), (2, .inl (y)), (3, .inl (v))], [.inl ((-13))], h)) (P := True) rfl trivial ?_
        refine jt_iret jm_m232 20 rfl ?_
        have ng : ¬ el_ok s (nI d) y := by
          unfold el_ok
          rw [nI_clamp (by omega)]
          exact fun z => c29 ((jx_sz (by omega)).mpr z)
        exact ⟨jt_li (((if_pos q0).trans (if_neg ng)).symm), by rw [ze_no (fun z => ng z.2)]; exact K, jl_fr_rf⟩
    · exact absurd c10 (by decide)
