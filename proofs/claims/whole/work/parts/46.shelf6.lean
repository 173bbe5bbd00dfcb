/-! SHELVES: element and toss of the reference; judge. -/
theorem jk_mvf {h h2 : jm_M} {j : Nat} {s : Nat → Nat → Nat} {e : Nat → Nat → Int32} (K : jk_rel h s e) (F : jf_fr j h h2) : jk_rel h2 s e := jk_mv K (fun k hk => F k (fun z => by rcases z.1 with q | q <;> rw [hk] at q <;> exact absurd q (by decide)))
theorem jl_mvg {h h2 : jm_M} {j : Nat} {s : Nat → Nat → Nat} {e : Nat → Nat → Int32} (K : jl_rel h s e) (F : jg_fr j h h2) : jl_rel h2 s e := jl_mv K (fun k hk => F k (fun z => by rw [z] at hk; exact absurd hk.1 (by show ¬ (5 : Nat) = 4; decide)))
def sp_lo (k : Nat) : Int32 := if k = 0 then (-128) else if k = 1 then (-32768) else (-2147483648)
/-- what element throws: 0 nothing, 1 no shelf, 2 no such element -/
def sx_th (s : Nat → Nat → Nat) (x y : Int32) : Nat := if nI 0 ≤ x ∧ x ≤ nI 7 then (if s x.toNatClampNeg 0 = 2 ∧ el_ok s x y then 0 else 2) else 1
def sx_el (s : Nat → Nat → Nat) (e : Nat → Nat → Int32) (x y : Int32) : Int64 := if sx_th s x y = 0 then (e x.toNatClampNeg y.toNatClampNeg).toInt64 else lN 0
theorem sx_no {s : Nat → Nat → Nat} {x y : Int32} (q : ¬ (nI 0 ≤ x ∧ x ≤ nI 7)) : sx_th s x y = 1 := if_neg q
theorem sx_at {s : Nat → Nat → Nat} {d : Nat} {y : Int32} (hd : d ≤ 7) : sx_th s (nI d) y = if s d 0 = 2 ∧ (nI 0 ≤ y ∧ y < nI (s d 4)) then 0 else 2 := by
  unfold sx_th el_ok
  rw [if_pos ⟨nI_pos' (by omega), (nI_leI (by omega) (by omega)).mpr hd⟩, nI_clamp (by omega)]
def za_toss (s : Nat → Nat → Nat) (x : Int32) : Int32 := if zr_h 1 s x = nI 0 then (if s x.toNatClampNeg 1 = 3 ∨ s x.toNatClampNeg 1 = 5 ∨ s x.toNatClampNeg 1 = 7 ∨ s x.toNatClampNeg 2 = 0 then (-15) else if s x.toNatClampNeg 1 = 6 then nI (200 + sp_cost 6 (s x.toNatClampNeg 2)) else if s x.toNatClampNeg 1 = 2 then nI (100 + s x.toNatClampNeg 2) else nI (s x.toNatClampNeg 2)) else zr_h 1 s x
set_option maxHeartbeats 4000000 in
set_option maxRecDepth 20000 in
theorem cl_element {h : jm_M} {s : Nat → Nat → Nat} {e : Nat → Nat → Int32} (K : jl_rel h s e) (Y : kw s) {x y : Int32} : jt_T 233 (0, [(0, .inr (.inr (4, 0, 0))), (1, .inl (x)), (2, .inl (y))], [], h) (fun u h' => u = some (.inr (.inl (sx_el s e x y))) ∧ h' (4, 0, 0) 17 = nI (sx_th s x y) ∧ (∀ k : jm_K, k ≠ (4, 0, 0) → h' k = h k) ∧ h' (4, 0, 0) 4 = h (4, 0, 0) 4) := by
  refine jt_go jm_m233 0 2 (f' := (2, [(0, .inr (.inr (4, 0, 0))), (1, .inl (x)), (2, .inl (y))], [.inl (x), .inr (.inr (4, 0, 0))], h)) (P := True) rfl trivial ?_
  refine jt_callp (w := .inl (jm_b (nI 0 ≤ x ∧ x ≤ nI 7))) jm_m233 2 (mi' := 227) (as := [.inl (x)]) (rest := [.inr (.inr (4, 0, 0))]) (nxt := 5) rfl rfl jm_m227 rfl rfl (tb_shelf) ?_
  refine jt_ifbne jm_m233 3 (tgt := 12) (nxt := 8) rfl rfl rfl (fun c5 => ?_) (fun c5 => ?_)
  · have r5 := c5
    obtain ⟨d, hd, rfl⟩ := jx_win (by decide) r5
    show jt_T 233 (12, [(0, .inr (.inr (4, 0, 0))), (1, .inl (nI d)), (2, .inl (y))], [.inr (.inr (4, 0, 0))], h) _
    refine jt_go jm_m233 6 4 (f' := (18, [(0, .inr (.inr (4, 0, 0))), (1, .inl (nI d)), (2, .inl (y))], [.inl (h (4, 0, 3) (nI d).toNatClampNeg), .inr (.inr (4, 0, 0))], h)) (P := vp_in (nI d) 8 ∧ True) rfl ⟨(vp_in_nI (by omega) (by decide)), trivial⟩ ?_
    refine jt_ti (show (h (4, 0, 3) (nI d).toNatClampNeg) = nI (s d 0) from jl_holds K (d := d) (nI_clamp (by omega)) (by omega)) ?_
    have bq1 := kw_a Y (d := d) (by omega)
    refine jt_go jm_m233 10 1 (f' := (19, [(0, .inr (.inr (4, 0, 0))), (1, .inl (nI d)), (2, .inl (y))], [.inl (nI 2), .inl (nI (s d 0)), .inr (.inr (4, 0, 0))], h)) (P := True) rfl trivial ?_
    refine jt_nicne jm_m233 11 (a := s d 0) (b := 2) (by omega) (by omega) (tgt := 38) (nxt := 22) rfl rfl rfl (fun c19 => ?_) (fun c19 => ?_)
    · refine jt_go jm_m233 22 2 (f' := (43, [(0, .inr (.inr (4, 0, 0))), (1, .inl (nI d)), (2, .inl (y))], [.inl (nI 2), .inr (.inr (4, 0, 0))], h)) (P := True) rfl trivial ?_
      refine jt_goM jm_m233 25 1 (pc' := 46) (L' := [(0, .inr (.inr (4, 0, 0))), (1, .inl (nI d)), (2, .inl (y))]) (st' := []) (m' := jm_set h (4, 0, 0) (upd (h (4, 0, 0)) 17 (nI 2))) (P := True) rfl trivial (fun h1 eh1 => ?_)
      refine jt_go jm_m233 26 2 (f' := (50, [(0, .inr (.inr (4, 0, 0))), (1, .inl (nI d)), (2, .inl (y))], [.inl (h1 (4, 0, 0) 17)], h1)) (P := True) rfl trivial ?_
      refine jt_ti (show (h1 (4, 0, 0) 17) = nI 2 from by rw [eh1, jm_set_eq, jx_eq]) ?_
      refine jt_nifne jm_m233 28 (by omega) (tgt := 68) (nxt := 53) rfl rfl rfl (fun c50 => ?_) (fun c50 => ?_)
      · refine jt_go jm_m233 39 1 (f' := (69, [(0, .inr (.inr (4, 0, 0))), (1, .inl (nI d)), (2, .inl (y))], [.inr (.inl (lN 0))], h1)) (P := True) rfl trivial ?_
        refine jt_lret jm_m233 40 rfl ?_
        have th : sx_th s (nI d) y = 2 := (sx_at hd).trans (if_neg (fun z => absurd z.1 (by assumption)))
        refine ⟨?_, by rw [th, eh1, jm_set_eq, jx_eq], fun k hk => by rw [eh1]; exact jm_set_ne hk, by rw [eh1, jm_set_eq, jx_ne (by decide)]⟩
        unfold sx_el
        rw [th]
        first | done | rfl | (rw [if_pos rfl, nI_clamp (by omega), nI_clamp (by omega)])
      · exact absurd c50 (by decide)
    · refine jt_go jm_m233 12 6 (f' := (30, [(0, .inr (.inr (4, 0, 0))), (1, .inl (nI d)), (2, .inl (y))], [.inl (h (4, 0, 7) (nI d).toNatClampNeg), .inl (nI 0), .inl (y), .inr (.inr (4, 0, 0))], h)) (P := vp_in (nI d) 8 ∧ True) rfl ⟨(vp_in_nI (by omega) (by decide)), trivial⟩ ?_
      refine jt_ti (show (h (4, 0, 7) (nI d).toNatClampNeg) = nI (s d 4) from jl_size K (d := d) (nI_clamp (by omega)) (by omega) (by assumption)) ?_
      have bq2 := kw_z Y (d := d) (by omega) (by assumption)
      refine jt_go jm_m233 18 2 (f' := (32, [(0, .inr (.inr (4, 0, 0))), (1, .inl (nI d)), (2, .inl (y))], [.inl ((nI (s d 4)) - (nI 1)), .inl (nI 0), .inl (y), .inr (.inr (4, 0, 0))], h)) (P := True) rfl trivial ?_
      refine jt_callp (w := .inl (jm_b (nI 0 ≤ y ∧ y ≤ ((nI (s d 4)) - (nI 1))))) jm_m233 20 (mi' := 143) (as := [.inl (y), .inl (nI 0), .inl ((nI (s d 4)) - (nI 1))]) (rest := [.inr (.inr (4, 0, 0))]) (nxt := 35) rfl rfl jm_m143 rfl rfl (tb_isIn) ?_
      refine jt_ifbne jm_m233 21 (tgt := 42) (nxt := 38) rfl rfl rfl (fun c35 => ?_) (fun c35 => ?_)
      · have r35 := c35
        obtain ⟨i, hi, rfl⟩ := jx_cat (by omega) ((jx_sz (by omega)).mp r35)
        show jt_T 233 (42, [(0, .inr (.inr (4, 0, 0))), (1, .inl (nI d)), (2, .inl (nI i))], [.inr (.inr (4, 0, 0))], h) _
        refine jt_goM jm_m233 24 2 (pc' := 46) (L' := [(0, .inr (.inr (4, 0, 0))), (1, .inl (nI d)), (2, .inl (nI i))]) (st' := []) (m' := jm_set h (4, 0, 0) (upd (h (4, 0, 0)) 17 (nI 0))) (P := True) rfl trivial (fun h2 eh2 => ?_)
        refine jt_go jm_m233 26 2 (f' := (50, [(0, .inr (.inr (4, 0, 0))), (1, .inl (nI d)), (2, .inl (nI i))], [.inl (h2 (4, 0, 0) 17)], h2)) (P := True) rfl trivial ?_
        refine jt_ti (show (h2 (4, 0, 0) 17) = nI 0 from by rw [eh2, jm_set_eq, jx_eq]) ?_
        refine jt_nifne jm_m233 28 (by omega) (tgt := 68) (nxt := 53) rfl rfl rfl (fun c50 => ?_) (fun c50 => ?_)
        · exact absurd c50 (by decide)
        · refine jt_go jm_m233 29 5 (f' := (61, [(0, .inr (.inr (4, 0, 0))), (1, .inl (nI d)), (2, .inl (nI i))], [.inl ((nI 100) * (nI d)), .inr (.inr (4, 0, 8))], h2)) (P := True) rfl trivial ?_
          refine jt_ti (show ((nI 100) * (nI d)) = nI (100 * d) from nI_mul _ _) ?_
          refine jt_go jm_m233 34 2 (f' := (63, [(0, .inr (.inr (4, 0, 0))), (1, .inl (nI d)), (2, .inl (nI i))], [.inl ((nI (100 * d)) + (nI i)), .inr (.inr (4, 0, 8))], h2)) (P := True) rfl trivial ?_
          refine jt_ti (show ((nI (100 * d)) + (nI i)) = nI (100 * d + i) from nI_add _ _) ?_
          refine jt_go jm_m233 36 1 (f' := (64, [(0, .inr (.inr (4, 0, 0))), (1, .inl (nI d)), (2, .inl (nI i))], [.inl (h2 (4, 0, 8) (nI (100 * d + i)).toNatClampNeg)], h2)) (P := vp_in (nI (100 * d + i)) 800 ∧ True) rfl ⟨(vp_in_nI (by omega) (by decide)), trivial⟩ ?_
          refine jt_ti (show (h2 (4, 0, 8) (nI (100 * d + i)).toNatClampNeg) = e d i from by rw [eh2, jm_set_ne (by decide)]; exact jl_cell K (d := d) (i := i) (nI_clamp (by omega)) (by omega) (by assumption) (by omega)) ?_
          refine jt_go jm_m233 37 2 (f' := (69, [(0, .inr (.inr (4, 0, 0))), (1, .inl (nI d)), (2, .inl (nI i))], [.inr (.inl ((e d i).toInt64))], h2)) (P := True) rfl trivial ?_
          refine jt_lret jm_m233 40 rfl ?_
          have th : sx_th s (nI d) (nI i) = 0 := (sx_at hd).trans (if_pos ⟨by assumption, (jx_sz (by omega)).mp c35⟩)
          refine ⟨?_, by rw [th, eh2, jm_set_eq, jx_eq], fun k hk => by rw [eh2]; exact jm_set_ne hk, by rw [eh2, jm_set_eq, jx_ne (by decide)]⟩
          unfold sx_el
          rw [th]
          first | done | rfl | (rw [if_pos rfl, nI_clamp (by omega), nI_clamp (by omega)])
      · refine jt_go jm_m233 22 2 (f' := (43, [(0, .inr (.inr (4, 0, 0))), (1, .inl (nI d)), (2, .inl (y))], [.inl (nI 2), .inr (.inr (4, 0, 0))], h)) (P := True) rfl trivial ?_
        refine jt_goM jm_m233 25 1 (pc' := 46) (L' := [(0, .inr (.inr (4, 0, 0))), (1, .inl (nI d)), (2, .inl (y))]) (st' := []) (m' := jm_set h (4, 0, 0) (upd (h (4, 0, 0)) 17 (nI 2))) (P := True) rfl trivial (fun h3 eh3 => ?_)
        refine jt_go jm_m233 26 2 (f' := (50, [(0, .inr (.inr (4, 0, 0))), (1, .inl (nI d)), (2, .inl (y))], [.inl (h3 (4, 0, 0) 17)], h3)) (P := True) rfl trivial ?_
        refine jt_ti (show (h3 (4, 0, 0) 17) = nI 2 from by rw [eh3, jm_set_eq, jx_eq]) ?_
        refine jt_nifne jm_m233 28 (by omega) (tgt := 68) (nxt := 53) rfl rfl rfl (fun c50 => ?_) (fun c50 => ?_)
        · refine jt_go jm_m233 39 1 (f' := (69, [(0, .inr (.inr (4, 0, 0))), (1, .inl (nI d)), (2, .inl (y))], [.inr (.inl (lN 0))], h3)) (P := True) rfl trivial ?_
          refine jt_lret jm_m233 40 rfl ?_
          have th : sx_th s (nI d) y = 2 := (sx_at hd).trans (if_neg (fun z => c35 ((jx_sz (by omega)).mpr z.2)))
          refine ⟨?_, by rw [th, eh3, jm_set_eq, jx_eq], fun k hk => by rw [eh3]; exact jm_set_ne hk, by rw [eh3, jm_set_eq, jx_ne (by decide)]⟩
          unfold sx_el
          rw [th]
          first | done | rfl | (rw [if_pos rfl, nI_clamp (by omega), nI_clamp (by omega)])
        · exact absurd c50 (by decide)
  · refine jt_go jm_m233 4 2 (f' := (43, [(0, .inr (.inr (4, 0, 0))), (1, .inl (x)), (2, .inl (y))], [.inl (nI 1), .inr (.inr (4, 0, 0))], h)) (P := True) rfl trivial ?_
    refine jt_goM jm_m233 25 1 (pc' := 46) (L' := [(0, .inr (.inr (4, 0, 0))), (1, .inl (x)), (2, .inl (y))]) (st' := []) (m' := jm_set h (4, 0, 0) (upd (h (4, 0, 0)) 17 (nI 1))) (P := True) rfl trivial (fun h4 eh4 => ?_)
    refine jt_go jm_m233 26 2 (f' := (50, [(0, .inr (.inr (4, 0, 0))), (1, .inl (x)), (2, .inl (y))], [.inl (h4 (4, 0, 0) 17)], h4)) (P := True) rfl trivial ?_
    refine jt_ti (show (h4 (4, 0, 0) 17) = nI 1 from by rw [eh4, jm_set_eq, jx_eq]) ?_
    refine jt_nifne jm_m233 28 (by omega) (tgt := 68) (nxt := 53) rfl rfl rfl (fun c50 => ?_) (fun c50 => ?_)
    · refine jt_go jm_m233 39 1 (f' := (69, [(0, .inr (.inr (4, 0, 0))), (1, .inl (x)), (2, .inl (y))], [.inr (.inl (lN 0))], h4)) (P := True) rfl trivial ?_
      refine jt_lret jm_m233 40 rfl ?_
      have th := sx_no (s := s) (y := y) c5
      refine ⟨?_, by rw [th, eh4, jm_set_eq, jx_eq], fun k hk => by rw [eh4]; exact jm_set_ne hk, by rw [eh4, jm_set_eq, jx_ne (by decide)]⟩
      unfold sx_el
      rw [th]
      first | done | rfl | (rw [if_pos rfl, nI_clamp (by omega), nI_clamp (by omega)])
    · exact absurd c50 (by decide)
set_option maxHeartbeats 4000000 in
set_option maxRecDepth 20000 in
theorem cl_toss {h : jm_M} {s : Nat → Nat → Nat} {e : Nat → Nat → Int32} (K : jl_rel h s e) (Y : kw s) {x : Int32} : jt_Pu 237 [.inr (.inr (4, 0, 0)), .inl (x)] h (.inl (za_toss s x)) := by
  show jt_T 237 (0, [(0, .inr (.inr (4, 0, 0))), (1, .inl (x))], [], h) _
  refine jt_go jm_m237 0 2 (f' := (2, [(0, .inr (.inr (4, 0, 0))), (1, .inl (x))], [.inl (x), .inr (.inr (4, 0, 0))], h)) (P := True) rfl trivial ?_
  refine jt_callp (w := .inl (zr_h 1 s x)) jm_m237 2 (mi' := 229) (as := [.inr (.inr (4, 0, 0)), .inl (x)]) (rest := []) (nxt := 5) rfl rfl jm_m229 rfl rfl (tl_kind K Y) ?_
  rcases zr_cs (x := x) Y (Or.inl rfl) with ⟨qn, q0⟩ | ⟨d, hd, rfl, qa, q0⟩ | ⟨d, hd, rfl, qa, q0⟩ | ⟨d, hd, rfl, qa, q0⟩
  · refine jt_ti (show zr_h 1 s x = (-1) from q0) ?_
    show jt_T 237 (5, [(0, .inr (.inr (4, 0, 0))), (1, .inl (x))], [.inl ((-1))], h) _
    refine jt_go jm_m237 3 2 (f' := (7, [(2, .inl ((-1))), (0, .inr (.inr (4, 0, 0))), (1, .inl (x))], [.inl ((-1))], h)) (P := True) rfl trivial ?_
    refine jt_ifeq jm_m237 5 (tgt := 12) (nxt := 10) rfl rfl rfl (fun c7 => ?_) (fun c7 => ?_)
    · exact absurd c7 (by decide)
    · refine jt_go jm_m237 6 1 (f' := (11, [(2, .inl ((-1))), (0, .inr (.inr (4, 0, 0))), (1, .inl (x))], [.inl ((-1))], h)) (P := True) rfl trivial ?_
      refine jt_iret jm_m237 7 rfl ?_
      refine ⟨jt_li ?_, rfl⟩
      unfold za_toss
      rw [q0]
      rfl
  · refine jt_ti (show zr_h 1 s (nI d) = (-11) from q0) ?_
    show jt_T 237 (5, [(0, .inr (.inr (4, 0, 0))), (1, .inl (nI d))], [.inl ((-11))], h) _
    refine jt_go jm_m237 3 2 (f' := (7, [(2, .inl ((-11))), (0, .inr (.inr (4, 0, 0))), (1, .inl (nI d))], [.inl ((-11))], h)) (P := True) rfl trivial ?_
    refine jt_ifeq jm_m237 5 (tgt := 12) (nxt := 10) rfl rfl rfl (fun c7 => ?_) (fun c7 => ?_)
    · exact absurd c7 (by decide)
    · refine jt_go jm_m237 6 1 (f' := (11, [(2, .inl ((-11))), (0, .inr (.inr (4, 0, 0))), (1, .inl (nI d))], [.inl ((-11))], h)) (P := True) rfl trivial ?_
      refine jt_iret jm_m237 7 rfl ?_
      refine ⟨jt_li ?_, rfl⟩
      unfold za_toss
      rw [q0]
      rfl
  · refine jt_ti (show zr_h 1 s (nI d) = (-12) from q0) ?_
    show jt_T 237 (5, [(0, .inr (.inr (4, 0, 0))), (1, .inl (nI d))], [.inl ((-12))], h) _
    refine jt_go jm_m237 3 2 (f' := (7, [(2, .inl ((-12))), (0, .inr (.inr (4, 0, 0))), (1, .inl (nI d))], [.inl ((-12))], h)) (P := True) rfl trivial ?_
    refine jt_ifeq jm_m237 5 (tgt := 12) (nxt := 10) rfl rfl rfl (fun c7 => ?_) (fun c7 => ?_)
    · exact absurd c7 (by decide)
    · refine jt_go jm_m237 6 1 (f' := (11, [(2, .inl ((-12))), (0, .inr (.inr (4, 0, 0))), (1, .inl (nI d))], [.inl ((-12))], h)) (P := True) rfl trivial ?_
      refine jt_iret jm_m237 7 rfl ?_
      refine ⟨jt_li ?_, rfl⟩
      unfold za_toss
      rw [q0]
      rfl
  · refine jt_ti (show zr_h 1 s (nI d) = nI 0 from q0) ?_
    show jt_T 237 (5, [(0, .inr (.inr (4, 0, 0))), (1, .inl (nI d))], [.inl (nI 0)], h) _
    refine jt_go jm_m237 3 2 (f' := (7, [(2, .inl (nI 0)), (0, .inr (.inr (4, 0, 0))), (1, .inl (nI d))], [.inl (nI 0)], h)) (P := True) rfl trivial ?_
    refine jt_nifeq jm_m237 5 (by omega) (tgt := 12) (nxt := 10) rfl rfl rfl (fun c7 => ?_) (fun c7 => ?_)
    · refine jt_go jm_m237 8 4 (f' := (18, [(2, .inl (nI 0)), (0, .inr (.inr (4, 0, 0))), (1, .inl (nI d))], [.inl (h (4, 0, 4) (nI d).toNatClampNeg)], h)) (P := vp_in (nI d) 8 ∧ True) rfl ⟨(vp_in_nI (by omega) (by decide)), trivial⟩ ?_
      refine jt_ti (show (h (4, 0, 4) (nI d).toNatClampNeg) = nI (s d 1) from jl_kind K (d := d) (nI_clamp (by omega)) (by omega) (by assumption)) ?_
      have bq1 := kw_k Y (d := d) (by omega) (by assumption)
      refine jt_go jm_m237 12 5 (f' := (25, [(3, .inl (nI (s d 1))), (2, .inl (nI 0)), (0, .inr (.inr (4, 0, 0))), (1, .inl (nI d))], [.inl (h (4, 0, 5) (nI d).toNatClampNeg)], h)) (P := vp_in (nI d) 8 ∧ True) rfl ⟨(vp_in_nI (by omega) (by decide)), trivial⟩ ?_
      refine jt_ti (show (h (4, 0, 5) (nI d).toNatClampNeg) = nI (s d 2) from jl_fig K (d := d) (nI_clamp (by omega)) (by omega) (by assumption)) ?_
      have bq2 := kw_f Y (d := d) (by omega) (by assumption)
      refine jt_go jm_m237 17 3 (f' := (29, [(4, .inl (nI (s d 2))), (3, .inl (nI (s d 1))), (2, .inl (nI 0)), (0, .inr (.inr (4, 0, 0))), (1, .inl (nI d))], [.inl (nI 3), .inl (nI (s d 1))], h)) (P := True) rfl trivial ?_
      refine jt_niceq jm_m237 20 (a := s d 1) (b := 3) (by omega) (by omega) (tgt := 48) (nxt := 32) rfl rfl rfl (fun c29 => ?_) (fun c29 => ?_)
      · refine jt_go jm_m237 29 1 (f' := (50, [(4, .inl (nI (s d 2))), (3, .inl (nI (s d 1))), (2, .inl (nI 0)), (0, .inr (.inr (4, 0, 0))), (1, .inl (nI d))], [.inl ((-15))], h)) (P := True) rfl trivial ?_
        refine jt_iret jm_m237 30 rfl ?_
        refine ⟨jt_li ?_, rfl⟩
        unfold za_toss
        rw [q0, if_pos rfl, nI_clamp (by omega)]
        first | rw [if_pos (by omega)] | (rw [if_neg (by omega)]; first | (rw [if_pos (by omega)]; done) | (rw [if_pos (by omega), show s d 1 = 6 by omega]) | (rw [if_neg (by omega)]; first | rw [if_pos (by omega)] | rw [if_neg (by omega)]))
      · refine jt_go jm_m237 21 2 (f' := (34, [(4, .inl (nI (s d 2))), (3, .inl (nI (s d 1))), (2, .inl (nI 0)), (0, .inr (.inr (4, 0, 0))), (1, .inl (nI d))], [.inl (nI 5), .inl (nI (s d 1))], h)) (P := True) rfl trivial ?_
        refine jt_niceq jm_m237 23 (a := s d 1) (b := 5) (by omega) (by omega) (tgt := 48) (nxt := 37) rfl rfl rfl (fun c34 => ?_) (fun c34 => ?_)
        · refine jt_go jm_m237 29 1 (f' := (50, [(4, .inl (nI (s d 2))), (3, .inl (nI (s d 1))), (2, .inl (nI 0)), (0, .inr (.inr (4, 0, 0))), (1, .inl (nI d))], [.inl ((-15))], h)) (P := True) rfl trivial ?_
          refine jt_iret jm_m237 30 rfl ?_
          refine ⟨jt_li ?_, rfl⟩
          unfold za_toss
          rw [q0, if_pos rfl, nI_clamp (by omega)]
          first | rw [if_pos (by omega)] | (rw [if_neg (by omega)]; first | (rw [if_pos (by omega)]; done) | (rw [if_pos (by omega), show s d 1 = 6 by omega]) | (rw [if_neg (by omega)]; first | rw [if_pos (by omega)] | rw [if_neg (by omega)]))
        · refine jt_go jm_m237 24 2 (f' := (40, [(4, .inl (nI (s d 2))), (3, .inl (nI (s d 1))), (2, .inl (nI 0)), (0, .inr (.inr (4, 0, 0))), (1, .inl (nI d))], [.inl (nI 7), .inl (nI (s d 1))], h)) (P := True) rfl trivial ?_
          refine jt_niceq jm_m237 26 (a := s d 1) (b := 7) (by omega) (by omega) (tgt := 48) (nxt := 43) rfl rfl rfl (fun c40 => ?_) (fun c40 => ?_)
          · refine jt_go jm_m237 29 1 (f' := (50, [(4, .inl (nI (s d 2))), (3, .inl (nI (s d 1))), (2, .inl (nI 0)), (0, .inr (.inr (4, 0, 0))), (1, .inl (nI d))], [.inl ((-15))], h)) (P := True) rfl trivial ?_
            refine jt_iret jm_m237 30 rfl ?_
            refine ⟨jt_li ?_, rfl⟩
            unfold za_toss
            rw [q0, if_pos rfl, nI_clamp (by omega)]
            first | rw [if_pos (by omega)] | (rw [if_neg (by omega)]; first | (rw [if_pos (by omega)]; done) | (rw [if_pos (by omega), show s d 1 = 6 by omega]) | (rw [if_neg (by omega)]; first | rw [if_pos (by omega)] | rw [if_neg (by omega)]))
          · refine jt_go jm_m237 27 1 (f' := (45, [(4, .inl (nI (s d 2))), (3, .inl (nI (s d 1))), (2, .inl (nI 0)), (0, .inr (.inr (4, 0, 0))), (1, .inl (nI d))], [.inl (nI (s d 2))], h)) (P := True) rfl trivial ?_
            refine jt_nifne jm_m237 28 (by omega) (tgt := 51) (nxt := 48) rfl rfl rfl (fun c45 => ?_) (fun c45 => ?_)
            · refine jt_go jm_m237 31 2 (f' := (54, [(4, .inl (nI (s d 2))), (3, .inl (nI (s d 1))), (2, .inl (nI 0)), (0, .inr (.inr (4, 0, 0))), (1, .inl (nI d))], [.inl (nI 6), .inl (nI (s d 1))], h)) (P := True) rfl trivial ?_
              refine jt_nicne jm_m237 33 (a := s d 1) (b := 6) (by omega) (by omega) (tgt := 70) (nxt := 57) rfl rfl rfl (fun c54 => ?_) (fun c54 => ?_)
              · refine jt_go jm_m237 40 2 (f' := (72, [(4, .inl (nI (s d 2))), (3, .inl (nI (s d 1))), (2, .inl (nI 0)), (0, .inr (.inr (4, 0, 0))), (1, .inl (nI d))], [.inl (nI 2), .inl (nI (s d 1))], h)) (P := True) rfl trivial ?_
                refine jt_nicne jm_m237 42 (a := s d 1) (b := 2) (by omega) (by omega) (tgt := 83) (nxt := 75) rfl rfl rfl (fun c72 => ?_) (fun c72 => ?_)
                · refine jt_go jm_m237 47 1 (f' := (85, [(4, .inl (nI (s d 2))), (3, .inl (nI (s d 1))), (2, .inl (nI 0)), (0, .inr (.inr (4, 0, 0))), (1, .inl (nI d))], [.inl (nI (s d 2))], h)) (P := True) rfl trivial ?_
                  refine jt_iret jm_m237 48 rfl ?_
                  refine ⟨jt_li ?_, rfl⟩
                  unfold za_toss
                  rw [q0, if_pos rfl, nI_clamp (by omega)]
                  first | rw [if_pos (by omega)] | (rw [if_neg (by omega)]; first | (rw [if_pos (by omega)]; done) | (rw [if_pos (by omega), show s d 1 = 6 by omega]) | (rw [if_neg (by omega)]; first | rw [if_pos (by omega)] | rw [if_neg (by omega)]))
                · refine jt_go jm_m237 43 3 (f' := (80, [(4, .inl (nI (s d 2))), (3, .inl (nI (s d 1))), (2, .inl (nI 0)), (0, .inr (.inr (4, 0, 0))), (1, .inl (nI d))], [.inl ((nI 100) + (nI (s d 2)))], h)) (P := True) rfl trivial ?_
                  refine jt_ti (show ((nI 100) + (nI (s d 2))) = nI (100 + s d 2) from nI_add _ _) ?_
                  refine jt_go jm_m237 46 1 (f' := (85, [(4, .inl (nI (s d 2))), (3, .inl (nI (s d 1))), (2, .inl (nI 0)), (0, .inr (.inr (4, 0, 0))), (1, .inl (nI d))], [.inl (nI (100 + s d 2))], h)) (P := True) rfl trivial ?_
                  refine jt_iret jm_m237 48 rfl ?_
                  refine ⟨jt_li ?_, rfl⟩
                  unfold za_toss
                  rw [q0, if_pos rfl, nI_clamp (by omega)]
                  first | rw [if_pos (by omega)] | (rw [if_neg (by omega)]; first | (rw [if_pos (by omega)]; done) | (rw [if_pos (by omega), show s d 1 = 6 by omega]) | (rw [if_neg (by omega)]; first | rw [if_pos (by omega)] | rw [if_neg (by omega)]))
              · refine jt_go jm_m237 34 3 (f' := (63, [(4, .inl (nI (s d 2))), (3, .inl (nI (s d 1))), (2, .inl (nI 0)), (0, .inr (.inr (4, 0, 0))), (1, .inl (nI d))], [.inl (nI (s d 2)), .inl (nI (s d 1)), .inl (nI 200)], h)) (P := True) rfl trivial ?_
                refine jt_callp (w := .inl (nI (sp_cost (s d 1) (s d 2)))) jm_m237 37 (mi' := 235) (as := [.inl (nI (s d 1)), .inl (nI (s d 2))]) (rest := [.inl (nI 200)]) (nxt := 66) rfl rfl jm_m235 rfl rfl (tp_by (by omega) (by omega)) ?_
                have bc := sp_cost_lt (k := s d 1) (f := s d 2) (by omega)
                refine jt_go jm_m237 38 1 (f' := (67, [(4, .inl (nI (s d 2))), (3, .inl (nI (s d 1))), (2, .inl (nI 0)), (0, .inr (.inr (4, 0, 0))), (1, .inl (nI d))], [.inl ((nI 200) + (nI (sp_cost (s d 1) (s d 2))))], h)) (P := True) rfl trivial ?_
                refine jt_ti (show ((nI 200) + (nI (sp_cost (s d 1) (s d 2)))) = nI (200 + sp_cost (s d 1) (s d 2)) from nI_add _ _) ?_
                refine jt_go jm_m237 39 1 (f' := (85, [(4, .inl (nI (s d 2))), (3, .inl (nI (s d 1))), (2, .inl (nI 0)), (0, .inr (.inr (4, 0, 0))), (1, .inl (nI d))], [.inl (nI (200 + sp_cost (s d 1) (s d 2)))], h)) (P := True) rfl trivial ?_
                refine jt_iret jm_m237 48 rfl ?_
                refine ⟨jt_li ?_, rfl⟩
                unfold za_toss
                rw [q0, if_pos rfl, nI_clamp (by omega)]
                first | rw [if_pos (by omega)] | (rw [if_neg (by omega)]; first | (rw [if_pos (by omega)]; done) | (rw [if_pos (by omega), show s d 1 = 6 by omega]) | (rw [if_neg (by omega)]; first | rw [if_pos (by omega)] | rw [if_neg (by omega)]))
            · refine jt_go jm_m237 29 1 (f' := (50, [(4, .inl (nI (s d 2))), (3, .inl (nI (s d 1))), (2, .inl (nI 0)), (0, .inr (.inr (4, 0, 0))), (1, .inl (nI d))], [.inl ((-15))], h)) (P := True) rfl trivial ?_
              refine jt_iret jm_m237 30 rfl ?_
              refine ⟨jt_li ?_, rfl⟩
              unfold za_toss
              rw [q0, if_pos rfl, nI_clamp (by omega)]
              first | rw [if_pos (by omega)] | (rw [if_neg (by omega)]; first | (rw [if_pos (by omega)]; done) | (rw [if_pos (by omega), show s d 1 = 6 by omega]) | (rw [if_neg (by omega)]; first | rw [if_pos (by omega)] | rw [if_neg (by omega)]))
    · exact absurd c7 (by decide)
