/-! SHELVES: what there is between calls; refusals. -/
/-- in the class: shelf d. t 0 what it holds, 1 kind, 2 figure, 3 sort, 4 size; e the elements -/
def jk_one (h : jm_M) (d : Nat) (t : Nat → Nat) (e : Nat → Int32) : Prop :=
  h (3, d, 0) 0 = nI (t 0) ∧ (t 0 = 1 → h (3, d, 0) 1 = nI (t 1) ∧ h (3, d, 0) 2 = nI (t 2)) ∧ (t 0 = 2 → h (3, d, 0) 3 = nI (t 3) ∧ h (3, d, 0) 4 = nI (t 4) ∧ ∀ i, i < 100 → h (3, d, 1) i = e i)
/-- in the reference -/
def jl_one (h : jm_M) (d : Nat) (t : Nat → Nat) (e : Nat → Int32) : Prop :=
  h (4, 0, 3) d = nI (t 0) ∧ (t 0 = 1 → h (4, 0, 4) d = nI (t 1) ∧ h (4, 0, 5) d = nI (t 2)) ∧ (t 0 = 2 → h (4, 0, 6) d = nI (t 3) ∧ h (4, 0, 7) d = nI (t 4) ∧ ∀ i, i < 100 → h (4, 0, 8) (100 * d + i) = e i)
def jk_rel (h : jm_M) (s : Nat → Nat → Nat) (e : Nat → Nat → Int32) : Prop := ∀ d, d < 8 → jk_one h d (s d) (e d)
def jl_rel (h : jm_M) (s : Nat → Nat → Nat) (e : Nat → Nat → Int32) : Prop := ∀ d, d < 8 → jl_one h d (s d) (e d)
def kw_one (t : Nat → Nat) : Prop := t 0 ≤ 2 ∧ (t 0 = 1 → t 1 < 8 ∧ t 2 < 10) ∧ (t 0 = 2 → t 3 ≤ 2 ∧ t 4 ≤ 100)
def kw (s : Nat → Nat → Nat) : Prop := ∀ d, d < 8 → kw_one (s d)
/-- all but the shelves is as it was -/
def jk_fr (h h2 : jm_M) : Prop := ∀ k : jm_K, ¬ k.1 = 3 → h2 k = h k
def jl_fr (h h2 : jm_M) : Prop := ∀ k : jm_K, ¬ (k.1 = 4 ∧ 3 ≤ k.2.2) → h2 k = h k
theorem jk_fr_rf {h : jm_M} : jk_fr h h := fun _ _ => rfl
theorem jl_fr_rf {h : jm_M} : jl_fr h h := fun _ _ => rfl
def ks_put {A : Type} (s : Nat → A) (d : Nat) (t : A) : Nat → A := fun d2 => if d2 = d then t else s d2
theorem ks_eq {A : Type} {s : Nat → A} {d : Nat} {t : A} : ks_put s d t d = t := if_pos rfl
theorem ks_ne {A : Type} {s : Nat → A} {d d2 : Nat} {t : A} (q : ¬ d2 = d) : ks_put s d t d2 = s d2 := if_neg q
theorem kw_put {s : Nat → Nat → Nat} (W : kw s) {d : Nat} {t : Nat → Nat} (h : kw_one t) : kw (ks_put s d t) := by
  intro d2 h2
  by_cases q : d2 = d
  · subst q; rw [ks_eq]; exact h
  · rw [ks_ne q]; exact W d2 h2
section JK
variable {h h2 : jm_M} {s : Nat → Nat → Nat} {e : Nat → Nat → Int32} {d i : Nat} {y : Int32}
theorem jk_holds (K : jk_rel h s e) (hd : d < 8) : h (3, d, 0) 0 = nI (s d 0) := (K d hd).1
theorem jk_kind (K : jk_rel h s e) (hd : d < 8) (q : s d 0 = 1) : h (3, d, 0) 1 = nI (s d 1) := ((K d hd).2.1 q).1
theorem jk_fig (K : jk_rel h s e) (hd : d < 8) (q : s d 0 = 1) : h (3, d, 0) 2 = nI (s d 2) := ((K d hd).2.1 q).2
theorem jk_sort (K : jk_rel h s e) (hd : d < 8) (q : s d 0 = 2) : h (3, d, 0) 3 = nI (s d 3) := ((K d hd).2.2 q).1
theorem jk_size (K : jk_rel h s e) (hd : d < 8) (q : s d 0 = 2) : h (3, d, 0) 4 = nI (s d 4) := ((K d hd).2.2 q).2.1
theorem jk_cell (K : jk_rel h s e) (hd : d < 8) (q : s d 0 = 2) (hy : y.toNatClampNeg = i) (hi : i < 100) : h (3, d, 1) y.toNatClampNeg = e d i := by rw [hy]; exact ((K d hd).2.2 q).2.2 i hi
theorem jl_holds (K : jl_rel h s e) (hy : y.toNatClampNeg = d) (hd : d < 8) : h (4, 0, 3) y.toNatClampNeg = nI (s d 0) := by rw [hy]; exact (K d hd).1
theorem jl_kind (K : jl_rel h s e) (hy : y.toNatClampNeg = d) (hd : d < 8) (q : s d 0 = 1) : h (4, 0, 4) y.toNatClampNeg = nI (s d 1) := by rw [hy]; exact ((K d hd).2.1 q).1
theorem jl_fig (K : jl_rel h s e) (hy : y.toNatClampNeg = d) (hd : d < 8) (q : s d 0 = 1) : h (4, 0, 5) y.toNatClampNeg = nI (s d 2) := by rw [hy]; exact ((K d hd).2.1 q).2
theorem jl_sort (K : jl_rel h s e) (hy : y.toNatClampNeg = d) (hd : d < 8) (q : s d 0 = 2) : h (4, 0, 6) y.toNatClampNeg = nI (s d 3) := by rw [hy]; exact ((K d hd).2.2 q).1
theorem jl_size (K : jl_rel h s e) (hy : y.toNatClampNeg = d) (hd : d < 8) (q : s d 0 = 2) : h (4, 0, 7) y.toNatClampNeg = nI (s d 4) := by rw [hy]; exact ((K d hd).2.2 q).2.1
theorem jl_cell (K : jl_rel h s e) (hy : y.toNatClampNeg = 100 * d + i) (hd : d < 8) (q : s d 0 = 2) (hi : i < 100) : h (4, 0, 8) y.toNatClampNeg = e d i := by rw [hy]; exact ((K d hd).2.2 q).2.2 i hi
theorem kw_a (W : kw s) (hd : d < 8) : s d 0 ≤ 2 := (W d hd).1
theorem kw_k (W : kw s) (hd : d < 8) (q : s d 0 = 1) : s d 1 < 8 := ((W d hd).2.1 q).1
theorem kw_f (W : kw s) (hd : d < 8) (q : s d 0 = 1) : s d 2 < 10 := ((W d hd).2.1 q).2
theorem kw_s (W : kw s) (hd : d < 8) (q : s d 0 = 2) : s d 3 ≤ 2 := ((W d hd).2.2 q).1
theorem kw_z (W : kw s) (hd : d < 8) (q : s d 0 = 2) : s d 4 ≤ 100 := ((W d hd).2.2 q).2
theorem jk_mv (K : jk_rel h s e) (F : ∀ k : jm_K, k.1 = 3 → h2 k = h k) : jk_rel h2 s e := by
  intro d hd
  have := K d hd
  unfold jk_one at this ⊢
  rw [F (3, d, 0) rfl, F (3, d, 1) rfl]
  exact this
theorem jl_mv (K : jl_rel h s e) (F : ∀ k : jm_K, k.1 = 4 ∧ 3 ≤ k.2.2 → h2 k = h k) : jl_rel h2 s e := by
  intro d hd
  have := K d hd
  unfold jl_one at this ⊢
  rw [F (4, 0, 3) (by decide), F (4, 0, 4) (by decide), F (4, 0, 5) (by decide), F (4, 0, 6) (by decide), F (4, 0, 7) (by decide), F (4, 0, 8) (by decide)]
  exact this
end JK
/-- the refusal unless the shelf holds w -/
def zr_h (w : Nat) (s : Nat → Nat → Nat) (x : Int32) : Int32 := if nI 0 ≤ x ∧ x ≤ nI 7 then (if s x.toNatClampNeg 0 = 0 then (-11) else if s x.toNatClampNeg 0 = w then nI 0 else (-12)) else (-1)
theorem zr_no {w : Nat} {s : Nat → Nat → Nat} {x : Int32} (q : ¬ (nI 0 ≤ x ∧ x ≤ nI 7)) : zr_h w s x = (-1) := if_neg q
theorem zr_at {w : Nat} {s : Nat → Nat → Nat} {d : Nat} (hd : d ≤ 7) : zr_h w s (nI d) = if s d 0 = 0 then (-11) else if s d 0 = w then nI 0 else (-12) := by
  unfold zr_h
  rw [if_pos ⟨nI_pos' (by omega), (nI_leI (by omega) (by omega)).mpr hd⟩, nI_clamp (by omega)]
theorem zr_cs {w : Nat} {s : Nat → Nat → Nat} {x : Int32} (W : kw s) (hw : w = 1 ∨ w = 2) : (¬ (nI 0 ≤ x ∧ x ≤ nI 7) ∧ zr_h w s x = (-1)) ∨ (∃ d, d ≤ 7 ∧ x = nI d ∧ s d 0 = 0 ∧ zr_h w s x = (-11)) ∨ (∃ d, d ≤ 7 ∧ x = nI d ∧ s d 0 = 3 - w ∧ zr_h w s x = (-12)) ∨ (∃ d, d ≤ 7 ∧ x = nI d ∧ s d 0 = w ∧ zr_h w s x = nI 0) := by
  by_cases q : nI 0 ≤ x ∧ x ≤ nI 7
  · obtain ⟨d, hd, rfl⟩ := jx_win (by decide) q
    have := kw_a W (d := d) (by omega)
    rcases (show s d 0 = 0 ∨ s d 0 = 3 - w ∨ s d 0 = w by omega) with q1 | q1 | q1
    · exact Or.inr (Or.inl ⟨d, hd, rfl, q1, (zr_at hd).trans (if_pos q1)⟩)
    · exact Or.inr (Or.inr (Or.inl ⟨d, hd, rfl, q1, (zr_at hd).trans ((if_neg (by omega)).trans (if_neg (by omega)))⟩))
    · exact Or.inr (Or.inr (Or.inr ⟨d, hd, rfl, q1, (zr_at hd).trans ((if_neg (by omega)).trans (if_pos q1))⟩))
  · exact Or.inl ⟨q, if_neg q⟩
set_option maxHeartbeats 4000000 in
set_option maxRecDepth 20000 in
theorem tk_held {h : jm_M} {s : Nat → Nat → Nat} {e : Nat → Nat → Int32} (K : jk_rel h s e) (Y : kw s) {x : Int32} {v : Nat} (hv : v = 1 ∨ v = 2) : jt_Pu 135 [.inr (.inr (0, 0, 0)), .inl (x), .inl (nI v)] h (.inl (zr_h v s x)) := by
  show jt_T 135 (0, [(0, .inr (.inr (0, 0, 0))), (1, .inl (x)), (2, .inl (nI v))], [], h) _
  refine jt_go jm_m135 0 1 (f' := (1, [(0, .inr (.inr (0, 0, 0))), (1, .inl (x)), (2, .inl (nI v))], [.inl (x)], h)) (P := True) rfl trivial ?_
  refine jt_callp (w := .inl (jm_b (nI 0 ≤ x ∧ x ≤ nI 7))) jm_m135 1 (mi' := 137) (as := [.inl (x)]) (rest := []) (nxt := 4) rfl rfl jm_m137 rfl rfl (ta_shelf) ?_
  refine jt_ifbne jm_m135 2 (tgt := 9) (nxt := 7) rfl rfl rfl (fun c4 => ?_) (fun c4 => ?_)
  · obtain ⟨d, hd, rfl⟩ := jx_win (by decide) c4
    have ba := kw_a Y (d := d) (by omega)
    show jt_T 135 (9, [(0, .inr (.inr (0, 0, 0))), (1, .inl (nI d)), (2, .inl (nI v))], [], h) _
    refine jt_go jm_m135 5 4 (f' := (15, [(0, .inr (.inr (0, 0, 0))), (1, .inl (nI d)), (2, .inl (nI v))], [.inr (.inr (3, (nI d).toNatClampNeg, 0))], h)) (P := vp_in (nI d) 8 ∧ True) rfl ⟨(vp_in_nI (by omega) (by decide)), trivial⟩ ?_
    refine jt_tr (show ((3, (nI d).toNatClampNeg, 0) : jm_K) = (3, d, 0) by rw [nI_clamp (by omega)]) ?_
    refine jt_go jm_m135 9 1 (f' := (18, [(0, .inr (.inr (0, 0, 0))), (1, .inl (nI d)), (2, .inl (nI v))], [.inl (h (3, d, 0) 0)], h)) (P := True) rfl trivial ?_
    refine jt_ti (show (h (3, d, 0) 0) = nI (s d 0) from jk_holds K (d := d) (by omega)) ?_
    have bq1 := kw_a Y (d := d) (by omega)
    refine jt_nifne jm_m135 10 (by omega) (tgt := 24) (nxt := 21) rfl rfl rfl (fun c18 => ?_) (fun c18 => ?_)
    · refine jt_go jm_m135 13 4 (f' := (30, [(0, .inr (.inr (0, 0, 0))), (1, .inl (nI d)), (2, .inl (nI v))], [.inr (.inr (3, (nI d).toNatClampNeg, 0))], h)) (P := vp_in (nI d) 8 ∧ True) rfl ⟨(vp_in_nI (by omega) (by decide)), trivial⟩ ?_
      refine jt_tr (show ((3, (nI d).toNatClampNeg, 0) : jm_K) = (3, d, 0) by rw [nI_clamp (by omega)]) ?_
      refine jt_go jm_m135 17 1 (f' := (33, [(0, .inr (.inr (0, 0, 0))), (1, .inl (nI d)), (2, .inl (nI v))], [.inl (h (3, d, 0) 0)], h)) (P := True) rfl trivial ?_
      refine jt_ti (show (h (3, d, 0) 0) = nI (s d 0) from jk_holds K (d := d) (by omega)) ?_
      have bq2 := kw_a Y (d := d) (by omega)
      refine jt_go jm_m135 18 1 (f' := (34, [(0, .inr (.inr (0, 0, 0))), (1, .inl (nI d)), (2, .inl (nI v))], [.inl (nI v), .inl (nI (s d 0))], h)) (P := True) rfl trivial ?_
      refine jt_nicne jm_m135 19 (a := s d 0) (b := v) (by omega) (by omega) (tgt := 41) (nxt := 37) rfl rfl rfl (fun c34 => ?_) (fun c34 => ?_)
      · refine jt_go jm_m135 22 1 (f' := (43, [(0, .inr (.inr (0, 0, 0))), (1, .inl (nI d)), (2, .inl (nI v))], [.inl ((-12))], h)) (P := True) rfl trivial ?_
        refine jt_iret jm_m135 23 rfl ?_
        refine ⟨jt_li ?_, rfl⟩
        rw [zr_at hd]
        first | rw [if_pos (by omega)] | (rw [if_neg (by omega)]; first | rw [if_pos (by omega)] | rw [if_neg (by omega)])
      · refine jt_go jm_m135 20 2 (f' := (43, [(0, .inr (.inr (0, 0, 0))), (1, .inl (nI d)), (2, .inl (nI v))], [.inl (nI 0)], h)) (P := True) rfl trivial ?_
        refine jt_iret jm_m135 23 rfl ?_
        refine ⟨jt_li ?_, rfl⟩
        rw [zr_at hd]
        first | rw [if_pos (by omega)] | (rw [if_neg (by omega)]; first | rw [if_pos (by omega)] | rw [if_neg (by omega)])
    · refine jt_go jm_m135 11 1 (f' := (23, [(0, .inr (.inr (0, 0, 0))), (1, .inl (nI d)), (2, .inl (nI v))], [.inl ((-11))], h)) (P := True) rfl trivial ?_
      refine jt_iret jm_m135 12 rfl ?_
      refine ⟨jt_li ?_, rfl⟩
      rw [zr_at hd]
      first | rw [if_pos (by omega)] | (rw [if_neg (by omega)]; first | rw [if_pos (by omega)] | rw [if_neg (by omega)])
  · refine jt_go jm_m135 3 1 (f' := (8, [(0, .inr (.inr (0, 0, 0))), (1, .inl (x)), (2, .inl (nI v))], [.inl ((-1))], h)) (P := True) rfl trivial ?_
    refine jt_iret jm_m135 4 rfl ?_
    exact ⟨jt_li (zr_no c4).symm, rfl⟩
set_option maxHeartbeats 4000000 in
set_option maxRecDepth 20000 in
theorem tk_row {h : jm_M} {s : Nat → Nat → Nat} {e : Nat → Nat → Int32} (K : jk_rel h s e) (Y : kw s) {x : Int32} : jt_Pu 133 [.inr (.inr (0, 0, 0)), .inl (x)] h (.inl (zr_h 2 s x)) := by
  show jt_T 133 (0, [(0, .inr (.inr (0, 0, 0))), (1, .inl (x))], [], h) _
  refine jt_go jm_m133 0 3 (f' := (3, [(0, .inr (.inr (0, 0, 0))), (1, .inl (x))], [.inl (nI 2), .inl (x), .inr (.inr (0, 0, 0))], h)) (P := True) rfl trivial ?_
  refine jt_callp (w := .inl (zr_h 2 s x)) jm_m133 3 (mi' := 135) (as := [.inr (.inr (0, 0, 0)), .inl (x), .inl (nI 2)]) (rest := []) (nxt := 6) rfl rfl jm_m135 rfl rfl (tk_held K Y (Or.inr rfl)) ?_
  refine jt_iret jm_m133 4 rfl ?_
  exact ⟨rfl, rfl⟩
set_option maxHeartbeats 4000000 in
set_option maxRecDepth 20000 in
theorem tk_kind {h : jm_M} {s : Nat → Nat → Nat} {e : Nat → Nat → Int32} (K : jk_rel h s e) (Y : kw s) {x : Int32} : jt_Pu 134 [.inr (.inr (0, 0, 0)), .inl (x)] h (.inl (zr_h 1 s x)) := by
  show jt_T 134 (0, [(0, .inr (.inr (0, 0, 0))), (1, .inl (x))], [], h) _
  refine jt_go jm_m134 0 3 (f' := (3, [(0, .inr (.inr (0, 0, 0))), (1, .inl (x))], [.inl (nI 1), .inl (x), .inr (.inr (0, 0, 0))], h)) (P := True) rfl trivial ?_
  refine jt_callp (w := .inl (zr_h 1 s x)) jm_m134 3 (mi' := 135) (as := [.inr (.inr (0, 0, 0)), .inl (x), .inl (nI 1)]) (rest := []) (nxt := 6) rfl rfl jm_m135 rfl rfl (tk_held K Y (Or.inl rfl)) ?_
  refine jt_iret jm_m134 4 rfl ?_
  exact ⟨rfl, rfl⟩
set_option maxHeartbeats 4000000 in
set_option maxRecDepth 20000 in
theorem tl_row {h : jm_M} {s : Nat → Nat → Nat} {e : Nat → Nat → Int32} (K : jl_rel h s e) (Y : kw s) {x : Int32} : jt_Pu 228 [.inr (.inr (4, 0, 0)), .inl (x), .inl ((-1))] h (.inl (zr_h 2 s x)) := by
  show jt_T 228 (0, [(0, .inr (.inr (4, 0, 0))), (1, .inl (x)), (2, .inl ((-1)))], [], h) _
  refine jt_go jm_m228 0 1 (f' := (1, [(0, .inr (.inr (4, 0, 0))), (1, .inl (x)), (2, .inl ((-1)))], [.inl (x)], h)) (P := True) rfl trivial ?_
  refine jt_callp (w := .inl (jm_b (nI 0 ≤ x ∧ x ≤ nI 7))) jm_m228 1 (mi' := 227) (as := [.inl (x)]) (rest := []) (nxt := 4) rfl rfl jm_m227 rfl rfl (tb_shelf) ?_
  refine jt_ifbne jm_m228 2 (tgt := 11) (nxt := 7) rfl rfl rfl (fun c4 => ?_) (fun c4 => ?_)
  · obtain ⟨d, hd, rfl⟩ := jx_win (by decide) c4
    have ba := kw_a Y (d := d) (by omega)
    show jt_T 228 (11, [(0, .inr (.inr (4, 0, 0))), (1, .inl (nI d)), (2, .inl ((-1)))], [], h) _
    refine jt_go jm_m228 5 4 (f' := (17, [(0, .inr (.inr (4, 0, 0))), (1, .inl (nI d)), (2, .inl ((-1)))], [.inl (h (4, 0, 3) (nI d).toNatClampNeg)], h)) (P := vp_in (nI d) 8 ∧ True) rfl ⟨(vp_in_nI (by omega) (by decide)), trivial⟩ ?_
    refine jt_ti (show (h (4, 0, 3) (nI d).toNatClampNeg) = nI (s d 0) from jl_holds K (d := d) (nI_clamp (by omega)) (by omega)) ?_
    have bq1 := kw_a Y (d := d) (by omega)
    refine jt_nifne jm_m228 9 (by omega) (tgt := 25) (nxt := 20) rfl rfl rfl (fun c17 => ?_) (fun c17 => ?_)
    · refine jt_go jm_m228 12 4 (f' := (31, [(0, .inr (.inr (4, 0, 0))), (1, .inl (nI d)), (2, .inl ((-1)))], [.inl (h (4, 0, 3) (nI d).toNatClampNeg)], h)) (P := vp_in (nI d) 8 ∧ True) rfl ⟨(vp_in_nI (by omega) (by decide)), trivial⟩ ?_
      refine jt_ti (show (h (4, 0, 3) (nI d).toNatClampNeg) = nI (s d 0) from jl_holds K (d := d) (nI_clamp (by omega)) (by omega)) ?_
      have bq2 := kw_a Y (d := d) (by omega)
      refine jt_go jm_m228 16 1 (f' := (32, [(0, .inr (.inr (4, 0, 0))), (1, .inl (nI d)), (2, .inl ((-1)))], [.inl (nI 2), .inl (nI (s d 0))], h)) (P := True) rfl trivial ?_
      refine jt_nicne jm_m228 17 (a := s d 0) (b := 2) (by omega) (by omega) (tgt := 49) (nxt := 35) rfl rfl rfl (fun c32 => ?_) (fun c32 => ?_)
      · refine jt_go jm_m228 26 2 (f' := (55, [(0, .inr (.inr (4, 0, 0))), (1, .inl (nI d)), (2, .inl ((-1)))], [.inl ((-12))], h)) (P := True) rfl trivial ?_
        refine jt_iret jm_m228 29 rfl ?_
        refine ⟨jt_li ?_, rfl⟩
        rw [zr_at hd]
        first | rw [if_pos (by omega)] | (rw [if_neg (by omega)]; first | rw [if_pos (by omega)] | rw [if_neg (by omega)])
      · refine jt_go jm_m228 18 1 (f' := (36, [(0, .inr (.inr (4, 0, 0))), (1, .inl (nI d)), (2, .inl ((-1)))], [.inl ((-1))], h)) (P := True) rfl trivial ?_
        refine jt_iflt jm_m228 19 (tgt := 54) (nxt := 39) rfl rfl rfl (fun c36 => ?_) (fun c36 => ?_)
        · refine jt_go jm_m228 28 1 (f' := (55, [(0, .inr (.inr (4, 0, 0))), (1, .inl (nI d)), (2, .inl ((-1)))], [.inl (nI 0)], h)) (P := True) rfl trivial ?_
          refine jt_iret jm_m228 29 rfl ?_
          refine ⟨jt_li ?_, rfl⟩
          rw [zr_at hd]
          first | rw [if_pos (by omega)] | (rw [if_neg (by omega)]; first | rw [if_pos (by omega)] | rw [if_neg (by omega)])
        · exact absurd c36 (by decide)
    · refine jt_go jm_m228 10 2 (f' := (55, [(0, .inr (.inr (4, 0, 0))), (1, .inl (nI d)), (2, .inl ((-1)))], [.inl ((-11))], h)) (P := True) rfl trivial ?_
      refine jt_iret jm_m228 29 rfl ?_
      refine ⟨jt_li ?_, rfl⟩
      rw [zr_at hd]
      first | rw [if_pos (by omega)] | (rw [if_neg (by omega)]; first | rw [if_pos (by omega)] | rw [if_neg (by omega)])
  · refine jt_go jm_m228 3 2 (f' := (55, [(0, .inr (.inr (4, 0, 0))), (1, .inl (x)), (2, .inl ((-1)))], [.inl ((-1))], h)) (P := True) rfl trivial ?_
    refine jt_iret jm_m228 29 rfl ?_
    exact ⟨jt_li (zr_no c4).symm, rfl⟩
set_option maxHeartbeats 4000000 in
set_option maxRecDepth 20000 in
theorem tl_kind {h : jm_M} {s : Nat → Nat → Nat} {e : Nat → Nat → Int32} (K : jl_rel h s e) (Y : kw s) {x : Int32} : jt_Pu 229 [.inr (.inr (4, 0, 0)), .inl (x)] h (.inl (zr_h 1 s x)) := by
  show jt_T 229 (0, [(0, .inr (.inr (4, 0, 0))), (1, .inl (x))], [], h) _
  refine jt_go jm_m229 0 1 (f' := (1, [(0, .inr (.inr (4, 0, 0))), (1, .inl (x))], [.inl (x)], h)) (P := True) rfl trivial ?_
  refine jt_callp (w := .inl (jm_b (nI 0 ≤ x ∧ x ≤ nI 7))) jm_m229 1 (mi' := 227) (as := [.inl (x)]) (rest := []) (nxt := 4) rfl rfl jm_m227 rfl rfl (tb_shelf) ?_
  refine jt_ifbne jm_m229 2 (tgt := 11) (nxt := 7) rfl rfl rfl (fun c4 => ?_) (fun c4 => ?_)
  · obtain ⟨d, hd, rfl⟩ := jx_win (by decide) c4
    have ba := kw_a Y (d := d) (by omega)
    show jt_T 229 (11, [(0, .inr (.inr (4, 0, 0))), (1, .inl (nI d))], [], h) _
    refine jt_go jm_m229 5 4 (f' := (17, [(0, .inr (.inr (4, 0, 0))), (1, .inl (nI d))], [.inl (h (4, 0, 3) (nI d).toNatClampNeg)], h)) (P := vp_in (nI d) 8 ∧ True) rfl ⟨(vp_in_nI (by omega) (by decide)), trivial⟩ ?_
    refine jt_ti (show (h (4, 0, 3) (nI d).toNatClampNeg) = nI (s d 0) from jl_holds K (d := d) (nI_clamp (by omega)) (by omega)) ?_
    have bq1 := kw_a Y (d := d) (by omega)
    refine jt_nifne jm_m229 9 (by omega) (tgt := 25) (nxt := 20) rfl rfl rfl (fun c17 => ?_) (fun c17 => ?_)
    · refine jt_go jm_m229 12 4 (f' := (31, [(0, .inr (.inr (4, 0, 0))), (1, .inl (nI d))], [.inl (h (4, 0, 3) (nI d).toNatClampNeg)], h)) (P := vp_in (nI d) 8 ∧ True) rfl ⟨(vp_in_nI (by omega) (by decide)), trivial⟩ ?_
      refine jt_ti (show (h (4, 0, 3) (nI d).toNatClampNeg) = nI (s d 0) from jl_holds K (d := d) (nI_clamp (by omega)) (by omega)) ?_
      have bq2 := kw_a Y (d := d) (by omega)
      refine jt_go jm_m229 16 1 (f' := (32, [(0, .inr (.inr (4, 0, 0))), (1, .inl (nI d))], [.inl (nI 2), .inl (nI (s d 0))], h)) (P := True) rfl trivial ?_
      refine jt_nicne jm_m229 17 (a := s d 0) (b := 2) (by omega) (by omega) (tgt := 40) (nxt := 35) rfl rfl rfl (fun c32 => ?_) (fun c32 => ?_)
      · refine jt_go jm_m229 20 1 (f' := (41, [(0, .inr (.inr (4, 0, 0))), (1, .inl (nI d))], [.inl (nI 0)], h)) (P := True) rfl trivial ?_
        refine jt_iret jm_m229 21 rfl ?_
        refine ⟨jt_li ?_, rfl⟩
        rw [zr_at hd]
        first | rw [if_pos (by omega)] | (rw [if_neg (by omega)]; first | rw [if_pos (by omega)] | rw [if_neg (by omega)])
      · refine jt_go jm_m229 18 2 (f' := (41, [(0, .inr (.inr (4, 0, 0))), (1, .inl (nI d))], [.inl ((-12))], h)) (P := True) rfl trivial ?_
        refine jt_iret jm_m229 21 rfl ?_
        refine ⟨jt_li ?_, rfl⟩
        rw [zr_at hd]
        first | rw [if_pos (by omega)] | (rw [if_neg (by omega)]; first | rw [if_pos (by omega)] | rw [if_neg (by omega)])
    · refine jt_go jm_m229 10 2 (f' := (41, [(0, .inr (.inr (4, 0, 0))), (1, .inl (nI d))], [.inl ((-11))], h)) (P := True) rfl trivial ?_
      refine jt_iret jm_m229 21 rfl ?_
      refine ⟨jt_li ?_, rfl⟩
      rw [zr_at hd]
      first | rw [if_pos (by omega)] | (rw [if_neg (by omega)]; first | rw [if_pos (by omega)] | rw [if_neg (by omega)])
  · refine jt_go jm_m229 3 2 (f' := (41, [(0, .inr (.inr (4, 0, 0))), (1, .inl (x))], [.inl ((-1))], h)) (P := True) rfl trivial ?_
    refine jt_iret jm_m229 21 rfl ?_
    exact ⟨jt_li (zr_no c4).symm, rfl⟩
