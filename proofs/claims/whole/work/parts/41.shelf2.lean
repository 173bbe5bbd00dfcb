/-! SHELVES: keep, row. -/
section JKP
variable {h h2 : jm_M} {s : Nat → Nat → Nat} {e : Nat → Nat → Int32} {d : Nat} {t : Nat → Nat} {u : Nat → Int32}
theorem jk_put (K : jk_rel h s e) (F : ∀ k : jm_K, ¬ (k.1 = 3 ∧ k.2.1 = d) → h2 k = h k) (n : jk_one h2 d t u) : jk_rel h2 (ks_put s d t) (ks_put e d u) := by
  intro d2 hd2
  by_cases q : d2 = d
  · subst q; rw [ks_eq, ks_eq]; exact n
  · rw [ks_ne q, ks_ne q]
    have := K d2 hd2
    unfold jk_one at this ⊢
    rw [F (3, d2, 0) (fun z => q z.2), F (3, d2, 1) (fun z => q z.2)]
    exact this
theorem jl_put (K : jl_rel h s e) (F : ∀ d2, d2 < 8 → ¬ d2 = d → jl_one h d2 (s d2) (e d2) → jl_one h2 d2 (s d2) (e d2)) (n : jl_one h2 d t u) : jl_rel h2 (ks_put s d t) (ks_put e d u) := by
  intro d2 hd2
  by_cases q : d2 = d
  · subst q; rw [ks_eq, ks_eq]; exact n
  · rw [ks_ne q, ks_ne q]; exact F d2 hd2 q (K d2 hd2)
end JKP
theorem ks_self {A : Type} {s : Nat → A} {d : Nat} : ks_put s d (s d) = s := by
  funext i
  by_cases q : i = d
  · subst q; exact ks_eq
  · exact ks_ne q
theorem jk_fr_one {h h2 : jm_M} {d : Nat} (F : ∀ k : jm_K, ¬ (k.1 = 3 ∧ k.2.1 = d) → h2 k = h k) : jk_fr h h2 := fun k hk => F k (fun z => hk z.1)
theorem jx_01 {x : Int32} (h : nI 0 ≤ x ∧ x ≤ nI 1) : x = 0 ∨ x = nI 1 := by
  obtain ⟨c, hc, rfl⟩ := jx_win (by decide) h
  rcases (show c = 0 ∨ c = 1 by omega) with rfl | rfl
  · exact Or.inl rfl
  · exact Or.inr rfl
/-- what keep asks of its arguments, and what it makes of the shelf -/
abbrev kp_ok (x y z v : Int32) : Prop := (nI 0 ≤ x ∧ x ≤ nI 7) ∧ (y = 0 ∨ (y = nI 1 ∧ (nI 0 ≤ z ∧ z ≤ nI 7) ∧ (nI 0 ≤ v ∧ v ≤ nI 9)))
def kp_t (y z v : Int32) : Nat → Nat := fun k => if y = 0 then 0 else if k = 0 then 1 else if k = 1 then z.toNatClampNeg else v.toNatClampNeg
def za_keep (x y z v : Int32) : Int32 := if kp_ok x y z v then nI 0 else (-1)
def zs_keep (s : Nat → Nat → Nat) (x y z v : Int32) : Nat → Nat → Nat := if kp_ok x y z v then ks_put s x.toNatClampNeg (kp_t y z v) else s
theorem kp_t0 {z v : Int32} {k : Nat} : kp_t 0 z v k = 0 := if_pos rfl
theorem kp_t1 {z v : Int32} : kp_t (nI 1) z v 0 = 1 ∧ kp_t (nI 1) z v 1 = z.toNatClampNeg ∧ kp_t (nI 1) z v 2 = v.toNatClampNeg := ⟨rfl, rfl, rfl⟩
theorem kw_keep {s : Nat → Nat → Nat} (W : kw s) (x y z v : Int32) : kw (zs_keep s x y z v) := by
  unfold zs_keep
  split
  · rename_i q
    refine kw_put W ?_
    rcases q.2 with rfl | ⟨rfl, q1, q2⟩
    · exact ⟨by rw [kp_t0]; omega, fun z => by rw [kp_t0] at z; omega, fun z => by rw [kp_t0] at z; omega⟩
    · obtain ⟨c, hc, rfl⟩ := jx_win (by decide) q1
      obtain ⟨f, hf, rfl⟩ := jx_win (by decide) q2
      refine ⟨by rw [kp_t1.1]; omega, fun _ => ?_, fun z => by rw [kp_t1.1] at z; omega⟩
      rw [kp_t1.2.1, kp_t1.2.2, nI_clamp (by omega), nI_clamp (by omega)]
      omega
  · exact W
set_option maxHeartbeats 4000000 in
set_option maxRecDepth 20000 in
theorem tk_none {h : jm_M} {d : Nat} : jt_T 41 (0, [(0, .inr (.inr (3, d, 0)))], [], h) (fun u h' => u = none ∧ h' (3, d, 0) 0 = nI 0 ∧ ∀ k : jm_K, ¬ (k.1 = 3 ∧ k.2.1 = d) → h' k = h k) := by
  refine jt_goM jm_m41 0 3 (pc' := 5) (L' := [(0, .inr (.inr (3, d, 0)))]) (st' := []) (m' := jm_set h (3, d, 0) (upd (h (3, d, 0)) 0 (nI 0))) (P := True) rfl trivial (fun h1 eh1 => ?_)
  refine jt_vret jm_m41 3 rfl ?_
  exact ⟨rfl, by rw [eh1, jm_set_eq, jx_eq], fun k hk => by rw [eh1]; exact jm_set_ne (fun q => hk (by rw [q]; exact ⟨rfl, rfl⟩))⟩
set_option maxHeartbeats 4000000 in
set_option maxRecDepth 20000 in
theorem tk_cat {h : jm_M} {d : Nat} {z v : Int32} : jt_T 42 (0, [(0, .inr (.inr (3, d, 0))), (1, .inl (z)), (2, .inl (v))], [], h) (fun u h' => u = none ∧ (h' (3, d, 0) 0 = nI 1 ∧ h' (3, d, 0) 1 = z ∧ h' (3, d, 0) 2 = v) ∧ ∀ k : jm_K, ¬ (k.1 = 3 ∧ k.2.1 = d) → h' k = h k) := by
  refine jt_goM jm_m42 0 3 (pc' := 5) (L' := [(0, .inr (.inr (3, d, 0))), (1, .inl (z)), (2, .inl (v))]) (st' := []) (m' := jm_set h (3, d, 0) (upd (h (3, d, 0)) 0 (nI 1))) (P := True) rfl trivial (fun h1 eh1 => ?_)
  refine jt_goM jm_m42 3 3 (pc' := 10) (L' := [(0, .inr (.inr (3, d, 0))), (1, .inl (z)), (2, .inl (v))]) (st' := []) (m' := jm_set h1 (3, d, 0) (upd (h1 (3, d, 0)) 1 z)) (P := True) rfl trivial (fun h2 eh2 => ?_)
  refine jt_goM jm_m42 6 3 (pc' := 15) (L' := [(0, .inr (.inr (3, d, 0))), (1, .inl (z)), (2, .inl (v))]) (st' := []) (m' := jm_set h2 (3, d, 0) (upd (h2 (3, d, 0)) 2 v)) (P := True) rfl trivial (fun h3 eh3 => ?_)
  refine jt_vret jm_m42 9 rfl ?_
  refine ⟨rfl, ?_, fun k hk => by rw [eh3, jm_set_ne (fun q => hk (by rw [q]; exact ⟨rfl, rfl⟩)), eh2, jm_set_ne (fun q => hk (by rw [q]; exact ⟨rfl, rfl⟩)), eh1, jm_set_ne (fun q => hk (by rw [q]; exact ⟨rfl, rfl⟩))]⟩
  have a : h3 (3, d, 0) = upd (upd (upd (h (3, d, 0)) 0 (nI 1)) 1 z) 2 v := by rw [eh3, jm_set_eq, eh2, jm_set_eq, eh1, jm_set_eq]
  rw [a]
  exact ⟨rfl, rfl, rfl⟩
set_option maxHeartbeats 4000000 in
set_option maxRecDepth 20000 in
theorem ck_keep {h : jm_M} {s : Nat → Nat → Nat} {e : Nat → Nat → Int32} (K : jk_rel h s e) (Y : kw s) {x y z v : Int32} : jt_T 127 (0, [(0, .inr (.inr (0, 0, 0))), (1, .inl (x)), (2, .inl (y)), (3, .inl (z)), (4, .inl (v))], [], h) (fun u h' => u = some (.inl (za_keep x y z v)) ∧ jk_rel h' (zs_keep s x y z v) e ∧ jk_fr h h') := by
  refine jt_go jm_m127 0 1 (f' := (1, [(0, .inr (.inr (0, 0, 0))), (1, .inl (x)), (2, .inl (y)), (3, .inl (z)), (4, .inl (v))], [.inl (x)], h)) (P := True) rfl trivial ?_
  refine jt_callp (w := .inl (jm_b (nI 0 ≤ x ∧ x ≤ nI 7))) jm_m127 1 (mi' := 137) (as := [.inl (x)]) (rest := []) (nxt := 4) rfl rfl jm_m137 rfl rfl (ta_shelf) ?_
  refine jt_ifbne jm_m127 2 (tgt := 9) (nxt := 7) rfl rfl rfl (fun c4 => ?_) (fun c4 => ?_)
  · have r4 := c4
    obtain ⟨d, hd, rfl⟩ := jx_win (by decide) r4
    show jt_T 127 (9, [(0, .inr (.inr (0, 0, 0))), (1, .inl (nI d)), (2, .inl (y)), (3, .inl (z)), (4, .inl (v))], [], h) _
    refine jt_go jm_m127 5 1 (f' := (10, [(0, .inr (.inr (0, 0, 0))), (1, .inl (nI d)), (2, .inl (y)), (3, .inl (z)), (4, .inl (v))], [.inl (y)], h)) (P := True) rfl trivial ?_
    refine jt_ifne jm_m127 6 (tgt := 24) (nxt := 13) rfl rfl rfl (fun c10 => ?_) (fun c10 => ?_)
    · refine jt_go jm_m127 14 2 (f' := (26, [(0, .inr (.inr (0, 0, 0))), (1, .inl (nI d)), (2, .inl (y)), (3, .inl (z)), (4, .inl (v))], [.inl (nI 1), .inl (y)], h)) (P := True) rfl trivial ?_
      refine jt_icne jm_m127 16 (tgt := 47) (nxt := 29) rfl rfl rfl (fun c26 => ?_) (fun c26 => ?_)
      · refine jt_go jm_m127 25 1 (f' := (48, [(0, .inr (.inr (0, 0, 0))), (1, .inl (nI d)), (2, .inl (y)), (3, .inl (z)), (4, .inl (v))], [.inl ((-1))], h)) (P := True) rfl trivial ?_
        refine jt_iret jm_m127 26 rfl ?_
        have ng : ¬ kp_ok (nI d) y z v := by
          rintro ⟨a, b | ⟨b1, b2, b3⟩⟩ <;> first | exact c4 a | exact c10 b | exact c26 b1
        exact ⟨jt_li (if_neg ng).symm, by unfold zs_keep; rw [if_neg ng]; exact K, jk_fr_rf⟩
      · refine jt_go jm_m127 17 1 (f' := (30, [(0, .inr (.inr (0, 0, 0))), (1, .inl (nI d)), (2, .inl (y)), (3, .inl (z)), (4, .inl (v))], [.inl (z)], h)) (P := True) rfl trivial ?_
        refine jt_callp (w := .inl (jm_b (nI 0 ≤ z ∧ z ≤ nI 7))) jm_m127 18 (mi' := 140) (as := [.inl (z)]) (rest := []) (nxt := 33) rfl rfl jm_m140 rfl rfl (ta_kind) ?_
        refine jt_ifbeq jm_m127 19 (tgt := 47) (nxt := 36) rfl rfl rfl (fun c33 => ?_) (fun c33 => ?_)
        · refine jt_go jm_m127 25 1 (f' := (48, [(0, .inr (.inr (0, 0, 0))), (1, .inl (nI d)), (2, .inl (y)), (3, .inl (z)), (4, .inl (v))], [.inl ((-1))], h)) (P := True) rfl trivial ?_
          refine jt_iret jm_m127 26 rfl ?_
          have ng : ¬ kp_ok (nI d) y z v := by
            rintro ⟨a, b | ⟨b1, b2, b3⟩⟩ <;> first | exact c4 a | exact c10 b | exact c33 b2
          exact ⟨jt_li (if_neg ng).symm, by unfold zs_keep; rw [if_neg ng]; exact K, jk_fr_rf⟩
        · have r33 := c33
          obtain ⟨c, hc, rfl⟩ := jx_win (by decide) r33
          show jt_T 127 (36, [(0, .inr (.inr (0, 0, 0))), (1, .inl (nI d)), (2, .inl (y)), (3, .inl (nI c)), (4, .inl (v))], [], h) _
          refine jt_go jm_m127 20 3 (f' := (41, [(0, .inr (.inr (0, 0, 0))), (1, .inl (nI d)), (2, .inl (y)), (3, .inl (nI c)), (4, .inl (v))], [.inl (nI 9), .inl (nI 0), .inl (v)], h)) (P := True) rfl trivial ?_
          refine jt_callp (w := .inl (jm_b (nI 0 ≤ v ∧ v ≤ nI 9))) jm_m127 23 (mi' := 136) (as := [.inl (v), .inl (nI 0), .inl (nI 9)]) (rest := []) (nxt := 44) rfl rfl jm_m136 rfl rfl (ta_within) ?_
          refine jt_ifbne jm_m127 24 (tgt := 49) (nxt := 47) rfl rfl rfl (fun c44 => ?_) (fun c44 => ?_)
          · have r44 := c44
            obtain ⟨f, hf, rfl⟩ := jx_win (by decide) r44
            show jt_T 127 (49, [(0, .inr (.inr (0, 0, 0))), (1, .inl (nI d)), (2, .inl (y)), (3, .inl (nI c)), (4, .inl (nI f))], [], h) _
            refine jt_go jm_m127 27 4 (f' := (55, [(0, .inr (.inr (0, 0, 0))), (1, .inl (nI d)), (2, .inl (y)), (3, .inl (nI c)), (4, .inl (nI f))], [.inr (.inr (3, (nI d).toNatClampNeg, 0))], h)) (P := vp_in (nI d) 8 ∧ True) rfl ⟨(vp_in_nI (by omega) (by decide)), trivial⟩ ?_
            refine jt_tr (show ((3, (nI d).toNatClampNeg, 0) : jm_K) = (3, d, 0) by rw [nI_clamp (by omega)]) ?_
            refine jt_go jm_m127 31 2 (f' := (58, [(0, .inr (.inr (0, 0, 0))), (1, .inl (nI d)), (2, .inl (y)), (3, .inl (nI c)), (4, .inl (nI f))], [.inl (nI f), .inl (nI c), .inr (.inr (3, d, 0))], h)) (P := True) rfl trivial ?_
            refine jt_call jm_m127 33 (mi' := 42) (as := [.inr (.inr (3, d, 0)), .inl (nI c), .inl (nI f)]) (rest := []) (nxt := 61) rfl rfl jm_m42 rfl rfl (tk_cat) ?_
            rintro u h1 ⟨rfl, ⟨n1, n2, n3⟩, F1⟩
            show jt_T 127 (61, [(0, .inr (.inr (0, 0, 0))), (1, .inl (nI d)), (2, .inl (y)), (3, .inl (nI c)), (4, .inl (nI f))], [], h1) _
            refine jt_go jm_m127 34 1 (f' := (62, [(0, .inr (.inr (0, 0, 0))), (1, .inl (nI d)), (2, .inl (y)), (3, .inl (nI c)), (4, .inl (nI f))], [.inl (nI 0)], h1)) (P := True) rfl trivial ?_
            refine jt_iret jm_m127 35 rfl ?_
            have ok : kp_ok (nI d) y (nI c) (nI f) := ⟨c4, Or.inr ⟨c26, c33, c44⟩⟩
            subst c26
            refine ⟨jt_li (if_pos ok).symm, ?_, jk_fr_one F1⟩
            unfold zs_keep
            rw [if_pos ok, nI_clamp (by omega)]
            rw [← ks_self (s := e) (d := d)]
            refine jk_put K F1 ⟨?_, fun _ => ⟨?_, ?_⟩, fun q => absurd q (by rw [kp_t1.1]; omega)⟩
            · rw [n1, kp_t1.1]
            · rw [n2, kp_t1.2.1, nI_clamp (by omega)]
            · rw [n3, kp_t1.2.2, nI_clamp (by omega)]
          · refine jt_go jm_m127 25 1 (f' := (48, [(0, .inr (.inr (0, 0, 0))), (1, .inl (nI d)), (2, .inl (y)), (3, .inl (nI c)), (4, .inl (v))], [.inl ((-1))], h)) (P := True) rfl trivial ?_
            refine jt_iret jm_m127 26 rfl ?_
            have ng : ¬ kp_ok (nI d) y (nI c) v := by
              rintro ⟨a, b | ⟨b1, b2, b3⟩⟩ <;> first | exact c4 a | exact c10 b | exact c33 b2 | exact c44 b3
            exact ⟨jt_li (if_neg ng).symm, by unfold zs_keep; rw [if_neg ng]; exact K, jk_fr_rf⟩
    · refine jt_go jm_m127 7 4 (f' := (19, [(0, .inr (.inr (0, 0, 0))), (1, .inl (nI d)), (2, .inl (y)), (3, .inl (z)), (4, .inl (v))], [.inr (.inr (3, (nI d).toNatClampNeg, 0))], h)) (P := vp_in (nI d) 8 ∧ True) rfl ⟨(vp_in_nI (by omega) (by decide)), trivial⟩ ?_
      refine jt_tr (show ((3, (nI d).toNatClampNeg, 0) : jm_K) = (3, d, 0) by rw [nI_clamp (by omega)]) ?_
      refine jt_call jm_m127 11 (mi' := 41) (as := [.inr (.inr (3, d, 0))]) (rest := []) (nxt := 22) rfl rfl jm_m41 rfl rfl (tk_none) ?_
      rintro u h1 ⟨rfl, n1, F1⟩
      show jt_T 127 (22, [(0, .inr (.inr (0, 0, 0))), (1, .inl (nI d)), (2, .inl (y)), (3, .inl (z)), (4, .inl (v))], [], h1) _
      refine jt_go jm_m127 12 1 (f' := (23, [(0, .inr (.inr (0, 0, 0))), (1, .inl (nI d)), (2, .inl (y)), (3, .inl (z)), (4, .inl (v))], [.inl (nI 0)], h1)) (P := True) rfl trivial ?_
      refine jt_iret jm_m127 13 rfl ?_
      have ok : kp_ok (nI d) y z v := ⟨c4, Or.inl c10⟩
      subst c10
      refine ⟨jt_li (if_pos ok).symm, ?_, jk_fr_one F1⟩
      unfold zs_keep
      rw [if_pos ok, nI_clamp (by omega)]
      rw [← ks_self (s := e) (d := d)]
      refine jk_put K F1 ⟨?_, fun q => absurd q (by rw [kp_t0]; omega), fun q => absurd q (by rw [kp_t0]; omega)⟩
      rw [n1, kp_t0]
  · refine jt_go jm_m127 3 1 (f' := (8, [(0, .inr (.inr (0, 0, 0))), (1, .inl (x)), (2, .inl (y)), (3, .inl (z)), (4, .inl (v))], [.inl ((-1))], h)) (P := True) rfl trivial ?_
    refine jt_iret jm_m127 4 rfl ?_
    have ng : ¬ kp_ok x y z v := by
      rintro ⟨a, b | ⟨b1, b2, b3⟩⟩ <;> first | exact c4 a
    exact ⟨jt_li (if_neg ng).symm, by unfold zs_keep; rw [if_neg ng]; exact K, jk_fr_rf⟩
set_option maxHeartbeats 4000000 in
set_option maxRecDepth 20000 in
theorem cl_keep {h : jm_M} {s : Nat → Nat → Nat} {e : Nat → Nat → Int32} (K : jl_rel h s e) (Y : kw s) {x y z v : Int32} : jt_T 230 (0, [(0, .inr (.inr (4, 0, 0))), (1, .inl (x)), (2, .inl (y)), (3, .inl (z)), (4, .inl (v))], [], h) (fun u h' => u = some (.inl (za_keep x y z v)) ∧ jl_rel h' (zs_keep s x y z v) e ∧ jl_fr h h') := by
  refine jt_go jm_m230 0 1 (f' := (1, [(0, .inr (.inr (4, 0, 0))), (1, .inl (x)), (2, .inl (y)), (3, .inl (z)), (4, .inl (v))], [.inl (x)], h)) (P := True) rfl trivial ?_
  refine jt_callp (w := .inl (jm_b (nI 0 ≤ x ∧ x ≤ nI 7))) jm_m230 1 (mi' := 227) (as := [.inl (x)]) (rest := []) (nxt := 4) rfl rfl jm_m227 rfl rfl (tb_shelf) ?_
  refine jt_ifbeq jm_m230 2 (tgt := 42) (nxt := 7) rfl rfl rfl (fun c4 => ?_) (fun c4 => ?_)
  · refine jt_go jm_m230 21 1 (f' := (43, [(0, .inr (.inr (4, 0, 0))), (1, .inl (x)), (2, .inl (y)), (3, .inl (z)), (4, .inl (v))], [.inl ((-1))], h)) (P := True) rfl trivial ?_
    refine jt_iret jm_m230 22 rfl ?_
    have ng : ¬ kp_ok x y z v := by
      rintro ⟨a, b | ⟨b1, b2, b3⟩⟩ <;> first | exact c4 a
    exact ⟨jt_li (if_neg ng).symm, by unfold zs_keep; rw [if_neg ng]; exact K, jl_fr_rf⟩
  · have r4 := c4
    obtain ⟨d, hd, rfl⟩ := jx_win (by decide) r4
    show jt_T 230 (7, [(0, .inr (.inr (4, 0, 0))), (1, .inl (nI d)), (2, .inl (y)), (3, .inl (z)), (4, .inl (v))], [], h) _
    refine jt_go jm_m230 3 3 (f' := (10, [(0, .inr (.inr (4, 0, 0))), (1, .inl (nI d)), (2, .inl (y)), (3, .inl (z)), (4, .inl (v))], [.inl (nI 1), .inl (nI 0), .inl (y)], h)) (P := True) rfl trivial ?_
    refine jt_callp (w := .inl (jm_b (nI 0 ≤ y ∧ y ≤ nI 1))) jm_m230 6 (mi' := 143) (as := [.inl (y), .inl (nI 0), .inl (nI 1)]) (rest := []) (nxt := 13) rfl rfl jm_m143 rfl rfl (tb_isIn) ?_
    refine jt_ifbeq jm_m230 7 (tgt := 42) (nxt := 16) rfl rfl rfl (fun c13 => ?_) (fun c13 => ?_)
    · refine jt_go jm_m230 21 1 (f' := (43, [(0, .inr (.inr (4, 0, 0))), (1, .inl (nI d)), (2, .inl (y)), (3, .inl (z)), (4, .inl (v))], [.inl ((-1))], h)) (P := True) rfl trivial ?_
      refine jt_iret jm_m230 22 rfl ?_
      have ng : ¬ kp_ok (nI d) y z v := by
        rintro ⟨a, b | ⟨b1, b2, b3⟩⟩ <;> first | exact c4 a | exact c13 (by rw [b]; decide) | exact c13 (by rw [b1]; decide)
      exact ⟨jt_li (if_neg ng).symm, by unfold zs_keep; rw [if_neg ng]; exact K, jl_fr_rf⟩
    · refine jt_go jm_m230 8 2 (f' := (18, [(0, .inr (.inr (4, 0, 0))), (1, .inl (nI d)), (2, .inl (y)), (3, .inl (z)), (4, .inl (v))], [.inl (nI 1), .inl (y)], h)) (P := True) rfl trivial ?_
      refine jt_icne jm_m230 10 (tgt := 44) (nxt := 21) rfl rfl rfl (fun c18 => ?_) (fun c18 => ?_)
      · refine jt_goM jm_m230 23 5 (pc' := 51) (L' := [(0, .inr (.inr (4, 0, 0))), (1, .inl (nI d)), (2, .inl (y)), (3, .inl (z)), (4, .inl (v))]) (st' := []) (m' := jm_set h (4, 0, 3) (upd (h (4, 0, 3)) (nI d).toNatClampNeg y)) (P := vp_in (nI d) 8 ∧ True) rfl ⟨(vp_in_nI (by omega) (by decide)), trivial⟩ (fun h1 eh1 => ?_)
        refine jt_goM jm_m230 28 5 (pc' := 58) (L' := [(0, .inr (.inr (4, 0, 0))), (1, .inl (nI d)), (2, .inl (y)), (3, .inl (z)), (4, .inl (v))]) (st' := []) (m' := jm_set h1 (4, 0, 4) (upd (h1 (4, 0, 4)) (nI d).toNatClampNeg z)) (P := vp_in (nI d) 8 ∧ True) rfl ⟨(vp_in_nI (by omega) (by decide)), trivial⟩ (fun h2 eh2 => ?_)
        refine jt_goM jm_m230 33 5 (pc' := 66) (L' := [(0, .inr (.inr (4, 0, 0))), (1, .inl (nI d)), (2, .inl (y)), (3, .inl (z)), (4, .inl (v))]) (st' := []) (m' := jm_set h2 (4, 0, 5) (upd (h2 (4, 0, 5)) (nI d).toNatClampNeg v)) (P := vp_in (nI d) 8 ∧ True) rfl ⟨(vp_in_nI (by omega) (by decide)), trivial⟩ (fun h3 eh3 => ?_)
        refine jt_go jm_m230 38 1 (f' := (67, [(0, .inr (.inr (4, 0, 0))), (1, .inl (nI d)), (2, .inl (y)), (3, .inl (z)), (4, .inl (v))], [.inl (nI 0)], h3)) (P := True) rfl trivial ?_
        refine jt_iret jm_m230 39 rfl ?_
        have ok : kp_ok (nI d) y z v := ⟨c4, Or.inl ((jx_01 c13).elim id (fun z => absurd z c18))⟩
        have e0 : y = 0 := (jx_01 c13).elim id (fun z => absurd z c18)
        subst e0
        have a3 : h3 (4, 0, 3) = upd (h (4, 0, 3)) d (0) := by rw [eh3, jm_set_ne (by decide), eh2, jm_set_ne (by decide), eh1, jm_set_eq, nI_clamp (by omega)]
        have a4 : h3 (4, 0, 4) = upd (h (4, 0, 4)) d (z) := by rw [eh3, jm_set_ne (by decide), eh2, jm_set_eq, nI_clamp (by omega), eh1, jm_set_ne (by decide)]
        have a5 : h3 (4, 0, 5) = upd (h (4, 0, 5)) d (v) := by rw [eh3, jm_set_eq, nI_clamp (by omega), eh2, jm_set_ne (by decide), eh1, jm_set_ne (by decide)]
        have a6 : h3 (4, 0, 6) = h (4, 0, 6) := by rw [eh3, jm_set_ne (by decide), eh2, jm_set_ne (by decide), eh1, jm_set_ne (by decide)]
        have a7 : h3 (4, 0, 7) = h (4, 0, 7) := by rw [eh3, jm_set_ne (by decide), eh2, jm_set_ne (by decide), eh1, jm_set_ne (by decide)]
        have a8 : h3 (4, 0, 8) = h (4, 0, 8) := by rw [eh3, jm_set_ne (by decide), eh2, jm_set_ne (by decide), eh1, jm_set_ne (by decide)]
        refine ⟨jt_li (if_pos ok).symm, ?_, fun k hk => ?_⟩
        · unfold zs_keep
          rw [if_pos ok, nI_clamp (by omega)]
          rw [← ks_self (s := e) (d := d)]
          refine jl_put K (fun d2 h2 q w => ?_) ?_
          · unfold jl_one at w ⊢
            rw [a3, a4, a5, a6, a7, a8, jx_ne q, jx_ne q, jx_ne q]
            exact w
          · unfold jl_one
            rw [a3, a4, a5, jx_eq, jx_eq, jx_eq]
            rw [kp_t0]
            exact ⟨rfl, fun q => absurd q (by decide), fun q => absurd q (by decide)⟩
        · rw [eh3, jm_set_ne (fun q => hk (by rw [q]; decide)), eh2, jm_set_ne (fun q => hk (by rw [q]; decide)), eh1, jm_set_ne (fun q => hk (by rw [q]; decide))]
      · refine jt_go jm_m230 11 3 (f' := (25, [(0, .inr (.inr (4, 0, 0))), (1, .inl (nI d)), (2, .inl (y)), (3, .inl (z)), (4, .inl (v))], [.inl (nI 7), .inl (nI 0), .inl (z)], h)) (P := True) rfl trivial ?_
        refine jt_callp (w := .inl (jm_b (nI 0 ≤ z ∧ z ≤ nI 7))) jm_m230 14 (mi' := 143) (as := [.inl (z), .inl (nI 0), .inl (nI 7)]) (rest := []) (nxt := 28) rfl rfl jm_m143 rfl rfl (tb_isIn) ?_
        refine jt_ifbeq jm_m230 15 (tgt := 42) (nxt := 31) rfl rfl rfl (fun c28 => ?_) (fun c28 => ?_)
        · refine jt_go jm_m230 21 1 (f' := (43, [(0, .inr (.inr (4, 0, 0))), (1, .inl (nI d)), (2, .inl (y)), (3, .inl (z)), (4, .inl (v))], [.inl ((-1))], h)) (P := True) rfl trivial ?_
          refine jt_iret jm_m230 22 rfl ?_
          have ng : ¬ kp_ok (nI d) y z v := by
            rintro ⟨a, b | ⟨b1, b2, b3⟩⟩ <;> first | exact c4 a | exact c28 b2 | exact absurd (b.symm.trans c18) (by decide)
          exact ⟨jt_li (if_neg ng).symm, by unfold zs_keep; rw [if_neg ng]; exact K, jl_fr_rf⟩
        · have r28 := c28
          obtain ⟨c, hc, rfl⟩ := jx_win (by decide) r28
          show jt_T 230 (31, [(0, .inr (.inr (4, 0, 0))), (1, .inl (nI d)), (2, .inl (y)), (3, .inl (nI c)), (4, .inl (v))], [], h) _
          refine jt_go jm_m230 16 3 (f' := (36, [(0, .inr (.inr (4, 0, 0))), (1, .inl (nI d)), (2, .inl (y)), (3, .inl (nI c)), (4, .inl (v))], [.inl (nI 9), .inl (nI 0), .inl (v)], h)) (P := True) rfl trivial ?_
          refine jt_callp (w := .inl (jm_b (nI 0 ≤ v ∧ v ≤ nI 9))) jm_m230 19 (mi' := 143) (as := [.inl (v), .inl (nI 0), .inl (nI 9)]) (rest := []) (nxt := 39) rfl rfl jm_m143 rfl rfl (tb_isIn) ?_
          refine jt_ifbne jm_m230 20 (tgt := 44) (nxt := 42) rfl rfl rfl (fun c39 => ?_) (fun c39 => ?_)
          · have r39 := c39
            obtain ⟨f, hf, rfl⟩ := jx_win (by decide) r39
            show jt_T 230 (44, [(0, .inr (.inr (4, 0, 0))), (1, .inl (nI d)), (2, .inl (y)), (3, .inl (nI c)), (4, .inl (nI f))], [], h) _
            refine jt_goM jm_m230 23 5 (pc' := 51) (L' := [(0, .inr (.inr (4, 0, 0))), (1, .inl (nI d)), (2, .inl (y)), (3, .inl (nI c)), (4, .inl (nI f))]) (st' := []) (m' := jm_set h (4, 0, 3) (upd (h (4, 0, 3)) (nI d).toNatClampNeg y)) (P := vp_in (nI d) 8 ∧ True) rfl ⟨(vp_in_nI (by omega) (by decide)), trivial⟩ (fun h4 eh4 => ?_)
            refine jt_goM jm_m230 28 5 (pc' := 58) (L' := [(0, .inr (.inr (4, 0, 0))), (1, .inl (nI d)), (2, .inl (y)), (3, .inl (nI c)), (4, .inl (nI f))]) (st' := []) (m' := jm_set h4 (4, 0, 4) (upd (h4 (4, 0, 4)) (nI d).toNatClampNeg (nI c))) (P := vp_in (nI d) 8 ∧ True) rfl ⟨(vp_in_nI (by omega) (by decide)), trivial⟩ (fun h5 eh5 => ?_)
            refine jt_goM jm_m230 33 5 (pc' := 66) (L' := [(0, .inr (.inr (4, 0, 0))), (1, .inl (nI d)), (2, .inl (y)), (3, .inl (nI c)), (4, .inl (nI f))]) (st' := []) (m' := jm_set h5 (4, 0, 5) (upd (h5 (4, 0, 5)) (nI d).toNatClampNeg (nI f))) (P := vp_in (nI d) 8 ∧ True) rfl ⟨(vp_in_nI (by omega) (by decide)), trivial⟩ (fun h6 eh6 => ?_)
            refine jt_go jm_m230 38 1 (f' := (67, [(0, .inr (.inr (4, 0, 0))), (1, .inl (nI d)), (2, .inl (y)), (3, .inl (nI c)), (4, .inl (nI f))], [.inl (nI 0)], h6)) (P := True) rfl trivial ?_
            refine jt_iret jm_m230 39 rfl ?_
            have ok : kp_ok (nI d) y (nI c) (nI f) := ⟨c4, Or.inr ⟨c18, c28, c39⟩⟩
            subst c18
            have a3 : h6 (4, 0, 3) = upd (h (4, 0, 3)) d (nI 1) := by rw [eh6, jm_set_ne (by decide), eh5, jm_set_ne (by decide), eh4, jm_set_eq, nI_clamp (by omega)]
            have a4 : h6 (4, 0, 4) = upd (h (4, 0, 4)) d ((nI c)) := by rw [eh6, jm_set_ne (by decide), eh5, jm_set_eq, nI_clamp (by omega), eh4, jm_set_ne (by decide)]
            have a5 : h6 (4, 0, 5) = upd (h (4, 0, 5)) d ((nI f)) := by rw [eh6, jm_set_eq, nI_clamp (by omega), eh5, jm_set_ne (by decide), eh4, jm_set_ne (by decide)]
            have a6 : h6 (4, 0, 6) = h (4, 0, 6) := by rw [eh6, jm_set_ne (by decide), eh5, jm_set_ne (by decide), eh4, jm_set_ne (by decide)]
            have a7 : h6 (4, 0, 7) = h (4, 0, 7) := by rw [eh6, jm_set_ne (by decide), eh5, jm_set_ne (by decide), eh4, jm_set_ne (by decide)]
            have a8 : h6 (4, 0, 8) = h (4, 0, 8) := by rw [eh6, jm_set_ne (by decide), eh5, jm_set_ne (by decide), eh4, jm_set_ne (by decide)]
            refine ⟨jt_li (if_pos ok).symm, ?_, fun k hk => ?_⟩
            · unfold zs_keep
              rw [if_pos ok, nI_clamp (by omega)]
              rw [← ks_self (s := e) (d := d)]
              refine jl_put K (fun d2 h2 q w => ?_) ?_
              · unfold jl_one at w ⊢
                rw [a3, a4, a5, a6, a7, a8, jx_ne q, jx_ne q, jx_ne q]
                exact w
              · unfold jl_one
                rw [a3, a4, a5, jx_eq, jx_eq, jx_eq]
                rw [kp_t1.1, kp_t1.2.1, kp_t1.2.2, nI_clamp (by omega), nI_clamp (by omega)]
                exact ⟨rfl, fun _ => ⟨rfl, rfl⟩, fun q => absurd q (by decide)⟩
            · rw [eh6, jm_set_ne (fun q => hk (by rw [q]; decide)), eh5, jm_set_ne (fun q => hk (by rw [q]; decide)), eh4, jm_set_ne (fun q => hk (by rw [q]; decide))]
          · refine jt_go jm_m230 21 1 (f' := (43, [(0, .inr (.inr (4, 0, 0))), (1, .inl (nI d)), (2, .inl (y)), (3, .inl (nI c)), (4, .inl (v))], [.inl ((-1))], h)) (P := True) rfl trivial ?_
            refine jt_iret jm_m230 22 rfl ?_
            have ng : ¬ kp_ok (nI d) y (nI c) v := by
              rintro ⟨a, b | ⟨b1, b2, b3⟩⟩ <;> first | exact c4 a | exact c28 b2 | exact c39 b3 | exact absurd (b.symm.trans c18) (by decide)
            exact ⟨jt_li (if_neg ng).symm, by unfold zs_keep; rw [if_neg ng]; exact K, jl_fr_rf⟩
