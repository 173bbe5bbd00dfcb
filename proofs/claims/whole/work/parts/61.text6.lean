/-! TEXT: doing a statement: the class. -/
set_option maxHeartbeats 4000000 in
set_option maxRecDepth 20000 in
theorem tk_man {h : jm_M} {s : Nat → Nat → Nat} {e : Nat → Nat → Int32} (K : jk_rel h s e) (Y : kw s) (B : ke s e) {d : Nat} (hd : d ≤ 7) (qa : s d 0 = 2) (q3 : s d 3 = 0) {j : Nat} {g : Nat → Nat} (R : jf_rel h j g) (W : jw g) {p : Nat} (hp : p ≤ 100) (A : ∀ i, 1 ≤ i → i ≤ 1 → dgt s e d (p + i))  : jt_T 61 (0, [(0, .inr (.inr (3, d, 0))), (1, .inl (nI p)), (2, .inr (.inr (2, j, 0)))], [], h) (fun u h' => u = some (.inl (jm_b (sp_num s e d (p + 1) 1 ≤ 1 ∧ g 1 < 6))) ∧ (sp_num s e d (p + 1) 1 ≤ 1 ∧ g 1 < 6 → jf_rel h' j (sp_am g (sp_num s e d (p + 1) 1))) ∧ jf_fr j h h') := by
  have bn := jw_n W
  have bm := jw_m W
  have bt := jw_t W
  refine jt_go jm_m61 0 4 (f' := (4, [(0, .inr (.inr (3, d, 0))), (1, .inl (nI p)), (2, .inr (.inr (2, j, 0)))], [.inl ((nI p) + (nI 1)), .inr (.inr (3, d, 0))], h)) (P := True) rfl trivial ?_
  refine jt_ti (show ((nI p) + (nI 1)) = nI (p + 1) from nI_add _ _) ?_
  refine jt_go jm_m61 4 1 (f' := (5, [(0, .inr (.inr (3, d, 0))), (1, .inl (nI p)), (2, .inr (.inr (2, j, 0)))], [.inl (nI 1), .inl (nI (p + 1)), .inr (.inr (3, d, 0))], h)) (P := True) rfl trivial ?_
  refine jt_callp (w := .inl (nI (sp_num s e d (p + 1) 1))) jm_m61 5 (mi' := 65) (as := [.inr (.inr (3, d, 0)), .inl (nI (p + 1)), .inl (nI 1)]) (rest := []) (nxt := 8) rfl rfl jm_m65 rfl rfl (tk_num K Y B hd qa q3 (by omega) (by omega) (fun i hi => by rw [show p + 1 + i = p + (1 + i) by omega]; exact A _ (by omega) (by omega))) ?_
  have bnn1 : sp_num s e d (p + 1) 1 < 10 ^ 1 := sp_num_lt 1 (fun i hi => by rw [show p + 1 + i = p + (1 + i) by omega]; exact A _ (by omega) (by omega))
  refine jt_go jm_m61 6 2 (f' := (10, [(3, .inl (nI (sp_num s e d (p + 1) 1))), (0, .inr (.inr (3, d, 0))), (1, .inl (nI p)), (2, .inr (.inr (2, j, 0)))], [.inl (nI (sp_num s e d (p + 1) 1))], h)) (P := True) rfl trivial ?_
  refine jt_callp (w := .inl (jm_b (nI 0 ≤ nI (sp_num s e d (p + 1) 1) ∧ nI (sp_num s e d (p + 1) 1) ≤ nI 1))) jm_m61 8 (mi' := 139) (as := [.inl (nI (sp_num s e d (p + 1) 1))]) (rest := []) (nxt := 13) rfl rfl jm_m139 rfl rfl (ta_sidei) ?_
  refine jt_ifbeq jm_m61 9 (tgt := 28) (nxt := 16) rfl rfl rfl (fun c13 => ?_) (fun c13 => ?_)
  · refine jt_go jm_m61 16 1 (f' := (29, [(3, .inl (nI (sp_num s e d (p + 1) 1))), (0, .inr (.inr (3, d, 0))), (1, .inl (nI p)), (2, .inr (.inr (2, j, 0)))], [.inl (nI 0)], h)) (P := True) rfl trivial ?_
    refine jt_zret jm_m61 17 rfl (Or.inl rfl) ?_
    have pp : ¬ (sp_num s e d (p + 1) 1 ≤ 1 ∧ g 1 < 6) := fun z => c13 ⟨nI_pos' (by omega), (nI_leI (by omega) (by omega)).mpr z.1⟩
    exact ⟨jt_lb0 pp, fun z => absurd z pp, jf_fr_rf⟩
  · have hx : sp_num s e d (p + 1) 1 ≤ 1 := (nI_leI (by omega) (by omega)).mp c13.2
    refine jt_go jm_m61 10 2 (f' := (18, [(3, .inl (nI (sp_num s e d (p + 1) 1))), (0, .inr (.inr (3, d, 0))), (1, .inl (nI p)), (2, .inr (.inr (2, j, 0)))], [.inl (nI (sp_num s e d (p + 1) 1)), .inr (.inr (2, j, 0))], h)) (P := True) rfl trivial ?_
    refine jt_call jm_m61 12 (mi' := 14) (as := [.inr (.inr (2, j, 0)), .inl (nI (sp_num s e d (p + 1) 1))]) (rest := []) (nxt := 21) rfl rfl jm_m14 rfl rfl (ta_am R W (by omega)) ?_
    rintro u h1 ⟨rfl, R1, F1⟩
    show jt_T 61 (21, [(3, .inl (nI (sp_num s e d (p + 1) 1))), (0, .inr (.inr (3, d, 0))), (1, .inl (nI p)), (2, .inr (.inr (2, j, 0)))], [.inl (jm_b (g 1 < 6))], h1) _
    refine jt_ifbeq jm_m61 13 (tgt := 28) (nxt := 24) rfl rfl rfl (fun c21 => ?_) (fun c21 => ?_)
    · refine jt_go jm_m61 16 1 (f' := (29, [(3, .inl (nI (sp_num s e d (p + 1) 1))), (0, .inr (.inr (3, d, 0))), (1, .inl (nI p)), (2, .inr (.inr (2, j, 0)))], [.inl (nI 0)], h1)) (P := True) rfl trivial ?_
      refine jt_zret jm_m61 17 rfl (Or.inl rfl) ?_
      have pp : ¬ (sp_num s e d (p + 1) 1 ≤ 1 ∧ g 1 < 6) := fun z => c21 z.2
      exact ⟨jt_lb0 pp, fun z => absurd z pp, F1⟩
    · refine jt_go jm_m61 14 2 (f' := (29, [(3, .inl (nI (sp_num s e d (p + 1) 1))), (0, .inr (.inr (3, d, 0))), (1, .inl (nI p)), (2, .inr (.inr (2, j, 0)))], [.inl (nI 1)], h1)) (P := True) rfl trivial ?_
      refine jt_zret jm_m61 17 rfl (Or.inr rfl) ?_
      have pp : sp_num s e d (p + 1) 1 ≤ 1 ∧ g 1 < 6 := ⟨hx, c21⟩
      exact ⟨jt_lb1 pp, fun _ => R1, F1⟩
