/-! TEXT: doing a statement: the class, on. -/
set_option maxHeartbeats 4000000 in
set_option maxRecDepth 20000 in
theorem tk_hours {h : jm_M} {s : Nat → Nat → Nat} {e : Nat → Nat → Int32} (K : jk_rel h s e) (Y : kw s) (B : ke s e) {d : Nat} (hd : d ≤ 7) (qa : s d 0 = 2) (q3 : s d 3 = 0) {j : Nat} {g : Nat → Nat} (R : jf_rel h j g) (W : jw g) {p : Nat} (hp : p ≤ 100) (A : ∀ i, 1 ≤ i → i ≤ 2 → dgt s e d (p + i))  : jt_T 59 (97, [(0, .inr (.inr (3, d, 0))), (1, .inl (nI p)), (2, .inr (.inr (2, j, 0)))], [], h) (fun u h' => u = some (.inl (jm_b ((1 ≤ sp_num s e d (p + 1) 2 ∧ sp_num s e d (p + 1) 2 ≤ 60) ∧ ¬ nI 999 < nI (g 3) + (nI (g 2) + nI (sp_num s e d (p + 1) 2)) / nI 24))) ∧ ((1 ≤ sp_num s e d (p + 1) 2 ∧ sp_num s e d (p + 1) 2 ≤ 60) ∧ ¬ nI 999 < nI (g 3) + (nI (g 2) + nI (sp_num s e d (p + 1) 2)) / nI 24 → jf_rel h' j (sp_it g (sp_num s e d (p + 1) 2))) ∧ jf_fr j h h') := by
  have bn := jw_n W
  have bm := jw_m W
  have bt := jw_t W
  refine jt_go jm_m59 31 4 (f' := (101, [(0, .inr (.inr (3, d, 0))), (1, .inl (nI p)), (2, .inr (.inr (2, j, 0)))], [.inl ((nI p) + (nI 1)), .inr (.inr (3, d, 0))], h)) (P := True) rfl trivial ?_
  refine jt_ti (show ((nI p) + (nI 1)) = nI (p + 1) from nI_add _ _) ?_
  refine jt_go jm_m59 35 1 (f' := (102, [(0, .inr (.inr (3, d, 0))), (1, .inl (nI p)), (2, .inr (.inr (2, j, 0)))], [.inl (nI 2), .inl (nI (p + 1)), .inr (.inr (3, d, 0))], h)) (P := True) rfl trivial ?_
  refine jt_callp (w := .inl (nI (sp_num s e d (p + 1) 2))) jm_m59 36 (mi' := 65) (as := [.inr (.inr (3, d, 0)), .inl (nI (p + 1)), .inl (nI 2)]) (rest := []) (nxt := 105) rfl rfl jm_m65 rfl rfl (tk_num K Y B hd qa q3 (by omega) (by omega) (fun i hi => by rw [show p + 1 + i = p + (1 + i) by omega]; exact A _ (by omega) (by omega))) ?_
  have bnn1 : sp_num s e d (p + 1) 2 < 10 ^ 2 := sp_num_lt 2 (fun i hi => by rw [show p + 1 + i = p + (1 + i) by omega]; exact A _ (by omega) (by omega))
  refine jt_go jm_m59 37 4 (f' := (110, [(3, .inl (nI (sp_num s e d (p + 1) 2))), (0, .inr (.inr (3, d, 0))), (1, .inl (nI p)), (2, .inr (.inr (2, j, 0)))], [.inl (nI 60), .inl (nI 1), .inl (nI (sp_num s e d (p + 1) 2))], h)) (P := True) rfl trivial ?_
  refine jt_callp (w := .inl (jm_b (nI 1 ≤ (nI (sp_num s e d (p + 1) 2)) ∧ (nI (sp_num s e d (p + 1) 2)) ≤ nI 60))) jm_m59 41 (mi' := 136) (as := [.inl (nI (sp_num s e d (p + 1) 2)), .inl (nI 1), .inl (nI 60)]) (rest := []) (nxt := 113) rfl rfl jm_m136 rfl rfl (ta_within) ?_
  refine jt_ifbeq jm_m59 42 (tgt := 124) (nxt := 116) rfl rfl rfl (fun c113 => ?_) (fun c113 => ?_)
  · refine jt_go jm_m59 47 1 (f' := (125, [(3, .inl (nI (sp_num s e d (p + 1) 2))), (0, .inr (.inr (3, d, 0))), (1, .inl (nI p)), (2, .inr (.inr (2, j, 0)))], [.inl (nI 0)], h)) (P := True) rfl trivial ?_
    refine jt_zret jm_m59 48 rfl (Or.inl rfl) ?_
    have pp : ¬ ((1 ≤ sp_num s e d (p + 1) 2 ∧ sp_num s e d (p + 1) 2 ≤ 60) ∧ ¬ nI 999 < nI (g 3) + (nI (g 2) + nI (sp_num s e d (p + 1) 2)) / nI 24) := fun z => c113 ⟨(nI_leI (by omega) (by omega)).mpr z.1.1, (nI_leI (by omega) (by omega)).mpr z.1.2⟩
    exact ⟨jt_lb0 pp, fun z => absurd z pp, jf_fr_rf⟩
  · refine jt_go jm_m59 43 2 (f' := (118, [(3, .inl (nI (sp_num s e d (p + 1) 2))), (0, .inr (.inr (3, d, 0))), (1, .inl (nI p)), (2, .inr (.inr (2, j, 0)))], [.inl (nI (sp_num s e d (p + 1) 2)), .inr (.inr (2, j, 0))], h)) (P := True) rfl trivial ?_
    refine jt_callp (w := .inl (jm_b (¬ nI 999 < nI (g 3) + (nI (g 2) + nI (sp_num s e d (p + 1) 2)) / nI 24))) jm_m59 45 (mi' := 12) (as := [.inr (.inr (2, j, 0)), .inl (nI (sp_num s e d (p + 1) 2))]) (rest := []) (nxt := 121) rfl rfl jm_m12 rfl rfl (ta_hasDays R W) ?_
    refine jt_ifbne jm_m59 46 (tgt := 126) (nxt := 124) rfl rfl rfl (fun c121 => ?_) (fun c121 => ?_)
    · refine jt_go jm_m59 49 2 (f' := (128, [(3, .inl (nI (sp_num s e d (p + 1) 2))), (0, .inr (.inr (3, d, 0))), (1, .inl (nI p)), (2, .inr (.inr (2, j, 0)))], [.inl (nI (sp_num s e d (p + 1) 2)), .inr (.inr (2, j, 0))], h)) (P := True) rfl trivial ?_
      refine jt_call jm_m59 51 (mi' := 17) (as := [.inr (.inr (2, j, 0)), .inl (nI (sp_num s e d (p + 1) 2))]) (rest := []) (nxt := 131) rfl rfl jm_m17 rfl rfl (ta_goOn R W (by omega)) ?_
      rintro u h1 ⟨rfl, Rh1, Fh1⟩
      show jt_T 59 (131, [(3, .inl (nI (sp_num s e d (p + 1) 2))), (0, .inr (.inr (3, d, 0))), (1, .inl (nI p)), (2, .inr (.inr (2, j, 0)))], [], h1) _
      refine jt_go jm_m59 52 1 (f' := (132, [(3, .inl (nI (sp_num s e d (p + 1) 2))), (0, .inr (.inr (3, d, 0))), (1, .inl (nI p)), (2, .inr (.inr (2, j, 0)))], [.inl (nI 1)], h1)) (P := True) rfl trivial ?_
      refine jt_zret jm_m59 53 rfl (Or.inr rfl) ?_
      have pp : (1 ≤ sp_num s e d (p + 1) 2 ∧ sp_num s e d (p + 1) 2 ≤ 60) ∧ ¬ nI 999 < nI (g 3) + (nI (g 2) + nI (sp_num s e d (p + 1) 2)) / nI 24 := ⟨⟨(nI_leI (by omega) (by omega)).mp c113.1, (nI_leI (by omega) (by omega)).mp c113.2⟩, c121⟩
      exact ⟨jt_lb1 pp, fun _ => Rh1, Fh1⟩
    · refine jt_go jm_m59 47 1 (f' := (125, [(3, .inl (nI (sp_num s e d (p + 1) 2))), (0, .inr (.inr (3, d, 0))), (1, .inl (nI p)), (2, .inr (.inr (2, j, 0)))], [.inl (nI 0)], h)) (P := True) rfl trivial ?_
      refine jt_zret jm_m59 48 rfl (Or.inl rfl) ?_
      have pp : ¬ ((1 ≤ sp_num s e d (p + 1) 2 ∧ sp_num s e d (p + 1) 2 ≤ 60) ∧ ¬ nI 999 < nI (g 3) + (nI (g 2) + nI (sp_num s e d (p + 1) 2)) / nI 24) := fun z => c121 z.2
      exact ⟨jt_lb0 pp, fun z => absurd z pp, jf_fr_rf⟩
set_option maxHeartbeats 4000000 in
set_option maxRecDepth 20000 in
theorem tk_name {h : jm_M} {s : Nat → Nat → Nat} {e : Nat → Nat → Int32} (K : jk_rel h s e) (Y : kw s) (B : ke s e) {d : Nat} (hd : d ≤ 7) (qa : s d 0 = 2) (q3 : s d 3 = 0) {j : Nat} {g : Nat → Nat} (R : jf_rel h j g) (W : jw g) {p : Nat} (hp : p ≤ 100) (A : ∀ i, 1 ≤ i → i ≤ 2 → dgt s e d (p + i))  : jt_T 63 (0, [(0, .inr (.inr (3, d, 0))), (1, .inl (nI p)), (2, .inr (.inr (2, j, 0)))], [], h) (fun u h' => u = some (.inl (jm_b (sp_num s e d (p + 1) 1 < g 0 ∧ (sp_num s e d (p + 2) 1 = 9 ∨ sp_num s e d (p + 2) 1 < g 1)))) ∧ (sp_num s e d (p + 1) 1 < g 0 ∧ (sp_num s e d (p + 2) 1 = 9 ∨ sp_num s e d (p + 2) 1 < g 1) → jf_rel h' j (sp_nm g (sp_num s e d (p + 1) 1) (sp_num s e d (p + 2) 1))) ∧ jf_fr j h h') := by
  have bn := jw_n W
  have bm := jw_m W
  have bt := jw_t W
  refine jt_go jm_m63 0 4 (f' := (4, [(0, .inr (.inr (3, d, 0))), (1, .inl (nI p)), (2, .inr (.inr (2, j, 0)))], [.inl ((nI p) + (nI 1)), .inr (.inr (3, d, 0))], h)) (P := True) rfl trivial ?_
  refine jt_ti (show ((nI p) + (nI 1)) = nI (p + 1) from nI_add _ _) ?_
  refine jt_go jm_m63 4 1 (f' := (5, [(0, .inr (.inr (3, d, 0))), (1, .inl (nI p)), (2, .inr (.inr (2, j, 0)))], [.inl (nI 1), .inl (nI (p + 1)), .inr (.inr (3, d, 0))], h)) (P := True) rfl trivial ?_
  refine jt_callp (w := .inl (nI (sp_num s e d (p + 1) 1))) jm_m63 5 (mi' := 65) (as := [.inr (.inr (3, d, 0)), .inl (nI (p + 1)), .inl (nI 1)]) (rest := []) (nxt := 8) rfl rfl jm_m65 rfl rfl (tk_num K Y B hd qa q3 (by omega) (by omega) (fun i hi => by rw [show p + 1 + i = p + (1 + i) by omega]; exact A _ (by omega) (by omega))) ?_
  have bnn1 : sp_num s e d (p + 1) 1 < 10 ^ 1 := sp_num_lt 1 (fun i hi => by rw [show p + 1 + i = p + (1 + i) by omega]; exact A _ (by omega) (by omega))
  refine jt_go jm_m63 6 5 (f' := (13, [(3, .inl (nI (sp_num s e d (p + 1) 1))), (0, .inr (.inr (3, d, 0))), (1, .inl (nI p)), (2, .inr (.inr (2, j, 0)))], [.inl ((nI p) + (nI 2)), .inr (.inr (3, d, 0))], h)) (P := True) rfl trivial ?_
  refine jt_ti (show ((nI p) + (nI 2)) = nI (p + 2) from nI_add _ _) ?_
  refine jt_go jm_m63 11 1 (f' := (14, [(3, .inl (nI (sp_num s e d (p + 1) 1))), (0, .inr (.inr (3, d, 0))), (1, .inl (nI p)), (2, .inr (.inr (2, j, 0)))], [.inl (nI 1), .inl (nI (p + 2)), .inr (.inr (3, d, 0))], h)) (P := True) rfl trivial ?_
  refine jt_callp (w := .inl (nI (sp_num s e d (p + 2) 1))) jm_m63 12 (mi' := 65) (as := [.inr (.inr (3, d, 0)), .inl (nI (p + 2)), .inl (nI 1)]) (rest := []) (nxt := 17) rfl rfl jm_m65 rfl rfl (tk_num K Y B hd qa q3 (by omega) (by omega) (fun i hi => by rw [show p + 2 + i = p + (2 + i) by omega]; exact A _ (by omega) (by omega))) ?_
  have bnn2 : sp_num s e d (p + 2) 1 < 10 ^ 1 := sp_num_lt 1 (fun i hi => by rw [show p + 2 + i = p + (2 + i) by omega]; exact A _ (by omega) (by omega))
  refine jt_go jm_m63 13 3 (f' := (21, [(4, .inl (nI (sp_num s e d (p + 2) 1))), (3, .inl (nI (sp_num s e d (p + 1) 1))), (0, .inr (.inr (3, d, 0))), (1, .inl (nI p)), (2, .inr (.inr (2, j, 0)))], [.inl (nI (sp_num s e d (p + 1) 1)), .inr (.inr (2, j, 0))], h)) (P := True) rfl trivial ?_
  refine jt_callp (w := .inl (jm_b (nI 0 ≤ nI (sp_num s e d (p + 1) 1) ∧ nI (sp_num s e d (p + 1) 1) < nI (g 0)))) jm_m63 16 (mi' := 7) (as := [.inr (.inr (2, j, 0)), .inl (nI (sp_num s e d (p + 1) 1))]) (rest := []) (nxt := 24) rfl rfl jm_m7 rfl rfl (ta_hasCat R W) ?_
  refine jt_ifbeq jm_m63 17 (tgt := 36) (nxt := 27) rfl rfl rfl (fun c24 => ?_) (fun c24 => ?_)
  · refine jt_go jm_m63 22 1 (f' := (37, [(4, .inl (nI (sp_num s e d (p + 2) 1))), (3, .inl (nI (sp_num s e d (p + 1) 1))), (0, .inr (.inr (3, d, 0))), (1, .inl (nI p)), (2, .inr (.inr (2, j, 0)))], [.inl (nI 0)], h)) (P := True) rfl trivial ?_
    refine jt_zret jm_m63 23 rfl (Or.inl rfl) ?_
    have pp : ¬ (sp_num s e d (p + 1) 1 < g 0 ∧ (sp_num s e d (p + 2) 1 = 9 ∨ sp_num s e d (p + 2) 1 < g 1)) := fun z => c24 ⟨nI_pos' (by omega), (nI_ltI (by omega) (by omega)).mpr z.1⟩
    exact ⟨jt_lb0 pp, fun z => absurd z pp, jf_fr_rf⟩
  · refine jt_go jm_m63 18 2 (f' := (30, [(4, .inl (nI (sp_num s e d (p + 2) 1))), (3, .inl (nI (sp_num s e d (p + 1) 1))), (0, .inr (.inr (3, d, 0))), (1, .inl (nI p)), (2, .inr (.inr (2, j, 0)))], [.inl (nI (sp_num s e d (p + 2) 1)), .inr (.inr (2, j, 0))], h)) (P := True) rfl trivial ?_
    refine jt_callp (w := .inl (jm_b (nI (sp_num s e d (p + 2) 1) = nI 9 ∨ (nI 0 ≤ nI (sp_num s e d (p + 2) 1) ∧ nI (sp_num s e d (p + 2) 1) < nI (g 1))))) jm_m63 20 (mi' := 9) (as := [.inr (.inr (2, j, 0)), .inl (nI (sp_num s e d (p + 2) 1))]) (rest := []) (nxt := 33) rfl rfl jm_m9 rfl rfl (ta_hasName R W) ?_
    refine jt_ifbne jm_m63 21 (tgt := 38) (nxt := 36) rfl rfl rfl (fun c33 => ?_) (fun c33 => ?_)
    · refine jt_go jm_m63 24 3 (f' := (42, [(4, .inl (nI (sp_num s e d (p + 2) 1))), (3, .inl (nI (sp_num s e d (p + 1) 1))), (0, .inr (.inr (3, d, 0))), (1, .inl (nI p)), (2, .inr (.inr (2, j, 0)))], [.inl (nI (sp_num s e d (p + 2) 1)), .inl (nI (sp_num s e d (p + 1) 1)), .inr (.inr (2, j, 0))], h)) (P := True) rfl trivial ?_
      have hc1 : sp_num s e d (p + 1) 1 < g 0 := (nI_ltI (by omega) (by omega)).mp c24.2
      refine jt_call jm_m63 27 (mi' := 15) (as := [.inr (.inr (2, j, 0)), .inl (nI (sp_num s e d (p + 1) 1)), .inl (nI (sp_num s e d (p + 2) 1))]) (rest := []) (nxt := 45) rfl rfl jm_m15 rfl rfl (ta_name R W (by omega)) ?_
      rintro u h1 ⟨rfl, Rh1, Fh1⟩
      show jt_T 63 (45, [(4, .inl (nI (sp_num s e d (p + 2) 1))), (3, .inl (nI (sp_num s e d (p + 1) 1))), (0, .inr (.inr (3, d, 0))), (1, .inl (nI p)), (2, .inr (.inr (2, j, 0)))], [], h1) _
      refine jt_go jm_m63 28 1 (f' := (46, [(4, .inl (nI (sp_num s e d (p + 2) 1))), (3, .inl (nI (sp_num s e d (p + 1) 1))), (0, .inr (.inr (3, d, 0))), (1, .inl (nI p)), (2, .inr (.inr (2, j, 0)))], [.inl (nI 1)], h1)) (P := True) rfl trivial ?_
      refine jt_zret jm_m63 29 rfl (Or.inr rfl) ?_
      have pp : sp_num s e d (p + 1) 1 < g 0 ∧ (sp_num s e d (p + 2) 1 = 9 ∨ sp_num s e d (p + 2) 1 < g 1) := ⟨(nI_ltI (by omega) (by omega)).mp c24.2, c33.elim (fun z => Or.inl (nI_inj (by omega) (by omega) z)) (fun z => Or.inr ((nI_ltI (by omega) (by omega)).mp z.2))⟩
      exact ⟨jt_lb1 pp, fun _ => Rh1, Fh1⟩
    · refine jt_go jm_m63 22 1 (f' := (37, [(4, .inl (nI (sp_num s e d (p + 2) 1))), (3, .inl (nI (sp_num s e d (p + 1) 1))), (0, .inr (.inr (3, d, 0))), (1, .inl (nI p)), (2, .inr (.inr (2, j, 0)))], [.inl (nI 0)], h)) (P := True) rfl trivial ?_
      refine jt_zret jm_m63 23 rfl (Or.inl rfl) ?_
      have pp : ¬ (sp_num s e d (p + 1) 1 < g 0 ∧ (sp_num s e d (p + 2) 1 = 9 ∨ sp_num s e d (p + 2) 1 < g 1)) := fun z => c33 (z.2.elim (fun z => Or.inl (congrArg nI z)) (fun z => Or.inr ⟨nI_pos' (by omega), (nI_ltI (by omega) (by omega)).mpr z⟩))
      exact ⟨jt_lb0 pp, fun z => absurd z pp, jf_fr_rf⟩
set_option maxHeartbeats 4000000 in
set_option maxRecDepth 20000 in
theorem tk_cata {h : jm_M} {s : Nat → Nat → Nat} {e : Nat → Nat → Int32} (K : jk_rel h s e) (Y : kw s) (B : ke s e) {d : Nat} (hd : d ≤ 7) (qa : s d 0 = 2) (q3 : s d 3 = 0) {j : Nat} {g : Nat → Nat} (R : jf_rel h j g) (W : jw g) {p : Nat} (hp : p ≤ 100) (A : ∀ i, 1 ≤ i → i ≤ 4 → dgt s e d (p + i))  : jt_T 60 (0, [(0, .inr (.inr (3, d, 0))), (1, .inl (nI p)), (2, .inr (.inr (2, j, 0)))], [], h) (fun u h' => u = some (.inl (jm_b (sp_num s e d (p + 1) 1 < 8 ∧ sp_num s e d (p + 3) 2 < 16 ∧ g 0 < 6))) ∧ (sp_num s e d (p + 1) 1 < 8 ∧ sp_num s e d (p + 3) 2 < 16 ∧ g 0 < 6 → jf_rel h' j (sp_ac g (sp_num s e d (p + 1) 1) (sp_num s e d (p + 2) 1) (sp_num s e d (p + 3) 2))) ∧ jf_fr j h h') := by
  have bn := jw_n W
  have bm := jw_m W
  have bt := jw_t W
  refine jt_go jm_m60 0 4 (f' := (4, [(0, .inr (.inr (3, d, 0))), (1, .inl (nI p)), (2, .inr (.inr (2, j, 0)))], [.inl ((nI p) + (nI 1)), .inr (.inr (3, d, 0))], h)) (P := True) rfl trivial ?_
  refine jt_ti (show ((nI p) + (nI 1)) = nI (p + 1) from nI_add _ _) ?_
  refine jt_go jm_m60 4 1 (f' := (5, [(0, .inr (.inr (3, d, 0))), (1, .inl (nI p)), (2, .inr (.inr (2, j, 0)))], [.inl (nI 1), .inl (nI (p + 1)), .inr (.inr (3, d, 0))], h)) (P := True) rfl trivial ?_
  refine jt_callp (w := .inl (nI (sp_num s e d (p + 1) 1))) jm_m60 5 (mi' := 65) (as := [.inr (.inr (3, d, 0)), .inl (nI (p + 1)), .inl (nI 1)]) (rest := []) (nxt := 8) rfl rfl jm_m65 rfl rfl (tk_num K Y B hd qa q3 (by omega) (by omega) (fun i hi => by rw [show p + 1 + i = p + (1 + i) by omega]; exact A _ (by omega) (by omega))) ?_
  have bnn1 : sp_num s e d (p + 1) 1 < 10 ^ 1 := sp_num_lt 1 (fun i hi => by rw [show p + 1 + i = p + (1 + i) by omega]; exact A _ (by omega) (by omega))
  refine jt_go jm_m60 6 5 (f' := (13, [(3, .inl (nI (sp_num s e d (p + 1) 1))), (0, .inr (.inr (3, d, 0))), (1, .inl (nI p)), (2, .inr (.inr (2, j, 0)))], [.inl ((nI p) + (nI 2)), .inr (.inr (3, d, 0))], h)) (P := True) rfl trivial ?_
  refine jt_ti (show ((nI p) + (nI 2)) = nI (p + 2) from nI_add _ _) ?_
  refine jt_go jm_m60 11 1 (f' := (14, [(3, .inl (nI (sp_num s e d (p + 1) 1))), (0, .inr (.inr (3, d, 0))), (1, .inl (nI p)), (2, .inr (.inr (2, j, 0)))], [.inl (nI 1), .inl (nI (p + 2)), .inr (.inr (3, d, 0))], h)) (P := True) rfl trivial ?_
  refine jt_callp (w := .inl (nI (sp_num s e d (p + 2) 1))) jm_m60 12 (mi' := 65) (as := [.inr (.inr (3, d, 0)), .inl (nI (p + 2)), .inl (nI 1)]) (rest := []) (nxt := 17) rfl rfl jm_m65 rfl rfl (tk_num K Y B hd qa q3 (by omega) (by omega) (fun i hi => by rw [show p + 2 + i = p + (2 + i) by omega]; exact A _ (by omega) (by omega))) ?_
  have bnn2 : sp_num s e d (p + 2) 1 < 10 ^ 1 := sp_num_lt 1 (fun i hi => by rw [show p + 2 + i = p + (2 + i) by omega]; exact A _ (by omega) (by omega))
  refine jt_go jm_m60 13 5 (f' := (23, [(4, .inl (nI (sp_num s e d (p + 2) 1))), (3, .inl (nI (sp_num s e d (p + 1) 1))), (0, .inr (.inr (3, d, 0))), (1, .inl (nI p)), (2, .inr (.inr (2, j, 0)))], [.inl ((nI p) + (nI 3)), .inr (.inr (3, d, 0))], h)) (P := True) rfl trivial ?_
  refine jt_ti (show ((nI p) + (nI 3)) = nI (p + 3) from nI_add _ _) ?_
  refine jt_go jm_m60 18 1 (f' := (24, [(4, .inl (nI (sp_num s e d (p + 2) 1))), (3, .inl (nI (sp_num s e d (p + 1) 1))), (0, .inr (.inr (3, d, 0))), (1, .inl (nI p)), (2, .inr (.inr (2, j, 0)))], [.inl (nI 2), .inl (nI (p + 3)), .inr (.inr (3, d, 0))], h)) (P := True) rfl trivial ?_
  refine jt_callp (w := .inl (nI (sp_num s e d (p + 3) 2))) jm_m60 19 (mi' := 65) (as := [.inr (.inr (3, d, 0)), .inl (nI (p + 3)), .inl (nI 2)]) (rest := []) (nxt := 27) rfl rfl jm_m65 rfl rfl (tk_num K Y B hd qa q3 (by omega) (by omega) (fun i hi => by rw [show p + 3 + i = p + (3 + i) by omega]; exact A _ (by omega) (by omega))) ?_
  have bnn3 : sp_num s e d (p + 3) 2 < 10 ^ 2 := sp_num_lt 2 (fun i hi => by rw [show p + 3 + i = p + (3 + i) by omega]; exact A _ (by omega) (by omega))
  refine jt_go jm_m60 20 2 (f' := (30, [(5, .inl (nI (sp_num s e d (p + 3) 2))), (4, .inl (nI (sp_num s e d (p + 2) 1))), (3, .inl (nI (sp_num s e d (p + 1) 1))), (0, .inr (.inr (3, d, 0))), (1, .inl (nI p)), (2, .inr (.inr (2, j, 0)))], [.inl (nI (sp_num s e d (p + 1) 1))], h)) (P := True) rfl trivial ?_
  refine jt_callp (w := .inl (jm_b (nI 0 ≤ nI (sp_num s e d (p + 1) 1) ∧ nI (sp_num s e d (p + 1) 1) ≤ nI 7))) jm_m60 22 (mi' := 140) (as := [.inl (nI (sp_num s e d (p + 1) 1))]) (rest := []) (nxt := 33) rfl rfl jm_m140 rfl rfl (ta_kind) ?_
  refine jt_ifbeq jm_m60 23 (tgt := 60) (nxt := 36) rfl rfl rfl (fun c33 => ?_) (fun c33 => ?_)
  · refine jt_go jm_m60 35 1 (f' := (61, [(5, .inl (nI (sp_num s e d (p + 3) 2))), (4, .inl (nI (sp_num s e d (p + 2) 1))), (3, .inl (nI (sp_num s e d (p + 1) 1))), (0, .inr (.inr (3, d, 0))), (1, .inl (nI p)), (2, .inr (.inr (2, j, 0)))], [.inl (nI 0)], h)) (P := True) rfl trivial ?_
    refine jt_zret jm_m60 36 rfl (Or.inl rfl) ?_
    have pp : ¬ (sp_num s e d (p + 1) 1 < 8 ∧ sp_num s e d (p + 3) 2 < 16 ∧ g 0 < 6) := fun z => c33 ⟨nI_pos' (by omega), (nI_leI (by omega) (by omega)).mpr (Nat.le_of_lt_succ z.1)⟩
    exact ⟨jt_lb0 pp, fun z => absurd z pp, jf_fr_rf⟩
  · refine jt_go jm_m60 24 1 (f' := (38, [(5, .inl (nI (sp_num s e d (p + 3) 2))), (4, .inl (nI (sp_num s e d (p + 2) 1))), (3, .inl (nI (sp_num s e d (p + 1) 1))), (0, .inr (.inr (3, d, 0))), (1, .inl (nI p)), (2, .inr (.inr (2, j, 0)))], [.inl (nI (sp_num s e d (p + 3) 2))], h)) (P := True) rfl trivial ?_
    refine jt_callp (w := .inl (jm_b (nI 0 ≤ nI (sp_num s e d (p + 3) 2) ∧ nI (sp_num s e d (p + 3) 2) ≤ nI 15))) jm_m60 25 (mi' := 138) (as := [.inl (nI (sp_num s e d (p + 3) 2))]) (rest := []) (nxt := 41) rfl rfl jm_m138 rfl rfl (ta_place) ?_
    refine jt_ifbeq jm_m60 26 (tgt := 60) (nxt := 44) rfl rfl rfl (fun c41 => ?_) (fun c41 => ?_)
    · refine jt_go jm_m60 35 1 (f' := (61, [(5, .inl (nI (sp_num s e d (p + 3) 2))), (4, .inl (nI (sp_num s e d (p + 2) 1))), (3, .inl (nI (sp_num s e d (p + 1) 1))), (0, .inr (.inr (3, d, 0))), (1, .inl (nI p)), (2, .inr (.inr (2, j, 0)))], [.inl (nI 0)], h)) (P := True) rfl trivial ?_
      refine jt_zret jm_m60 36 rfl (Or.inl rfl) ?_
      have pp : ¬ (sp_num s e d (p + 1) 1 < 8 ∧ sp_num s e d (p + 3) 2 < 16 ∧ g 0 < 6) := fun z => c41 ⟨nI_pos' (by omega), (nI_leI (by omega) (by omega)).mpr (Nat.le_of_lt_succ z.2.1)⟩
      exact ⟨jt_lb0 pp, fun z => absurd z pp, jf_fr_rf⟩
    · refine jt_go jm_m60 27 4 (f' := (50, [(5, .inl (nI (sp_num s e d (p + 3) 2))), (4, .inl (nI (sp_num s e d (p + 2) 1))), (3, .inl (nI (sp_num s e d (p + 1) 1))), (0, .inr (.inr (3, d, 0))), (1, .inl (nI p)), (2, .inr (.inr (2, j, 0)))], [.inl (nI (sp_num s e d (p + 3) 2)), .inl (nI (sp_num s e d (p + 2) 1)), .inl (nI (sp_num s e d (p + 1) 1)), .inr (.inr (2, j, 0))], h)) (P := True) rfl trivial ?_
      have k1 : sp_num s e d (p + 1) 1 < 8 := Nat.lt_succ_of_le ((nI_leI (by omega) (by omega)).mp c33.2)
      have k2 : sp_num s e d (p + 3) 2 < 16 := Nat.lt_succ_of_le ((nI_leI (by omega) (by omega)).mp c41.2)
      refine jt_call jm_m60 31 (mi' := 13) (as := [.inr (.inr (2, j, 0)), .inl (nI (sp_num s e d (p + 1) 1)), .inl (nI (sp_num s e d (p + 2) 1)), .inl (nI (sp_num s e d (p + 3) 2))]) (rest := []) (nxt := 53) rfl rfl jm_m13 rfl rfl (ta_ac R W (by omega) (by omega) (by omega)) ?_
      rintro u h1 ⟨rfl, R1, F1⟩
      show jt_T 60 (53, [(5, .inl (nI (sp_num s e d (p + 3) 2))), (4, .inl (nI (sp_num s e d (p + 2) 1))), (3, .inl (nI (sp_num s e d (p + 1) 1))), (0, .inr (.inr (3, d, 0))), (1, .inl (nI p)), (2, .inr (.inr (2, j, 0)))], [.inl (jm_b (g 0 < 6))], h1) _
      refine jt_ifbeq jm_m60 32 (tgt := 60) (nxt := 56) rfl rfl rfl (fun c53 => ?_) (fun c53 => ?_)
      · refine jt_go jm_m60 35 1 (f' := (61, [(5, .inl (nI (sp_num s e d (p + 3) 2))), (4, .inl (nI (sp_num s e d (p + 2) 1))), (3, .inl (nI (sp_num s e d (p + 1) 1))), (0, .inr (.inr (3, d, 0))), (1, .inl (nI p)), (2, .inr (.inr (2, j, 0)))], [.inl (nI 0)], h1)) (P := True) rfl trivial ?_
        refine jt_zret jm_m60 36 rfl (Or.inl rfl) ?_
        have pp : ¬ (sp_num s e d (p + 1) 1 < 8 ∧ sp_num s e d (p + 3) 2 < 16 ∧ g 0 < 6) := fun z => c53 z.2.2
        exact ⟨jt_lb0 pp, fun z => absurd z pp, F1⟩
      · refine jt_go jm_m60 33 2 (f' := (61, [(5, .inl (nI (sp_num s e d (p + 3) 2))), (4, .inl (nI (sp_num s e d (p + 2) 1))), (3, .inl (nI (sp_num s e d (p + 1) 1))), (0, .inr (.inr (3, d, 0))), (1, .inl (nI p)), (2, .inr (.inr (2, j, 0)))], [.inl (nI 1)], h1)) (P := True) rfl trivial ?_
        refine jt_zret jm_m60 36 rfl (Or.inr rfl) ?_
        have pp : sp_num s e d (p + 1) 1 < 8 ∧ sp_num s e d (p + 3) 2 < 16 ∧ g 0 < 6 := ⟨k1, k2, c53⟩
        exact ⟨jt_lb1 pp, fun _ => by rw [if_pos c53] at R1; exact R1, F1⟩
set_option maxHeartbeats 4000000 in
set_option maxRecDepth 20000 in
theorem tk_fish {h : jm_M} {s : Nat → Nat → Nat} {e : Nat → Nat → Int32} (K : jk_rel h s e) (Y : kw s) (B : ke s e) {d : Nat} (hd : d ≤ 7) (qa : s d 0 = 2) (q3 : s d 3 = 0) {j : Nat} {g : Nat → Nat} (R : jf_rel h j g) (W : jw g) {p : Nat} (hp : p ≤ 100) (A : ∀ i, 1 ≤ i → i ≤ 3 → dgt s e d (p + i))  : jt_T 62 (0, [(0, .inr (.inr (3, d, 0))), (1, .inl (nI p)), (2, .inr (.inr (6, j, 0)))], [], h) (fun u h' => u = some (.inl (jm_b (sp_num s e d (p + 1) 2 < 16))) ∧ (sp_num s e d (p + 1) 2 < 16 → jf_rel h' j (sp_up g (4 + sp_num s e d (p + 1) 2) (sp_num s e d (p + 3) 1))) ∧ jf_fr j h h') := by
  have bn := jw_n W
  have bm := jw_m W
  have bt := jw_t W
  refine jt_go jm_m62 0 4 (f' := (4, [(0, .inr (.inr (3, d, 0))), (1, .inl (nI p)), (2, .inr (.inr (6, j, 0)))], [.inl ((nI p) + (nI 1)), .inr (.inr (3, d, 0))], h)) (P := True) rfl trivial ?_
  refine jt_ti (show ((nI p) + (nI 1)) = nI (p + 1) from nI_add _ _) ?_
  refine jt_go jm_m62 4 1 (f' := (5, [(0, .inr (.inr (3, d, 0))), (1, .inl (nI p)), (2, .inr (.inr (6, j, 0)))], [.inl (nI 2), .inl (nI (p + 1)), .inr (.inr (3, d, 0))], h)) (P := True) rfl trivial ?_
  refine jt_callp (w := .inl (nI (sp_num s e d (p + 1) 2))) jm_m62 5 (mi' := 65) (as := [.inr (.inr (3, d, 0)), .inl (nI (p + 1)), .inl (nI 2)]) (rest := []) (nxt := 8) rfl rfl jm_m65 rfl rfl (tk_num K Y B hd qa q3 (by omega) (by omega) (fun i hi => by rw [show p + 1 + i = p + (1 + i) by omega]; exact A _ (by omega) (by omega))) ?_
  have bnn1 : sp_num s e d (p + 1) 2 < 10 ^ 2 := sp_num_lt 2 (fun i hi => by rw [show p + 1 + i = p + (1 + i) by omega]; exact A _ (by omega) (by omega))
  refine jt_go jm_m62 6 2 (f' := (10, [(3, .inl (nI (sp_num s e d (p + 1) 2))), (0, .inr (.inr (3, d, 0))), (1, .inl (nI p)), (2, .inr (.inr (6, j, 0)))], [.inl (nI (sp_num s e d (p + 1) 2))], h)) (P := True) rfl trivial ?_
  refine jt_callp (w := .inl (jm_b (nI 0 ≤ nI (sp_num s e d (p + 1) 2) ∧ nI (sp_num s e d (p + 1) 2) ≤ nI 15))) jm_m62 8 (mi' := 138) (as := [.inl (nI (sp_num s e d (p + 1) 2))]) (rest := []) (nxt := 13) rfl rfl jm_m138 rfl rfl (ta_place) ?_
  refine jt_ifbne jm_m62 9 (tgt := 18) (nxt := 16) rfl rfl rfl (fun c13 => ?_) (fun c13 => ?_)
  · have k1 : sp_num s e d (p + 1) 2 < 16 := Nat.lt_succ_of_le ((nI_leI (by omega) (by omega)).mp c13.2)
    refine jt_go jm_m62 12 6 (f' := (24, [(3, .inl (nI (sp_num s e d (p + 1) 2))), (0, .inr (.inr (3, d, 0))), (1, .inl (nI p)), (2, .inr (.inr (6, j, 0)))], [.inl ((nI p) + (nI 3)), .inr (.inr (3, d, 0)), .inl (nI (sp_num s e d (p + 1) 2)), .inr (.inr (6, j, 0))], h)) (P := True) rfl trivial ?_
    refine jt_ti (show ((nI p) + (nI 3)) = nI (p + 3) from nI_add _ _) ?_
    refine jt_go jm_m62 18 1 (f' := (25, [(3, .inl (nI (sp_num s e d (p + 1) 2))), (0, .inr (.inr (3, d, 0))), (1, .inl (nI p)), (2, .inr (.inr (6, j, 0)))], [.inl (nI 1), .inl (nI (p + 3)), .inr (.inr (3, d, 0)), .inl (nI (sp_num s e d (p + 1) 2)), .inr (.inr (6, j, 0))], h)) (P := True) rfl trivial ?_
    refine jt_callp (w := .inl (nI (sp_num s e d (p + 3) 1))) jm_m62 19 (mi' := 65) (as := [.inr (.inr (3, d, 0)), .inl (nI (p + 3)), .inl (nI 1)]) (rest := [.inl (nI (sp_num s e d (p + 1) 2)), .inr (.inr (6, j, 0))]) (nxt := 28) rfl rfl jm_m65 rfl rfl (tk_num K Y B hd qa q3 (by omega) (by omega) (fun i hi => by rw [show p + 3 + i = p + (3 + i) by omega]; exact A _ (by omega) (by omega))) ?_
    have bnn2 : sp_num s e d (p + 3) 1 < 10 ^ 1 := sp_num_lt 1 (fun i hi => by rw [show p + 3 + i = p + (3 + i) by omega]; exact A _ (by omega) (by omega))
    refine jt_goM jm_m62 20 1 (pc' := 29) (L' := [(3, .inl (nI (sp_num s e d (p + 1) 2))), (0, .inr (.inr (3, d, 0))), (1, .inl (nI p)), (2, .inr (.inr (6, j, 0)))]) (st' := []) (m' := jm_set h (6, j, 0) (upd (h (6, j, 0)) (nI (sp_num s e d (p + 1) 2)).toNatClampNeg (nI (sp_num s e d (p + 3) 1)))) (P := vp_in (nI (sp_num s e d (p + 1) 2)) 16 ∧ True) rfl ⟨(vp_in_nI (by omega) (by decide)), trivial⟩ (fun h1 eh1 => ?_)
    have Fh1 : jf_fr j h h1 := by rw [eh1]; exact jf_fr_set jf_fr_rf ⟨Or.inr rfl, rfl⟩
    obtain ⟨gh1, egh1⟩ : ∃ y, y = sp_up g (4 + (sp_num s e d (p + 1) 2)) (sp_num s e d (p + 3) 1) := ⟨_, rfl⟩
    have Rh1 : jf_rel h1 j gh1 := by rw [eh1, egh1]; exact jf_set_fish R (c := sp_num s e d (p + 1) 2) (w := sp_num s e d (p + 3) 1) (nI_clamp (by omega)) (by omega) rfl
    refine jt_go jm_m62 21 1 (f' := (30, [(3, .inl (nI (sp_num s e d (p + 1) 2))), (0, .inr (.inr (3, d, 0))), (1, .inl (nI p)), (2, .inr (.inr (6, j, 0)))], [.inl (nI 1)], h1)) (P := True) rfl trivial ?_
    refine jt_zret jm_m62 22 rfl (Or.inr rfl) ?_
    have pp : sp_num s e d (p + 1) 2 < 16 := k1
    exact ⟨jt_lb1 pp, fun _ => by rw [← egh1]; exact Rh1, Fh1⟩
  · refine jt_go jm_m62 10 1 (f' := (17, [(3, .inl (nI (sp_num s e d (p + 1) 2))), (0, .inr (.inr (3, d, 0))), (1, .inl (nI p)), (2, .inr (.inr (6, j, 0)))], [.inl (nI 0)], h)) (P := True) rfl trivial ?_
    refine jt_zret jm_m62 11 rfl (Or.inl rfl) ?_
    have pp : ¬ (sp_num s e d (p + 1) 2 < 16) := fun z => c13 ⟨nI_pos' (by omega), (nI_leI (by omega) (by omega)).mpr (Nat.le_of_lt_succ z)⟩
    exact ⟨jt_lb0 pp, fun z => absurd z pp, jf_fr_rf⟩
set_option maxHeartbeats 4000000 in
set_option maxRecDepth 20000 in
theorem tk_mice {h : jm_M} {s : Nat → Nat → Nat} {e : Nat → Nat → Int32} (K : jk_rel h s e) (Y : kw s) (B : ke s e) {d : Nat} (hd : d ≤ 7) (qa : s d 0 = 2) (q3 : s d 3 = 0) {j : Nat} {g : Nat → Nat} (R : jf_rel h j g) (W : jw g) {p : Nat} (hp : p ≤ 100) (A : ∀ i, 1 ≤ i → i ≤ 3 → dgt s e d (p + i))  : jt_T 62 (0, [(0, .inr (.inr (3, d, 0))), (1, .inl (nI p)), (2, .inr (.inr (6, j, 1)))], [], h) (fun u h' => u = some (.inl (jm_b (sp_num s e d (p + 1) 2 < 16))) ∧ (sp_num s e d (p + 1) 2 < 16 → jf_rel h' j (sp_up g (20 + sp_num s e d (p + 1) 2) (sp_num s e d (p + 3) 1))) ∧ jf_fr j h h') := by
  have bn := jw_n W
  have bm := jw_m W
  have bt := jw_t W
  refine jt_go jm_m62 0 4 (f' := (4, [(0, .inr (.inr (3, d, 0))), (1, .inl (nI p)), (2, .inr (.inr (6, j, 1)))], [.inl ((nI p) + (nI 1)), .inr (.inr (3, d, 0))], h)) (P := True) rfl trivial ?_
  refine jt_ti (show ((nI p) + (nI 1)) = nI (p + 1) from nI_add _ _) ?_
  refine jt_go jm_m62 4 1 (f' := (5, [(0, .inr (.inr (3, d, 0))), (1, .inl (nI p)), (2, .inr (.inr (6, j, 1)))], [.inl (nI 2), .inl (nI (p + 1)), .inr (.inr (3, d, 0))], h)) (P := True) rfl trivial ?_
  refine jt_callp (w := .inl (nI (sp_num s e d (p + 1) 2))) jm_m62 5 (mi' := 65) (as := [.inr (.inr (3, d, 0)), .inl (nI (p + 1)), .inl (nI 2)]) (rest := []) (nxt := 8) rfl rfl jm_m65 rfl rfl (tk_num K Y B hd qa q3 (by omega) (by omega) (fun i hi => by rw [show p + 1 + i = p + (1 + i) by omega]; exact A _ (by omega) (by omega))) ?_
  have bnn1 : sp_num s e d (p + 1) 2 < 10 ^ 2 := sp_num_lt 2 (fun i hi => by rw [show p + 1 + i = p + (1 + i) by omega]; exact A _ (by omega) (by omega))
  refine jt_go jm_m62 6 2 (f' := (10, [(3, .inl (nI (sp_num s e d (p + 1) 2))), (0, .inr (.inr (3, d, 0))), (1, .inl (nI p)), (2, .inr (.inr (6, j, 1)))], [.inl (nI (sp_num s e d (p + 1) 2))], h)) (P := True) rfl trivial ?_
  refine jt_callp (w := .inl (jm_b (nI 0 ≤ nI (sp_num s e d (p + 1) 2) ∧ nI (sp_num s e d (p + 1) 2) ≤ nI 15))) jm_m62 8 (mi' := 138) (as := [.inl (nI (sp_num s e d (p + 1) 2))]) (rest := []) (nxt := 13) rfl rfl jm_m138 rfl rfl (ta_place) ?_
  refine jt_ifbne jm_m62 9 (tgt := 18) (nxt := 16) rfl rfl rfl (fun c13 => ?_) (fun c13 => ?_)
  · have k1 : sp_num s e d (p + 1) 2 < 16 := Nat.lt_succ_of_le ((nI_leI (by omega) (by omega)).mp c13.2)
    refine jt_go jm_m62 12 6 (f' := (24, [(3, .inl (nI (sp_num s e d (p + 1) 2))), (0, .inr (.inr (3, d, 0))), (1, .inl (nI p)), (2, .inr (.inr (6, j, 1)))], [.inl ((nI p) + (nI 3)), .inr (.inr (3, d, 0)), .inl (nI (sp_num s e d (p + 1) 2)), .inr (.inr (6, j, 1))], h)) (P := True) rfl trivial ?_
    refine jt_ti (show ((nI p) + (nI 3)) = nI (p + 3) from nI_add _ _) ?_
    refine jt_go jm_m62 18 1 (f' := (25, [(3, .inl (nI (sp_num s e d (p + 1) 2))), (0, .inr (.inr (3, d, 0))), (1, .inl (nI p)), (2, .inr (.inr (6, j, 1)))], [.inl (nI 1), .inl (nI (p + 3)), .inr (.inr (3, d, 0)), .inl (nI (sp_num s e d (p + 1) 2)), .inr (.inr (6, j, 1))], h)) (P := True) rfl trivial ?_
    refine jt_callp (w := .inl (nI (sp_num s e d (p + 3) 1))) jm_m62 19 (mi' := 65) (as := [.inr (.inr (3, d, 0)), .inl (nI (p + 3)), .inl (nI 1)]) (rest := [.inl (nI (sp_num s e d (p + 1) 2)), .inr (.inr (6, j, 1))]) (nxt := 28) rfl rfl jm_m65 rfl rfl (tk_num K Y B hd qa q3 (by omega) (by omega) (fun i hi => by rw [show p + 3 + i = p + (3 + i) by omega]; exact A _ (by omega) (by omega))) ?_
    have bnn2 : sp_num s e d (p + 3) 1 < 10 ^ 1 := sp_num_lt 1 (fun i hi => by rw [show p + 3 + i = p + (3 + i) by omega]; exact A _ (by omega) (by omega))
    refine jt_goM jm_m62 20 1 (pc' := 29) (L' := [(3, .inl (nI (sp_num s e d (p + 1) 2))), (0, .inr (.inr (3, d, 0))), (1, .inl (nI p)), (2, .inr (.inr (6, j, 1)))]) (st' := []) (m' := jm_set h (6, j, 1) (upd (h (6, j, 1)) (nI (sp_num s e d (p + 1) 2)).toNatClampNeg (nI (sp_num s e d (p + 3) 1)))) (P := vp_in (nI (sp_num s e d (p + 1) 2)) 16 ∧ True) rfl ⟨(vp_in_nI (by omega) (by decide)), trivial⟩ (fun h1 eh1 => ?_)
    have Fh1 : jf_fr j h h1 := by rw [eh1]; exact jf_fr_set jf_fr_rf ⟨Or.inr rfl, rfl⟩
    obtain ⟨gh1, egh1⟩ : ∃ y, y = sp_up g (20 + (sp_num s e d (p + 1) 2)) (sp_num s e d (p + 3) 1) := ⟨_, rfl⟩
    have Rh1 : jf_rel h1 j gh1 := by rw [eh1, egh1]; exact jf_set_mice R (c := sp_num s e d (p + 1) 2) (w := sp_num s e d (p + 3) 1) (nI_clamp (by omega)) (by omega) rfl
    refine jt_go jm_m62 21 1 (f' := (30, [(3, .inl (nI (sp_num s e d (p + 1) 2))), (0, .inr (.inr (3, d, 0))), (1, .inl (nI p)), (2, .inr (.inr (6, j, 1)))], [.inl (nI 1)], h1)) (P := True) rfl trivial ?_
    refine jt_zret jm_m62 22 rfl (Or.inr rfl) ?_
    have pp : sp_num s e d (p + 1) 2 < 16 := k1
    exact ⟨jt_lb1 pp, fun _ => by rw [← egh1]; exact Rh1, Fh1⟩
  · refine jt_go jm_m62 10 1 (f' := (17, [(3, .inl (nI (sp_num s e d (p + 1) 2))), (0, .inr (.inr (3, d, 0))), (1, .inl (nI p)), (2, .inr (.inr (6, j, 1)))], [.inl (nI 0)], h)) (P := True) rfl trivial ?_
    refine jt_zret jm_m62 11 rfl (Or.inl rfl) ?_
    have pp : ¬ (sp_num s e d (p + 1) 2 < 16) := fun z => c13 ⟨nI_pos' (by omega), (nI_leI (by omega) (by omega)).mpr (Nat.le_of_lt_succ z)⟩
    exact ⟨jt_lb0 pp, fun z => absurd z pp, jf_fr_rf⟩
