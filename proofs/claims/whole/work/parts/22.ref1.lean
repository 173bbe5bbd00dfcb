/-! REFERENCE: an hour. -/
set_option maxHeartbeats 4000000 in
set_option maxRecDepth 20000 in
theorem tb_goal {h : jm_M} {a : Nat} {g : Nat → Nat} (R : jg_rel h a g) (W : jw g) {c : Nat} (hc : c < g 0) : jt_Pu 157 [.inr (.inr (5, a, 0)), .inl (nI c)] h (.inl (nI (sp_goal g c))) := by
  have bn := jw_n W
  have bm := jw_m W
  have bt := jw_t W
  have ba := jw_at W (c := c) (by omega)
  show jt_T 157 (0, [(0, .inr (.inr (5, a, 0))), (1, .inl (nI c))], [], h) _
  refine jt_go jm_m157 0 3 (f' := (3, [(0, .inr (.inr (5, a, 0))), (1, .inl (nI c))], [.inl (nI 2), .inl (nI c), .inr (.inr (5, a, 0))], h)) (P := True) rfl trivial ?_
  refine jt_callp (w := .inl (nI (38 + 5 * c))) jm_m157 3 (mi' := 147) (as := [.inl (nI c), .inl (nI 2)]) (rest := [.inr (.inr (5, a, 0))]) (nxt := 6) rfl rfl jm_m147 rfl rfl (tb_ofC (k := 38 + 5 * c) (by omega)) ?_
  refine jt_go jm_m157 4 1 (f' := (7, [(0, .inr (.inr (5, a, 0))), (1, .inl (nI c))], [.inl (h (5, a, 0) (nI (38 + 5 * c)).toNatClampNeg)], h)) (P := vp_in (nI (38 + 5 * c)) 78 ∧ True) rfl ⟨(vp_in_nI (by omega) (by decide)), trivial⟩ ?_
  refine jt_ti (show (h (5, a, 0) (nI (38 + 5 * c)).toNatClampNeg) = nI (g (38 + 5 * c)) from jg_get R (k := 38 + 5 * c) (nI_clamp (by omega)) (by omega)) ?_
  have bq1 := jw_at W (c := c) (by omega)
  refine jt_go jm_m157 5 4 (f' := (11, [(2, .inl (nI (g (38 + 5 * c)))), (0, .inr (.inr (5, a, 0))), (1, .inl (nI c))], [.inl (h (5, a, 0) (nI 2).toNatClampNeg)], h)) (P := vp_in (nI 2) 78 ∧ True) rfl ⟨(vp_in_nI (by omega) (by decide)), trivial⟩ ?_
  refine jt_ti (show (h (5, a, 0) (nI 2).toNatClampNeg) = nI (g 2) from jg_get R (k := 2) (nI_clamp (by omega)) (by omega)) ?_
  have bq2 := jw_t W
  refine jt_go jm_m157 9 4 (f' := (15, [(3, .inl (nI (g 2))), (2, .inl (nI (g (38 + 5 * c)))), (0, .inr (.inr (5, a, 0))), (1, .inl (nI c))], [.inl (nI 0), .inl (nI c), .inr (.inr (5, a, 0))], h)) (P := True) rfl trivial ?_
  refine jt_callp (w := .inl (nI (36 + 5 * c))) jm_m157 13 (mi' := 147) (as := [.inl (nI c), .inl (nI 0)]) (rest := [.inr (.inr (5, a, 0))]) (nxt := 18) rfl rfl jm_m147 rfl rfl (tb_ofC (k := 36 + 5 * c) (by omega)) ?_
  refine jt_go jm_m157 14 1 (f' := (19, [(3, .inl (nI (g 2))), (2, .inl (nI (g (38 + 5 * c)))), (0, .inr (.inr (5, a, 0))), (1, .inl (nI c))], [.inl (h (5, a, 0) (nI (36 + 5 * c)).toNatClampNeg)], h)) (P := vp_in (nI (36 + 5 * c)) 78 ∧ True) rfl ⟨(vp_in_nI (by omega) (by decide)), trivial⟩ ?_
  refine jt_ti (show (h (5, a, 0) (nI (36 + 5 * c)).toNatClampNeg) = nI (g (36 + 5 * c)) from jg_get R (k := 36 + 5 * c) (nI_clamp (by omega)) (by omega)) ?_
  have bq3 := jw_kind W (c := c) (by omega)
  refine jt_ts jm_m157 15 rfl ⟨fun d0 => ?_, fun d0 => ⟨fun d1 => ?_, fun d1 => ⟨fun d2 => ?_, fun d2 => ⟨fun d3 => ?_, fun d3 => ⟨fun d4 => ?_, fun d4 => ⟨fun d5 => ?_, fun d5 => ?_⟩⟩⟩⟩⟩⟩
  · have d0 : g (36 + 5 * c) = 1 := nI_inj (by omega) (by decide) d0
    show jt_T 157 (56, [(3, .inl (nI (g 2))), (2, .inl (nI (g (38 + 5 * c)))), (0, .inr (.inr (5, a, 0))), (1, .inl (nI c))], [], h) _
    refine jt_go jm_m157 16 3 (f' := (60, [(3, .inl (nI (g 2))), (2, .inl (nI (g (38 + 5 * c)))), (0, .inr (.inr (5, a, 0))), (1, .inl (nI c))], [.inl (nI (g (38 + 5 * c))), .inl (nI 20), .inr (.inr (5, a, 0))], h)) (P := True) rfl trivial ?_
    refine jt_callp (w := .inl (nI (sp_rich g 20 (g (38 + 5 * c)) 16))) jm_m157 19 (mi' := 155) (as := [.inr (.inr (5, a, 0)), .inl (nI 20), .inl (nI (g (38 + 5 * c)))]) (rest := []) (nxt := 63) rfl rfl jm_m155 rfl rfl (tb_most R (by decide) (fun p hp => jw_mice W hp) (by omega)) ?_
    refine jt_iret jm_m157 20 rfl ?_
    exact ⟨jt_ln (by unfold sp_goal; rw [d0]; rfl), rfl⟩
  · have d1 : g (36 + 5 * c) = 2 := nI_inj (by omega) (by decide) d1
    show jt_T 157 (64, [(3, .inl (nI (g 2))), (2, .inl (nI (g (38 + 5 * c)))), (0, .inr (.inr (5, a, 0))), (1, .inl (nI c))], [], h) _
    refine jt_go jm_m157 21 2 (f' := (66, [(3, .inl (nI (g 2))), (2, .inl (nI (g (38 + 5 * c)))), (0, .inr (.inr (5, a, 0))), (1, .inl (nI c))], [.inl (nI c), .inr (.inr (5, a, 0))], h)) (P := True) rfl trivial ?_
    refine jt_callp (w := .inl (nI (g (38 + 5 * (sp_near g c (g 0)).1)))) jm_m157 23 (mi' := 156) (as := [.inr (.inr (5, a, 0)), .inl (nI c)]) (rest := []) (nxt := 69) rfl rfl jm_m156 rfl rfl (tb_near R W hc) ?_
    refine jt_iret jm_m157 24 rfl ?_
    exact ⟨jt_ln (by unfold sp_goal; rw [d1]; rfl), rfl⟩
  · have d2 : g (36 + 5 * c) = 3 := nI_inj (by omega) (by decide) d2
    show jt_T 157 (70, [(3, .inl (nI (g 2))), (2, .inl (nI (g (38 + 5 * c)))), (0, .inr (.inr (5, a, 0))), (1, .inl (nI c))], [], h) _
    refine jt_go jm_m157 25 1 (f' := (71, [(3, .inl (nI (g 2))), (2, .inl (nI (g (38 + 5 * c)))), (0, .inr (.inr (5, a, 0))), (1, .inl (nI c))], [.inl (nI (g (38 + 5 * c)))], h)) (P := True) rfl trivial ?_
    refine jt_iret jm_m157 26 rfl ?_
    exact ⟨jt_ln (by unfold sp_goal; rw [d2]; rfl), rfl⟩
  · have d3 : g (36 + 5 * c) = 4 := nI_inj (by omega) (by decide) d3
    show jt_T 157 (72, [(3, .inl (nI (g 2))), (2, .inl (nI (g (38 + 5 * c)))), (0, .inr (.inr (5, a, 0))), (1, .inl (nI c))], [], h) _
    refine jt_go jm_m157 27 3 (f' := (75, [(3, .inl (nI (g 2))), (2, .inl (nI (g (38 + 5 * c)))), (0, .inr (.inr (5, a, 0))), (1, .inl (nI c))], [.inl ((nI (g 2)) - (nI (g 2)) / (nI 2) * (nI 2))], h)) (P := ¬ (nI 2) = 0 ∧ True) rfl ⟨(by decide), trivial⟩ ?_
    refine jt_ti (show ((nI (g 2)) - (nI (g 2)) / (nI 2) * (nI 2)) = nI (g 2 % 2) from jx_r2 _ bt) ?_
    refine jt_nifne jm_m157 30 (by omega) (tgt := 85) (nxt := 78) rfl rfl rfl (fun c75 => ?_) (fun c75 => ?_)
    · refine jt_go jm_m157 35 1 (f' := (86, [(3, .inl (nI (g 2))), (2, .inl (nI (g (38 + 5 * c)))), (0, .inr (.inr (5, a, 0))), (1, .inl (nI c))], [.inl (nI (g (38 + 5 * c)))], h)) (P := True) rfl trivial ?_
      refine jt_iret jm_m157 36 rfl ?_
      exact ⟨jt_ln (by unfold sp_goal; rw [d3]; exact (if_neg c75).symm), rfl⟩
    · refine jt_go jm_m157 31 3 (f' := (82, [(3, .inl (nI (g 2))), (2, .inl (nI (g (38 + 5 * c)))), (0, .inr (.inr (5, a, 0))), (1, .inl (nI c))], [.inl ((nI 15) - (nI (g (38 + 5 * c))))], h)) (P := True) rfl trivial ?_
      refine jt_ti (show ((nI 15) - (nI (g (38 + 5 * c)))) = nI (15 - g (38 + 5 * c)) from nI_subN (by omega)) ?_
      refine jt_go jm_m157 34 1 (f' := (86, [(3, .inl (nI (g 2))), (2, .inl (nI (g (38 + 5 * c)))), (0, .inr (.inr (5, a, 0))), (1, .inl (nI c))], [.inl (nI (15 - g (38 + 5 * c)))], h)) (P := True) rfl trivial ?_
      refine jt_iret jm_m157 36 rfl ?_
      exact ⟨jt_ln (by unfold sp_goal; rw [d3]; exact (if_pos c75).symm), rfl⟩
  · have d4 : g (36 + 5 * c) = 5 := nI_inj (by omega) (by decide) d4
    show jt_T 157 (87, [(3, .inl (nI (g 2))), (2, .inl (nI (g (38 + 5 * c)))), (0, .inr (.inr (5, a, 0))), (1, .inl (nI c))], [], h) _
    refine jt_go jm_m157 37 2 (f' := (90, [(3, .inl (nI (g 2))), (2, .inl (nI (g (38 + 5 * c)))), (0, .inr (.inr (5, a, 0))), (1, .inl (nI c))], [.inl (nI 20), .inl (nI (g 2))], h)) (P := True) rfl trivial ?_
    refine jt_nicge jm_m157 39 (a := g 2) (b := 20) (by omega) (by omega) (tgt := 98) (nxt := 93) rfl rfl rfl (fun c90 => ?_) (fun c90 => ?_)
    · refine jt_go jm_m157 43 3 (f' := (101, [(3, .inl (nI (g 2))), (2, .inl (nI (g (38 + 5 * c)))), (0, .inr (.inr (5, a, 0))), (1, .inl (nI c))], [.inl (nI (g (38 + 5 * c))), .inl (nI 4), .inr (.inr (5, a, 0))], h)) (P := True) rfl trivial ?_
      refine jt_callp (w := .inl (nI (sp_rich g 4 (g (38 + 5 * c)) 16))) jm_m157 46 (mi' := 155) (as := [.inr (.inr (5, a, 0)), .inl (nI 4), .inl (nI (g (38 + 5 * c)))]) (rest := []) (nxt := 104) rfl rfl jm_m155 rfl rfl (tb_most R (by decide) (fun p hp => jw_fish W hp) (by omega)) ?_
      refine jt_go jm_m157 47 1 (f' := (108, [(3, .inl (nI (g 2))), (2, .inl (nI (g (38 + 5 * c)))), (0, .inr (.inr (5, a, 0))), (1, .inl (nI c))], [.inl (nI (sp_rich g 4 (g (38 + 5 * c)) 16))], h)) (P := True) rfl trivial ?_
      refine jt_iret jm_m157 49 rfl ?_
      exact ⟨jt_ln (by unfold sp_goal; rw [d4]; exact (if_pos (by omega)).symm), rfl⟩
    · refine jt_go jm_m157 40 2 (f' := (95, [(3, .inl (nI (g 2))), (2, .inl (nI (g (38 + 5 * c)))), (0, .inr (.inr (5, a, 0))), (1, .inl (nI c))], [.inl (nI 4), .inl (nI (g 2))], h)) (P := True) rfl trivial ?_
      refine jt_nicgt jm_m157 42 (a := g 2) (b := 4) (by omega) (by omega) (tgt := 107) (nxt := 98) rfl rfl rfl (fun c95 => ?_) (fun c95 => ?_)
      · refine jt_go jm_m157 48 1 (f' := (108, [(3, .inl (nI (g 2))), (2, .inl (nI (g (38 + 5 * c)))), (0, .inr (.inr (5, a, 0))), (1, .inl (nI c))], [.inl (nI (g (38 + 5 * c)))], h)) (P := True) rfl trivial ?_
        refine jt_iret jm_m157 49 rfl ?_
        exact ⟨jt_ln (by unfold sp_goal; rw [d4]; exact (if_neg (by omega)).symm), rfl⟩
      · refine jt_go jm_m157 43 3 (f' := (101, [(3, .inl (nI (g 2))), (2, .inl (nI (g (38 + 5 * c)))), (0, .inr (.inr (5, a, 0))), (1, .inl (nI c))], [.inl (nI (g (38 + 5 * c))), .inl (nI 4), .inr (.inr (5, a, 0))], h)) (P := True) rfl trivial ?_
        refine jt_callp (w := .inl (nI (sp_rich g 4 (g (38 + 5 * c)) 16))) jm_m157 46 (mi' := 155) (as := [.inr (.inr (5, a, 0)), .inl (nI 4), .inl (nI (g (38 + 5 * c)))]) (rest := []) (nxt := 104) rfl rfl jm_m155 rfl rfl (tb_most R (by decide) (fun p hp => jw_fish W hp) (by omega)) ?_
        refine jt_go jm_m157 47 1 (f' := (108, [(3, .inl (nI (g 2))), (2, .inl (nI (g (38 + 5 * c)))), (0, .inr (.inr (5, a, 0))), (1, .inl (nI c))], [.inl (nI (sp_rich g 4 (g (38 + 5 * c)) 16))], h)) (P := True) rfl trivial ?_
        refine jt_iret jm_m157 49 rfl ?_
        exact ⟨jt_ln (by unfold sp_goal; rw [d4]; exact (if_pos (by omega)).symm), rfl⟩
  · have d5 : g (36 + 5 * c) = 6 := nI_inj (by omega) (by decide) d5
    show jt_T 157 (64, [(3, .inl (nI (g 2))), (2, .inl (nI (g (38 + 5 * c)))), (0, .inr (.inr (5, a, 0))), (1, .inl (nI c))], [], h) _
    refine jt_go jm_m157 21 2 (f' := (66, [(3, .inl (nI (g 2))), (2, .inl (nI (g (38 + 5 * c)))), (0, .inr (.inr (5, a, 0))), (1, .inl (nI c))], [.inl (nI c), .inr (.inr (5, a, 0))], h)) (P := True) rfl trivial ?_
    refine jt_callp (w := .inl (nI (g (38 + 5 * (sp_near g c (g 0)).1)))) jm_m157 23 (mi' := 156) (as := [.inr (.inr (5, a, 0)), .inl (nI c)]) (rest := []) (nxt := 69) rfl rfl jm_m156 rfl rfl (tb_near R W hc) ?_
    refine jt_iret jm_m157 24 rfl ?_
    exact ⟨jt_ln (by unfold sp_goal; rw [d5]; rfl), rfl⟩
  · have d0 : ¬ g (36 + 5 * c) = 1 := fun z => d0 (by rw [z]; rfl)
    have d1 : ¬ g (36 + 5 * c) = 2 := fun z => d1 (by rw [z]; rfl)
    have d2 : ¬ g (36 + 5 * c) = 3 := fun z => d2 (by rw [z]; rfl)
    have d3 : ¬ g (36 + 5 * c) = 4 := fun z => d3 (by rw [z]; rfl)
    have d4 : ¬ g (36 + 5 * c) = 5 := fun z => d4 (by rw [z]; rfl)
    have d5 : ¬ g (36 + 5 * c) = 6 := fun z => d5 (by rw [z]; rfl)
    show jt_T 157 (109, [(3, .inl (nI (g 2))), (2, .inl (nI (g (38 + 5 * c)))), (0, .inr (.inr (5, a, 0))), (1, .inl (nI c))], [], h) _
    refine jt_go jm_m157 50 3 (f' := (112, [(3, .inl (nI (g 2))), (2, .inl (nI (g (38 + 5 * c)))), (0, .inr (.inr (5, a, 0))), (1, .inl (nI c))], [.inl (nI (g (38 + 5 * c))), .inl (nI 4), .inr (.inr (5, a, 0))], h)) (P := True) rfl trivial ?_
    refine jt_callp (w := .inl (nI (sp_rich g 4 (g (38 + 5 * c)) 16))) jm_m157 53 (mi' := 155) (as := [.inr (.inr (5, a, 0)), .inl (nI 4), .inl (nI (g (38 + 5 * c)))]) (rest := []) (nxt := 115) rfl rfl jm_m155 rfl rfl (tb_most R (by decide) (fun p hp => jw_fish W hp) (by omega)) ?_
    refine jt_iret jm_m157 54 rfl ?_
    exact ⟨jt_ln (by unfold sp_goal; have hk := jw_kind W (c := c) (by omega); rcases (show g (36 + 5 * c) = 0 ∨ g (36 + 5 * c) = 7 by omega) with q | q <;> rw [q] <;> rfl), rfl⟩
set_option maxHeartbeats 4000000 in
set_option maxRecDepth 20000 in
theorem tb_pace {h : jm_M} {a : Nat} {g : Nat → Nat} (R : jg_rel h a g) (W : jw g) {c t : Nat} (hc : c < 6) (ht : t < 24) : jt_Pu 158 [.inr (.inr (5, a, 0)), .inl (nI c), .inl (nI t)] h (.inl (nI (sp_pace (g (36 + 5 * c)) (g (37 + 5 * c)) t))) := by
  show jt_T 158 (0, [(0, .inr (.inr (5, a, 0))), (1, .inl (nI c)), (2, .inl (nI t))], [], h) _
  refine jt_go jm_m158 0 4 (f' := (4, [(0, .inr (.inr (5, a, 0))), (1, .inl (nI c)), (2, .inl (nI t))], [.inl (nI 1), .inl (nI c), .inr (.inr (5, a, 0)), .inl (nI 1)], h)) (P := True) rfl trivial ?_
  refine jt_callp (w := .inl (nI (37 + 5 * c))) jm_m158 4 (mi' := 147) (as := [.inl (nI c), .inl (nI 1)]) (rest := [.inr (.inr (5, a, 0)), .inl (nI 1)]) (nxt := 7) rfl rfl jm_m147 rfl rfl (tb_ofC (k := 37 + 5 * c) (by omega)) ?_
  refine jt_go jm_m158 5 1 (f' := (8, [(0, .inr (.inr (5, a, 0))), (1, .inl (nI c)), (2, .inl (nI t))], [.inl (h (5, a, 0) (nI (37 + 5 * c)).toNatClampNeg), .inl (nI 1)], h)) (P := vp_in (nI (37 + 5 * c)) 78 ∧ True) rfl ⟨(vp_in_nI (by omega) (by decide)), trivial⟩ ?_
  refine jt_ti (show (h (5, a, 0) (nI (37 + 5 * c)).toNatClampNeg) = nI (g (37 + 5 * c)) from jg_get R (k := 37 + 5 * c) (nI_clamp (by omega)) (by omega)) ?_
  have bq1 := jw_fig W (c := c) (by omega)
  refine jt_go jm_m158 6 2 (f' := (10, [(0, .inr (.inr (5, a, 0))), (1, .inl (nI c)), (2, .inl (nI t))], [.inl ((nI (g (37 + 5 * c))) / (nI 4)), .inl (nI 1)], h)) (P := ¬ (nI 4) = 0 ∧ True) rfl ⟨(by decide), trivial⟩ ?_
  refine jt_ti (show ((nI (g (37 + 5 * c))) / (nI 4)) = nI (g (37 + 5 * c) / 4) from jx_d4 _ bq1) ?_
  refine jt_go jm_m158 8 1 (f' := (11, [(0, .inr (.inr (5, a, 0))), (1, .inl (nI c)), (2, .inl (nI t))], [.inl ((nI 1) + (nI (g (37 + 5 * c) / 4)))], h)) (P := True) rfl trivial ?_
  refine jt_ti (show ((nI 1) + (nI (g (37 + 5 * c) / 4))) = nI (1 + (g (37 + 5 * c) / 4)) from nI_add _ _) ?_
  refine jt_go jm_m158 9 4 (f' := (15, [(3, .inl (nI (1 + (g (37 + 5 * c) / 4)))), (0, .inr (.inr (5, a, 0))), (1, .inl (nI c)), (2, .inl (nI t))], [.inl (nI 0), .inl (nI c), .inr (.inr (5, a, 0))], h)) (P := True) rfl trivial ?_
  refine jt_callp (w := .inl (nI (36 + 5 * c))) jm_m158 13 (mi' := 147) (as := [.inl (nI c), .inl (nI 0)]) (rest := [.inr (.inr (5, a, 0))]) (nxt := 18) rfl rfl jm_m147 rfl rfl (tb_ofC (k := 36 + 5 * c) (by omega)) ?_
  refine jt_go jm_m158 14 1 (f' := (19, [(3, .inl (nI (1 + (g (37 + 5 * c) / 4)))), (0, .inr (.inr (5, a, 0))), (1, .inl (nI c)), (2, .inl (nI t))], [.inl (h (5, a, 0) (nI (36 + 5 * c)).toNatClampNeg)], h)) (P := vp_in (nI (36 + 5 * c)) 78 ∧ True) rfl ⟨(vp_in_nI (by omega) (by decide)), trivial⟩ ?_
  refine jt_ti (show (h (5, a, 0) (nI (36 + 5 * c)).toNatClampNeg) = nI (g (36 + 5 * c)) from jg_get R (k := 36 + 5 * c) (nI_clamp (by omega)) (by omega)) ?_
  have bq2 := jw_kind W (c := c) (by omega)
  refine jt_ts jm_m158 15 rfl ⟨fun d0 => ?_, fun d0 => ⟨fun d1 => ?_, fun d1 => ⟨fun d2 => ?_, fun d2 => ⟨fun d3 => ?_, fun d3 => ⟨fun d4 => ?_, fun d4 => ⟨fun d5 => ?_, fun d5 => ?_⟩⟩⟩⟩⟩⟩
  · have d0 : g (36 + 5 * c) = 2 := nI_inj (by omega) (by decide) d0
    show jt_T 158 (56, [(3, .inl (nI (1 + (g (37 + 5 * c) / 4)))), (0, .inr (.inr (5, a, 0))), (1, .inl (nI c)), (2, .inl (nI t))], [], h) _
    refine jt_go jm_m158 16 3 (f' := (59, [(3, .inl (nI (1 + (g (37 + 5 * c) / 4)))), (0, .inr (.inr (5, a, 0))), (1, .inl (nI c)), (2, .inl (nI t))], [.inl ((nI (1 + (g (37 + 5 * c) / 4))) + (nI 1))], h)) (P := True) rfl trivial ?_
    refine jt_ti (show ((nI (1 + (g (37 + 5 * c) / 4))) + (nI 1)) = nI (1 + (g (37 + 5 * c) / 4) + 1) from nI_add _ _) ?_
    refine jt_iret jm_m158 19 rfl ?_
    exact ⟨jt_ln (by rw [d0]; rfl), rfl⟩
  · have d1 : g (36 + 5 * c) = 3 := nI_inj (by omega) (by decide) d1
    show jt_T 158 (80, [(3, .inl (nI (1 + (g (37 + 5 * c) / 4)))), (0, .inr (.inr (5, a, 0))), (1, .inl (nI c)), (2, .inl (nI t))], [], h) _
    refine jt_go jm_m158 36 1 (f' := (81, [(3, .inl (nI (1 + (g (37 + 5 * c) / 4)))), (0, .inr (.inr (5, a, 0))), (1, .inl (nI c)), (2, .inl (nI t))], [.inl (nI (1 + (g (37 + 5 * c) / 4)))], h)) (P := True) rfl trivial ?_
    refine jt_iret jm_m158 37 rfl ?_
    exact ⟨jt_ln (by rw [d1]; rfl), rfl⟩
  · have d2 : g (36 + 5 * c) = 4 := nI_inj (by omega) (by decide) d2
    show jt_T 158 (60, [(3, .inl (nI (1 + (g (37 + 5 * c) / 4)))), (0, .inr (.inr (5, a, 0))), (1, .inl (nI c)), (2, .inl (nI t))], [], h) _
    refine jt_go jm_m158 20 1 (f' := (61, [(3, .inl (nI (1 + (g (37 + 5 * c) / 4)))), (0, .inr (.inr (5, a, 0))), (1, .inl (nI c)), (2, .inl (nI t))], [.inl (nI 3)], h)) (P := True) rfl trivial ?_
    refine jt_iret jm_m158 21 rfl ?_
    exact ⟨jt_ln (by rw [d2]; rfl), rfl⟩
  · have d3 : g (36 + 5 * c) = 5 := nI_inj (by omega) (by decide) d3
    show jt_T 158 (80, [(3, .inl (nI (1 + (g (37 + 5 * c) / 4)))), (0, .inr (.inr (5, a, 0))), (1, .inl (nI c)), (2, .inl (nI t))], [], h) _
    refine jt_go jm_m158 36 1 (f' := (81, [(3, .inl (nI (1 + (g (37 + 5 * c) / 4)))), (0, .inr (.inr (5, a, 0))), (1, .inl (nI c)), (2, .inl (nI t))], [.inl (nI (1 + (g (37 + 5 * c) / 4)))], h)) (P := True) rfl trivial ?_
    refine jt_iret jm_m158 37 rfl ?_
    exact ⟨jt_ln (by rw [d3]; rfl), rfl⟩
  · have d4 : g (36 + 5 * c) = 6 := nI_inj (by omega) (by decide) d4
    show jt_T 158 (62, [(3, .inl (nI (1 + (g (37 + 5 * c) / 4)))), (0, .inr (.inr (5, a, 0))), (1, .inl (nI c)), (2, .inl (nI t))], [], h) _
    refine jt_go jm_m158 22 4 (f' := (66, [(3, .inl (nI (1 + (g (37 + 5 * c) / 4)))), (0, .inr (.inr (5, a, 0))), (1, .inl (nI c)), (2, .inl (nI t))], [.inl ((nI (1 + (g (37 + 5 * c) / 4))) + (nI 1)), .inl (nI 2)], h)) (P := True) rfl trivial ?_
    refine jt_ti (show ((nI (1 + (g (37 + 5 * c) / 4))) + (nI 1)) = nI (1 + (g (37 + 5 * c) / 4) + 1) from nI_add _ _) ?_
    refine jt_go jm_m158 26 1 (f' := (67, [(3, .inl (nI (1 + (g (37 + 5 * c) / 4)))), (0, .inr (.inr (5, a, 0))), (1, .inl (nI c)), (2, .inl (nI t))], [.inl ((nI 2) * (nI (1 + (g (37 + 5 * c) / 4) + 1)))], h)) (P := True) rfl trivial ?_
    refine jt_ti (show ((nI 2) * (nI (1 + (g (37 + 5 * c) / 4) + 1))) = nI (2 * (1 + (g (37 + 5 * c) / 4) + 1)) from nI_mul _ _) ?_
    refine jt_iret jm_m158 27 rfl ?_
    exact ⟨jt_ln (by rw [d4]; rfl), rfl⟩
  · have d5 : g (36 + 5 * c) = 7 := nI_inj (by omega) (by decide) d5
    show jt_T 158 (68, [(3, .inl (nI (1 + (g (37 + 5 * c) / 4)))), (0, .inr (.inr (5, a, 0))), (1, .inl (nI c)), (2, .inl (nI t))], [], h) _
    refine jt_go jm_m158 28 3 (f' := (71, [(3, .inl (nI (1 + (g (37 + 5 * c) / 4)))), (0, .inr (.inr (5, a, 0))), (1, .inl (nI c)), (2, .inl (nI t))], [.inl ((nI t) - (nI t) / (nI 3) * (nI 3))], h)) (P := ¬ (nI 3) = 0 ∧ True) rfl ⟨(by decide), trivial⟩ ?_
    refine jt_ti (show ((nI t) - (nI t) / (nI 3) * (nI 3)) = nI (t % 3) from jx_r3 _ ht) ?_
    refine jt_nifne jm_m158 31 (by omega) (tgt := 78) (nxt := 74) rfl rfl rfl (fun c71 => ?_) (fun c71 => ?_)
    · refine jt_go jm_m158 34 1 (f' := (79, [(3, .inl (nI (1 + (g (37 + 5 * c) / 4)))), (0, .inr (.inr (5, a, 0))), (1, .inl (nI c)), (2, .inl (nI t))], [.inl (nI 0)], h)) (P := True) rfl trivial ?_
      refine jt_iret jm_m158 35 rfl ?_
      exact ⟨jt_ln (by rw [d5]; exact (if_neg c71).symm), rfl⟩
    · refine jt_go jm_m158 32 2 (f' := (79, [(3, .inl (nI (1 + (g (37 + 5 * c) / 4)))), (0, .inr (.inr (5, a, 0))), (1, .inl (nI c)), (2, .inl (nI t))], [.inl (nI 1)], h)) (P := True) rfl trivial ?_
      refine jt_iret jm_m158 35 rfl ?_
      exact ⟨jt_ln (by rw [d5]; exact (if_pos c71).symm), rfl⟩
  · have d0 : ¬ g (36 + 5 * c) = 2 := fun z => d0 (by rw [z]; rfl)
    have d1 : ¬ g (36 + 5 * c) = 3 := fun z => d1 (by rw [z]; rfl)
    have d2 : ¬ g (36 + 5 * c) = 4 := fun z => d2 (by rw [z]; rfl)
    have d3 : ¬ g (36 + 5 * c) = 5 := fun z => d3 (by rw [z]; rfl)
    have d4 : ¬ g (36 + 5 * c) = 6 := fun z => d4 (by rw [z]; rfl)
    have d5 : ¬ g (36 + 5 * c) = 7 := fun z => d5 (by rw [z]; rfl)
    show jt_T 158 (80, [(3, .inl (nI (1 + (g (37 + 5 * c) / 4)))), (0, .inr (.inr (5, a, 0))), (1, .inl (nI c)), (2, .inl (nI t))], [], h) _
    refine jt_go jm_m158 36 1 (f' := (81, [(3, .inl (nI (1 + (g (37 + 5 * c) / 4)))), (0, .inr (.inr (5, a, 0))), (1, .inl (nI c)), (2, .inl (nI t))], [.inl (nI (1 + (g (37 + 5 * c) / 4)))], h)) (P := True) rfl trivial ?_
    refine jt_iret jm_m158 37 rfl ?_
    exact ⟨jt_ln (by have hk := jw_kind W (c := c) hc; rcases (show g (36 + 5 * c) = 0 ∨ g (36 + 5 * c) = 1 by omega) with q | q <;> rw [q] <;> rfl), rfl⟩
set_option maxHeartbeats 4000000 in
set_option maxRecDepth 20000 in
theorem tb_grow {h : jm_M} {k : Nat} (hk : k < 8) : jt_Pu 159 [.inl (nI k)] h (.inl (nI (sp_grow k))) := by
  show jt_T 159 (0, [(0, .inl (nI k))], [], h) _
  refine jt_go jm_m159 0 2 (f' := (2, [(0, .inl (nI k))], [.inl (nI 3), .inl (nI k)], h)) (P := True) rfl trivial ?_
  refine jt_nicne jm_m159 2 (a := k) (b := 3) (by omega) (by omega) (tgt := 9) (nxt := 5) rfl rfl rfl (fun c2 => ?_) (fun c2 => ?_)
  · refine jt_go jm_m159 5 2 (f' := (11, [(0, .inl (nI k))], [.inl (nI 5), .inl (nI k)], h)) (P := True) rfl trivial ?_
    refine jt_nicne jm_m159 7 (a := k) (b := 5) (by omega) (by omega) (tgt := 18) (nxt := 14) rfl rfl rfl (fun c11 => ?_) (fun c11 => ?_)
    · refine jt_go jm_m159 10 1 (f' := (19, [(0, .inl (nI k))], [.inl (nI 1)], h)) (P := True) rfl trivial ?_
      refine jt_iret jm_m159 11 rfl ?_
      exact ⟨jt_ln (by rcases jt_k8 hk with q | q | q | q | q | q | q | q <;> first | omega | (rw [q]; rfl)), rfl⟩
    · refine jt_go jm_m159 8 2 (f' := (19, [(0, .inl (nI k))], [.inl (nI 0)], h)) (P := True) rfl trivial ?_
      refine jt_iret jm_m159 11 rfl ?_
      exact ⟨jt_ln (by rw [c11]; rfl), rfl⟩
  · refine jt_go jm_m159 3 2 (f' := (19, [(0, .inl (nI k))], [.inl (nI 2)], h)) (P := True) rfl trivial ?_
    refine jt_iret jm_m159 11 rfl ?_
    exact ⟨jt_ln (by rw [c2]; rfl), rfl⟩
set_option maxHeartbeats 4000000 in
set_option maxRecDepth 20000 in
theorem tb_read {h : jm_M} {a : Nat} {g : Nat → Nat} (R : jg_rel h a g) (W : jw g) {c : Nat} (hc : c < 6) : jt_Pu 160 [.inr (.inr (5, a, 0)), .inl (nI c)] h (.inl (jm_b (sp_read g c))) := by
  show jt_T 160 (0, [(0, .inr (.inr (5, a, 0))), (1, .inl (nI c))], [], h) _
  refine jt_go jm_m160 0 3 (f' := (3, [(0, .inr (.inr (5, a, 0))), (1, .inl (nI c))], [.inl (nI 4), .inl (nI c), .inr (.inr (5, a, 0))], h)) (P := True) rfl trivial ?_
  refine jt_callp (w := .inl (nI (40 + 5 * c))) jm_m160 3 (mi' := 147) (as := [.inl (nI c), .inl (nI 4)]) (rest := [.inr (.inr (5, a, 0))]) (nxt := 6) rfl rfl jm_m147 rfl rfl (tb_ofC (k := 40 + 5 * c) (by omega)) ?_
  refine jt_go jm_m160 4 1 (f' := (7, [(0, .inr (.inr (5, a, 0))), (1, .inl (nI c))], [.inl (h (5, a, 0) (nI (40 + 5 * c)).toNatClampNeg)], h)) (P := vp_in (nI (40 + 5 * c)) 78 ∧ True) rfl ⟨(vp_in_nI (by omega) (by decide)), trivial⟩ ?_
  refine jt_ti (show (h (5, a, 0) (nI (40 + 5 * c)).toNatClampNeg) = nI (g (40 + 5 * c)) from jg_get R (k := 40 + 5 * c) (nI_clamp (by omega)) (by omega)) ?_
  have bq1 := jw_name W (c := c) (by omega)
  refine jt_go jm_m160 5 1 (f' := (9, [(0, .inr (.inr (5, a, 0))), (1, .inl (nI c))], [.inl (nI 9), .inl (nI (g (40 + 5 * c)))], h)) (P := True) rfl trivial ?_
  refine jt_niceq jm_m160 6 (a := g (40 + 5 * c)) (b := 9) (by omega) (by omega) (tgt := 39) (nxt := 12) rfl rfl rfl (fun c9 => ?_) (fun c9 => ?_)
  · refine jt_go jm_m160 23 1 (f' := (40, [(0, .inr (.inr (5, a, 0))), (1, .inl (nI c))], [.inl (nI 0)], h)) (P := True) rfl trivial ?_
    refine jt_zret jm_m160 24 rfl (Or.inl rfl) ?_
    exact ⟨jt_lb0 (by omega), rfl⟩
  · refine jt_go jm_m160 7 3 (f' := (15, [(0, .inr (.inr (5, a, 0))), (1, .inl (nI c))], [.inl (nI 0), .inl (nI c), .inr (.inr (5, a, 0))], h)) (P := True) rfl trivial ?_
    refine jt_callp (w := .inl (nI (36 + 5 * c))) jm_m160 10 (mi' := 147) (as := [.inl (nI c), .inl (nI 0)]) (rest := [.inr (.inr (5, a, 0))]) (nxt := 18) rfl rfl jm_m147 rfl rfl (tb_ofC (k := 36 + 5 * c) (by omega)) ?_
    refine jt_go jm_m160 11 1 (f' := (19, [(0, .inr (.inr (5, a, 0))), (1, .inl (nI c))], [.inl (h (5, a, 0) (nI (36 + 5 * c)).toNatClampNeg)], h)) (P := vp_in (nI (36 + 5 * c)) 78 ∧ True) rfl ⟨(vp_in_nI (by omega) (by decide)), trivial⟩ ?_
    refine jt_ti (show (h (5, a, 0) (nI (36 + 5 * c)).toNatClampNeg) = nI (g (36 + 5 * c)) from jg_get R (k := 36 + 5 * c) (nI_clamp (by omega)) (by omega)) ?_
    have bq2 := jw_kind W (c := c) (by omega)
    refine jt_go jm_m160 12 1 (f' := (20, [(0, .inr (.inr (5, a, 0))), (1, .inl (nI c))], [.inl (nI 5), .inl (nI (g (36 + 5 * c)))], h)) (P := True) rfl trivial ?_
    refine jt_niceq jm_m160 13 (a := g (36 + 5 * c)) (b := 5) (by omega) (by omega) (tgt := 35) (nxt := 23) rfl rfl rfl (fun c20 => ?_) (fun c20 => ?_)
    · refine jt_go jm_m160 21 2 (f' := (40, [(0, .inr (.inr (5, a, 0))), (1, .inl (nI c))], [.inl (nI 1)], h)) (P := True) rfl trivial ?_
      refine jt_zret jm_m160 24 rfl (Or.inr rfl) ?_
      exact ⟨jt_lb1 (by constructor <;> omega), rfl⟩
    · refine jt_go jm_m160 14 3 (f' := (26, [(0, .inr (.inr (5, a, 0))), (1, .inl (nI c))], [.inl (nI 3), .inl (nI c), .inr (.inr (5, a, 0))], h)) (P := True) rfl trivial ?_
      refine jt_callp (w := .inl (nI (39 + 5 * c))) jm_m160 17 (mi' := 147) (as := [.inl (nI c), .inl (nI 3)]) (rest := [.inr (.inr (5, a, 0))]) (nxt := 29) rfl rfl jm_m147 rfl rfl (tb_ofC (k := 39 + 5 * c) (by omega)) ?_
      refine jt_go jm_m160 18 1 (f' := (30, [(0, .inr (.inr (5, a, 0))), (1, .inl (nI c))], [.inl (h (5, a, 0) (nI (39 + 5 * c)).toNatClampNeg)], h)) (P := vp_in (nI (39 + 5 * c)) 78 ∧ True) rfl ⟨(vp_in_nI (by omega) (by decide)), trivial⟩ ?_
      refine jt_ti (show (h (5, a, 0) (nI (39 + 5 * c)).toNatClampNeg) = nI (g (39 + 5 * c)) from jg_get R (k := 39 + 5 * c) (nI_clamp (by omega)) (by omega)) ?_
      have bq3 := jw_hair W (c := c) (by omega)
      refine jt_go jm_m160 19 1 (f' := (32, [(0, .inr (.inr (5, a, 0))), (1, .inl (nI c))], [.inl (nI 48), .inl (nI (g (39 + 5 * c)))], h)) (P := True) rfl trivial ?_
      refine jt_nicge jm_m160 20 (a := g (39 + 5 * c)) (b := 48) (by omega) (by omega) (tgt := 39) (nxt := 35) rfl rfl rfl (fun c32 => ?_) (fun c32 => ?_)
      · refine jt_go jm_m160 23 1 (f' := (40, [(0, .inr (.inr (5, a, 0))), (1, .inl (nI c))], [.inl (nI 0)], h)) (P := True) rfl trivial ?_
        refine jt_zret jm_m160 24 rfl (Or.inl rfl) ?_
        exact ⟨jt_lb0 (by omega), rfl⟩
      · refine jt_go jm_m160 21 2 (f' := (40, [(0, .inr (.inr (5, a, 0))), (1, .inl (nI c))], [.inl (nI 1)], h)) (P := True) rfl trivial ?_
        refine jt_zret jm_m160 24 rfl (Or.inr rfl) ?_
        exact ⟨jt_lb1 (by constructor <;> omega), rfl⟩
set_option maxHeartbeats 4000000 in
set_option maxRecDepth 20000 in
theorem tb_pass {h : jm_M} {a : Nat} {g : Nat → Nat} (R : jg_rel h a g) (W : jw g) {c : Nat} (hc : c < g 0) {fm : Nat} (hf : fm ≤ 1) : jt_T 161 (0, [(0, .inr (.inr (5, a, 0))), (1, .inl (nI c)), (2, .inl (nI fm))], [], h) (fun u h' => u = none ∧ jg_rel h' a (sp_pass g c fm) ∧ jg_fr a h h') := by
  have bn := jw_n W
  have bm := jw_m W
  have bt := jw_t W
  have bq := jw_nm W hc
  refine jt_go jm_m161 0 3 (f' := (3, [(0, .inr (.inr (5, a, 0))), (1, .inl (nI c)), (2, .inl (nI fm))], [.inl (nI 4), .inl (nI c), .inr (.inr (5, a, 0))], h)) (P := True) rfl trivial ?_
  refine jt_callp (w := .inl (nI (40 + 5 * c))) jm_m161 3 (mi' := 147) (as := [.inl (nI c), .inl (nI 4)]) (rest := [.inr (.inr (5, a, 0))]) (nxt := 6) rfl rfl jm_m147 rfl rfl (tb_ofC (k := 40 + 5 * c) (by omega)) ?_
  refine jt_go jm_m161 4 1 (f' := (7, [(0, .inr (.inr (5, a, 0))), (1, .inl (nI c)), (2, .inl (nI fm))], [.inl (h (5, a, 0) (nI (40 + 5 * c)).toNatClampNeg)], h)) (P := vp_in (nI (40 + 5 * c)) 78 ∧ True) rfl ⟨(vp_in_nI (by omega) (by decide)), trivial⟩ ?_
  refine jt_ti (show (h (5, a, 0) (nI (40 + 5 * c)).toNatClampNeg) = nI (g (40 + 5 * c)) from jg_get R (k := 40 + 5 * c) (nI_clamp (by omega)) (by omega)) ?_
  have bq1 := jw_name W (c := c) (by omega)
  refine jt_go jm_m161 5 3 (f' := (10, [(3, .inl (nI (g (40 + 5 * c)))), (0, .inr (.inr (5, a, 0))), (1, .inl (nI c)), (2, .inl (nI fm))], [.inl (nI c), .inr (.inr (5, a, 0))], h)) (P := True) rfl trivial ?_
  refine jt_callp (w := .inl (jm_b (sp_read g c))) jm_m161 8 (mi' := 160) (as := [.inr (.inr (5, a, 0)), .inl (nI c)]) (rest := []) (nxt := 13) rfl rfl jm_m160 rfl rfl (tb_read R W (by omega)) ?_
  refine jt_ifbeq jm_m161 9 (tgt := 38) (nxt := 16) rfl rfl rfl (fun c13 => ?_) (fun c13 => ?_)
  · refine jt_vret jm_m161 24 rfl ?_
    refine ⟨rfl, ?_, jg_fr_rf⟩
    unfold sp_pass
    rw [if_neg (fun z => c13 z.1)]
    exact R
  · have bnm : g (40 + 5 * c) < g 1 := bq.resolve_left c13.1
    refine jt_go jm_m161 10 3 (f' := (19, [(3, .inl (nI (g (40 + 5 * c)))), (0, .inr (.inr (5, a, 0))), (1, .inl (nI c)), (2, .inl (nI fm))], [.inl (nI 1), .inl (nI (g (40 + 5 * c))), .inr (.inr (5, a, 0))], h)) (P := True) rfl trivial ?_
    refine jt_callp (w := .inl (nI (67 + 2 * (g (40 + 5 * c))))) jm_m161 13 (mi' := 148) (as := [.inl (nI (g (40 + 5 * c))), .inl (nI 1)]) (rest := [.inr (.inr (5, a, 0))]) (nxt := 22) rfl rfl jm_m148 rfl rfl (tb_ofM (k := 67 + 2 * (g (40 + 5 * c))) (by omega)) ?_
    refine jt_go jm_m161 14 1 (f' := (23, [(3, .inl (nI (g (40 + 5 * c)))), (0, .inr (.inr (5, a, 0))), (1, .inl (nI c)), (2, .inl (nI fm))], [.inl (h (5, a, 0) (nI (67 + 2 * (g (40 + 5 * c)))).toNatClampNeg)], h)) (P := vp_in (nI (67 + 2 * (g (40 + 5 * c)))) 78 ∧ True) rfl ⟨(vp_in_nI (by omega) (by decide)), trivial⟩ ?_
    refine jt_ti (show (h (5, a, 0) (nI (67 + 2 * (g (40 + 5 * c)))).toNatClampNeg) = nI (g (67 + 2 * (g (40 + 5 * c)))) from jg_get R (k := 67 + 2 * (g (40 + 5 * c))) (nI_clamp (by omega)) (by omega)) ?_
    have bq2 := jw_pas W (c := (g (40 + 5 * c))) (by omega)
    refine jt_go jm_m161 15 1 (f' := (24, [(3, .inl (nI (g (40 + 5 * c)))), (0, .inr (.inr (5, a, 0))), (1, .inl (nI c)), (2, .inl (nI fm))], [.inl (nI 1), .inl (nI (g (67 + 2 * (g (40 + 5 * c)))))], h)) (P := True) rfl trivial ?_
    refine jt_niceq jm_m161 16 (a := g (67 + 2 * (g (40 + 5 * c)))) (b := 1) (by omega) (by omega) (tgt := 38) (nxt := 27) rfl rfl rfl (fun c24 => ?_) (fun c24 => ?_)
    · refine jt_vret jm_m161 24 rfl ?_
      refine ⟨rfl, ?_, jg_fr_rf⟩
      unfold sp_pass
      rw [if_neg (fun z => absurd (c24.symm.trans z.2.2) (by decide))]
      exact R
    · refine jt_go jm_m161 17 3 (f' := (30, [(3, .inl (nI (g (40 + 5 * c)))), (0, .inr (.inr (5, a, 0))), (1, .inl (nI c)), (2, .inl (nI fm))], [.inl (nI 0), .inl (nI (g (40 + 5 * c))), .inr (.inr (5, a, 0))], h)) (P := True) rfl trivial ?_
      refine jt_callp (w := .inl (nI (66 + 2 * (g (40 + 5 * c))))) jm_m161 20 (mi' := 148) (as := [.inl (nI (g (40 + 5 * c))), .inl (nI 0)]) (rest := [.inr (.inr (5, a, 0))]) (nxt := 33) rfl rfl jm_m148 rfl rfl (tb_ofM (k := 66 + 2 * (g (40 + 5 * c))) (by omega)) ?_
      refine jt_go jm_m161 21 1 (f' := (34, [(3, .inl (nI (g (40 + 5 * c)))), (0, .inr (.inr (5, a, 0))), (1, .inl (nI c)), (2, .inl (nI fm))], [.inl (h (5, a, 0) (nI (66 + 2 * (g (40 + 5 * c)))).toNatClampNeg)], h)) (P := vp_in (nI (66 + 2 * (g (40 + 5 * c)))) 78 ∧ True) rfl ⟨(vp_in_nI (by omega) (by decide)), trivial⟩ ?_
      refine jt_ti (show (h (5, a, 0) (nI (66 + 2 * (g (40 + 5 * c)))).toNatClampNeg) = nI (g (66 + 2 * (g (40 + 5 * c)))) from jg_get R (k := 66 + 2 * (g (40 + 5 * c))) (nI_clamp (by omega)) (by omega)) ?_
      have bq3 := jw_side W (c := (g (40 + 5 * c))) (by omega)
      refine jt_go jm_m161 22 1 (f' := (35, [(3, .inl (nI (g (40 + 5 * c)))), (0, .inr (.inr (5, a, 0))), (1, .inl (nI c)), (2, .inl (nI fm))], [.inl (nI fm), .inl (nI (g (66 + 2 * (g (40 + 5 * c)))))], h)) (P := True) rfl trivial ?_
      refine jt_niceq jm_m161 23 (a := g (66 + 2 * (g (40 + 5 * c)))) (b := fm) (by omega) (by omega) (tgt := 39) (nxt := 38) rfl rfl rfl (fun c35 => ?_) (fun c35 => ?_)
      · refine jt_go jm_m161 25 3 (f' := (42, [(3, .inl (nI (g (40 + 5 * c)))), (0, .inr (.inr (5, a, 0))), (1, .inl (nI c)), (2, .inl (nI fm))], [.inl (nI 1), .inl (nI (g (40 + 5 * c))), .inr (.inr (5, a, 0))], h)) (P := True) rfl trivial ?_
        refine jt_callp (w := .inl (nI (67 + 2 * (g (40 + 5 * c))))) jm_m161 28 (mi' := 148) (as := [.inl (nI (g (40 + 5 * c))), .inl (nI 1)]) (rest := [.inr (.inr (5, a, 0))]) (nxt := 45) rfl rfl jm_m148 rfl rfl (tb_ofM (k := 67 + 2 * (g (40 + 5 * c))) (by omega)) ?_
        refine jt_goM jm_m161 29 2 (pc' := 47) (L' := [(3, .inl (nI (g (40 + 5 * c)))), (0, .inr (.inr (5, a, 0))), (1, .inl (nI c)), (2, .inl (nI fm))]) (st' := []) (m' := jm_set h (5, a, 0) (upd (h (5, a, 0)) (nI (67 + 2 * (g (40 + 5 * c)))).toNatClampNeg (nI 1))) (P := vp_in (nI (67 + 2 * (g (40 + 5 * c)))) 78 ∧ True) rfl ⟨(vp_in_nI (by omega) (by decide)), trivial⟩ (fun h1 eh1 => ?_)
        have Fh1 : jg_fr a h h1 := by rw [eh1]; exact jg_fr_set jg_fr_rf
        obtain ⟨gh1, egh1⟩ : ∃ y, y = sp_up g (67 + 2 * (g (40 + 5 * c))) (1) := ⟨_, rfl⟩
        have Rh1 : jg_rel h1 a gh1 := by rw [eh1, egh1]; exact jg_set R (k := 67 + 2 * (g (40 + 5 * c))) (w := 1) (nI_clamp (by omega)) rfl
        refine jt_go jm_m161 31 3 (f' := (50, [(3, .inl (nI (g (40 + 5 * c)))), (0, .inr (.inr (5, a, 0))), (1, .inl (nI c)), (2, .inl (nI fm))], [.inl (nI 0), .inl (nI (g (40 + 5 * c))), .inr (.inr (5, a, 0))], h1)) (P := True) rfl trivial ?_
        refine jt_callp (w := .inl (nI (66 + 2 * (g (40 + 5 * c))))) jm_m161 34 (mi' := 148) (as := [.inl (nI (g (40 + 5 * c))), .inl (nI 0)]) (rest := [.inr (.inr (5, a, 0))]) (nxt := 53) rfl rfl jm_m148 rfl rfl (tb_ofM (k := 66 + 2 * (g (40 + 5 * c))) (by omega)) ?_
        refine jt_go jm_m161 35 3 (f' := (56, [(3, .inl (nI (g (40 + 5 * c)))), (0, .inr (.inr (5, a, 0))), (1, .inl (nI c)), (2, .inl (nI fm))], [.inl ((nI 1) - (nI fm)), .inl (nI (66 + 2 * (g (40 + 5 * c)))), .inr (.inr (5, a, 0))], h1)) (P := True) rfl trivial ?_
        refine jt_ti (show ((nI 1) - (nI fm)) = nI (1 - fm) from nI_subN (by omega)) ?_
        refine jt_goM jm_m161 38 1 (pc' := 57) (L' := [(3, .inl (nI (g (40 + 5 * c)))), (0, .inr (.inr (5, a, 0))), (1, .inl (nI c)), (2, .inl (nI fm))]) (st' := []) (m' := jm_set h1 (5, a, 0) (upd (h1 (5, a, 0)) (nI (66 + 2 * (g (40 + 5 * c)))).toNatClampNeg (nI (1 - fm)))) (P := vp_in (nI (66 + 2 * (g (40 + 5 * c)))) 78 ∧ True) rfl ⟨(vp_in_nI (by omega) (by decide)), trivial⟩ (fun h2 eh2 => ?_)
        have Fh2 : jg_fr a h h2 := by rw [eh2]; exact jg_fr_set Fh1
        obtain ⟨gh2, egh2⟩ : ∃ y, y = sp_up gh1 (66 + 2 * (g (40 + 5 * c))) (1 - fm) := ⟨_, rfl⟩
        have Rh2 : jg_rel h2 a gh2 := by rw [eh2, egh2]; exact jg_set Rh1 (k := 66 + 2 * (g (40 + 5 * c))) (w := 1 - fm) (nI_clamp (by omega)) rfl
        refine jt_vret jm_m161 39 rfl ?_
        refine ⟨rfl, ?_, Fh2⟩
        unfold sp_pass
        rw [if_pos ⟨c13, c35, by omega⟩, ← egh1, ← egh2]
        exact Rh2
      · refine jt_vret jm_m161 24 rfl ?_
        refine ⟨rfl, ?_, jg_fr_rf⟩
        unfold sp_pass
        rw [if_neg (fun z => c35 z.2.1)]
        exact R
set_option maxHeartbeats 4000000 in
set_option maxRecDepth 20000 in
theorem tb_goes0 {h : jm_M} {a : Nat} {g : Nat → Nat} (R : jg_rel h a g) (W : jw g) {c : Nat} (hc : c < g 0) : jt_T 162 (0, [(0, .inr (.inr (5, a, 0))), (1, .inl (nI c)), (2, .inl (nI 0))], [], h) (fun u h' => u = some (.inl (jm_b (sp_sd (g (38 + 5 * c)) ≠ sp_sd (sp_gone g c false (38 + 5 * c))))) ∧ jg_rel h' a (sp_one g c false) ∧ jg_fr a h h') := by
  have bn := jw_n W
  have bm := jw_m W
  have bt := jw_t W
  have ba := jw_at W (c := c) (by omega)
  have bp : sp_pace (g (36 + 5 * c)) (g (37 + 5 * c)) (g 2) ≤ 8 := sp_pace_le (jw_fig W (by omega))
  have bs := sp_toc_lt W hc
  have bg : sp_goal g c < 16 := sp_goalK_lt W hc _
  have Wm := jw_move W hc
  have em : ∀ i, 36 ≤ i → i ≠ 38 + 5 * c → sp_move g c i = g i := fun i h1 h2 => sp_move_ne (by omega) h2
  have hcm : c < sp_move g c 0 := by rw [sp_move_ne (by omega) (by omega)]; exact hc
  refine jt_go jm_m162 0 3 (f' := (3, [(0, .inr (.inr (5, a, 0))), (1, .inl (nI c)), (2, .inl (nI 0))], [.inl (nI 2), .inl (nI c), .inr (.inr (5, a, 0))], h)) (P := True) rfl trivial ?_
  refine jt_callp (w := .inl (nI (38 + 5 * c))) jm_m162 3 (mi' := 147) (as := [.inl (nI c), .inl (nI 2)]) (rest := [.inr (.inr (5, a, 0))]) (nxt := 6) rfl rfl jm_m147 rfl rfl (tb_ofC (k := 38 + 5 * c) (by omega)) ?_
  refine jt_go jm_m162 4 1 (f' := (7, [(0, .inr (.inr (5, a, 0))), (1, .inl (nI c)), (2, .inl (nI 0))], [.inl (h (5, a, 0) (nI (38 + 5 * c)).toNatClampNeg)], h)) (P := vp_in (nI (38 + 5 * c)) 78 ∧ True) rfl ⟨(vp_in_nI (by omega) (by decide)), trivial⟩ ?_
  refine jt_ti (show (h (5, a, 0) (nI (38 + 5 * c)).toNatClampNeg) = nI (g (38 + 5 * c)) from jg_get R (k := 38 + 5 * c) (nI_clamp (by omega)) (by omega)) ?_
  have bq1 := jw_at W (c := c) (by omega)
  refine jt_go jm_m162 5 2 (f' := (9, [(3, .inl (nI (g (38 + 5 * c)))), (0, .inr (.inr (5, a, 0))), (1, .inl (nI c)), (2, .inl (nI 0))], [.inl (nI 0)], h)) (P := True) rfl trivial ?_
  refine jt_nifeq jm_m162 7 (by omega) (tgt := 16) (nxt := 12) rfl rfl rfl (fun c9 => ?_) (fun c9 => ?_)
  · refine jt_go jm_m162 10 2 (f' := (18, [(3, .inl (nI (g (38 + 5 * c)))), (0, .inr (.inr (5, a, 0))), (1, .inl (nI c)), (2, .inl (nI 0))], [.inl (nI c), .inr (.inr (5, a, 0))], h)) (P := True) rfl trivial ?_
    refine jt_callp (w := .inl (nI (sp_goal g c))) jm_m162 12 (mi' := 157) (as := [.inr (.inr (5, a, 0)), .inl (nI c)]) (rest := []) (nxt := 21) rfl rfl jm_m157 rfl rfl (tb_goal R W hc) ?_
    refine jt_go jm_m162 13 3 (f' := (26, [(4, .inl (nI (sp_goal g c))), (3, .inl (nI (g (38 + 5 * c)))), (0, .inr (.inr (5, a, 0))), (1, .inl (nI c)), (2, .inl (nI 0))], [.inl (nI (sp_goal g c)), .inl (nI (g (38 + 5 * c)))], h)) (P := True) rfl trivial ?_
    refine jt_callp (w := .inl (nI (sp_ap (g (38 + 5 * c)) (sp_goal g c)))) jm_m162 16 (mi' := 145) (as := [.inl (nI (g (38 + 5 * c))), .inl (nI (sp_goal g c))]) (rest := []) (nxt := 29) rfl rfl jm_m145 rfl rfl (tb_apart (by omega) (by omega)) ?_
    have bq2 : sp_ap (g (38 + 5 * c)) (sp_goal g c) < 16 := sp_ap_lt (by omega) (by omega)
    refine jt_go jm_m162 17 5 (f' := (34, [(4, .inl (nI (sp_goal g c))), (3, .inl (nI (g (38 + 5 * c)))), (0, .inr (.inr (5, a, 0))), (1, .inl (nI c)), (2, .inl (nI 0))], [.inl (h (5, a, 0) (nI 2).toNatClampNeg), .inl (nI c), .inr (.inr (5, a, 0)), .inl (nI (sp_ap (g (38 + 5 * c)) (sp_goal g c)))], h)) (P := vp_in (nI 2) 78 ∧ True) rfl ⟨(vp_in_nI (by omega) (by decide)), trivial⟩ ?_
    refine jt_ti (show (h (5, a, 0) (nI 2).toNatClampNeg) = nI (g 2) from jg_get R (k := 2) (nI_clamp (by omega)) (by omega)) ?_
    have bq3 := jw_t W
    refine jt_callp (w := .inl (nI (sp_pace (g (36 + 5 * c)) (g (37 + 5 * c)) (g 2)))) jm_m162 22 (mi' := 158) (as := [.inr (.inr (5, a, 0)), .inl (nI c), .inl (nI (g 2))]) (rest := [.inl (nI (sp_ap (g (38 + 5 * c)) (sp_goal g c)))]) (nxt := 37) rfl rfl jm_m158 rfl rfl (tb_pace R W (by omega) bt) ?_
    refine jt_callp (w := .inl (nI (min (sp_ap (g (38 + 5 * c)) (sp_goal g c)) (sp_pace (g (36 + 5 * c)) (g (37 + 5 * c)) (g 2))))) jm_m162 23 (mi' := 144) (as := [.inl (nI (sp_ap (g (38 + 5 * c)) (sp_goal g c))), .inl (nI (sp_pace (g (36 + 5 * c)) (g (37 + 5 * c)) (g 2)))]) (rest := []) (nxt := 40) rfl rfl jm_m144 rfl rfl (tb_least (by omega) (by omega)) ?_
    refine jt_go jm_m162 24 3 (f' := (45, [(5, .inl (nI (min (sp_ap (g (38 + 5 * c)) (sp_goal g c)) (sp_pace (g (36 + 5 * c)) (g (37 + 5 * c)) (g 2))))), (4, .inl (nI (sp_goal g c))), (3, .inl (nI (g (38 + 5 * c)))), (0, .inr (.inr (5, a, 0))), (1, .inl (nI c)), (2, .inl (nI 0))], [.inl (nI (g (38 + 5 * c))), .inl (nI (sp_goal g c))], h)) (P := True) rfl trivial ?_
    refine jt_nicle jm_m162 27 (a := sp_goal g c) (b := g (38 + 5 * c)) (by omega) (by omega) (tgt := 55) (nxt := 48) rfl rfl rfl (fun c45 => ?_) (fun c45 => ?_)
    · have bap := sp_ap_ge c45
      refine jt_go jm_m162 32 3 (f' := (59, [(5, .inl (nI (min (sp_ap (g (38 + 5 * c)) (sp_goal g c)) (sp_pace (g (36 + 5 * c)) (g (37 + 5 * c)) (g 2))))), (4, .inl (nI (sp_goal g c))), (3, .inl (nI (g (38 + 5 * c)))), (0, .inr (.inr (5, a, 0))), (1, .inl (nI c)), (2, .inl (nI 0))], [.inl ((nI (g (38 + 5 * c))) - (nI (min (sp_ap (g (38 + 5 * c)) (sp_goal g c)) (sp_pace (g (36 + 5 * c)) (g (37 + 5 * c)) (g 2)))))], h)) (P := True) rfl trivial ?_
      refine jt_ti (show ((nI (g (38 + 5 * c))) - (nI (min (sp_ap (g (38 + 5 * c)) (sp_goal g c)) (sp_pace (g (36 + 5 * c)) (g (37 + 5 * c)) (g 2))))) = nI (sp_toc g c) from by rw [nI_subN (by omega), bap]; exact congrArg nI (show g (38 + 5 * c) - min (g (38 + 5 * c) - sp_goal g c) (sp_pace (g (36 + 5 * c)) (g (37 + 5 * c)) (g 2)) = sp_toc g c from (if_neg (by omega)).symm)) ?_
      refine jt_go jm_m162 35 4 (f' := (64, [(6, .inl (nI (sp_toc g c))), (5, .inl (nI (min (sp_ap (g (38 + 5 * c)) (sp_goal g c)) (sp_pace (g (36 + 5 * c)) (g (37 + 5 * c)) (g 2))))), (4, .inl (nI (sp_goal g c))), (3, .inl (nI (g (38 + 5 * c)))), (0, .inr (.inr (5, a, 0))), (1, .inl (nI c)), (2, .inl (nI 0))], [.inl (nI 2), .inl (nI c), .inr (.inr (5, a, 0))], h)) (P := True) rfl trivial ?_
      refine jt_callp (w := .inl (nI (38 + 5 * c))) jm_m162 39 (mi' := 147) (as := [.inl (nI c), .inl (nI 2)]) (rest := [.inr (.inr (5, a, 0))]) (nxt := 67) rfl rfl jm_m147 rfl rfl (tb_ofC (k := 38 + 5 * c) (by omega)) ?_
      refine jt_goM jm_m162 40 2 (pc' := 70) (L' := [(6, .inl (nI (sp_toc g c))), (5, .inl (nI (min (sp_ap (g (38 + 5 * c)) (sp_goal g c)) (sp_pace (g (36 + 5 * c)) (g (37 + 5 * c)) (g 2))))), (4, .inl (nI (sp_goal g c))), (3, .inl (nI (g (38 + 5 * c)))), (0, .inr (.inr (5, a, 0))), (1, .inl (nI c)), (2, .inl (nI 0))]) (st' := []) (m' := jm_set h (5, a, 0) (upd (h (5, a, 0)) (nI (38 + 5 * c)).toNatClampNeg (nI (sp_toc g c)))) (P := vp_in (nI (38 + 5 * c)) 78 ∧ True) rfl ⟨(vp_in_nI (by omega) (by decide)), trivial⟩ (fun h1 eh1 => ?_)
      have Fh1 : jg_fr a h h1 := by rw [eh1]; exact jg_fr_set jg_fr_rf
      obtain ⟨gh1, egh1⟩ : ∃ y, y = sp_up g (38 + 5 * c) (sp_toc g c) := ⟨_, rfl⟩
      have Rh1 : jg_rel h1 a gh1 := by rw [eh1, egh1]; exact jg_set R (k := 38 + 5 * c) (w := sp_toc g c) (nI_clamp (by omega)) rfl
      refine jt_go jm_m162 42 2 (f' := (73, [(6, .inl (nI (sp_toc g c))), (5, .inl (nI (min (sp_ap (g (38 + 5 * c)) (sp_goal g c)) (sp_pace (g (36 + 5 * c)) (g (37 + 5 * c)) (g 2))))), (4, .inl (nI (sp_goal g c))), (3, .inl (nI (g (38 + 5 * c)))), (0, .inr (.inr (5, a, 0))), (1, .inl (nI c)), (2, .inl (nI 0))], [.inl (nI (g (38 + 5 * c))), .inl (nI (sp_toc g c))], h1)) (P := True) rfl trivial ?_
      refine jt_niceq jm_m162 44 (a := sp_toc g c) (b := g (38 + 5 * c)) (by omega) (by omega) (tgt := 95) (nxt := 76) rfl rfl rfl (fun c73 => ?_) (fun c73 => ?_)
      · have e95 : gh1 = (sp_move g c) := by rw [egh1]; unfold sp_move; rw [if_pos c73]; exact sp_up_self c73
        rw [e95] at Rh1
        refine jt_go jm_m162 60 3 (f' := (98, [(6, .inl (nI (sp_toc g c))), (5, .inl (nI (min (sp_ap (g (38 + 5 * c)) (sp_goal g c)) (sp_pace (g (36 + 5 * c)) (g (37 + 5 * c)) (g 2))))), (4, .inl (nI (sp_goal g c))), (3, .inl (nI (g (38 + 5 * c)))), (0, .inr (.inr (5, a, 0))), (1, .inl (nI c)), (2, .inl (nI 0))], [.inl (nI 3), .inl (nI c), .inr (.inr (5, a, 0))], h1)) (P := True) rfl trivial ?_
        refine jt_callp (w := .inl (nI (39 + 5 * c))) jm_m162 63 (mi' := 147) (as := [.inl (nI c), .inl (nI 3)]) (rest := [.inr (.inr (5, a, 0))]) (nxt := 101) rfl rfl jm_m147 rfl rfl (tb_ofC (k := 39 + 5 * c) (by omega)) ?_
        refine jt_go jm_m162 64 4 (f' := (106, [(6, .inl (nI (sp_toc g c))), (5, .inl (nI (min (sp_ap (g (38 + 5 * c)) (sp_goal g c)) (sp_pace (g (36 + 5 * c)) (g (37 + 5 * c)) (g 2))))), (4, .inl (nI (sp_goal g c))), (3, .inl (nI (g (38 + 5 * c)))), (0, .inr (.inr (5, a, 0))), (1, .inl (nI c)), (2, .inl (nI 0))], [.inl (nI 3), .inl (nI c), .inr (.inr (5, a, 0)), .inl (nI 99), .inl (nI (39 + 5 * c)), .inr (.inr (5, a, 0))], h1)) (P := True) rfl trivial ?_
        refine jt_callp (w := .inl (nI (39 + 5 * c))) jm_m162 68 (mi' := 147) (as := [.inl (nI c), .inl (nI 3)]) (rest := [.inr (.inr (5, a, 0)), .inl (nI 99), .inl (nI (39 + 5 * c)), .inr (.inr (5, a, 0))]) (nxt := 109) rfl rfl jm_m147 rfl rfl (tb_ofC (k := 39 + 5 * c) (by omega)) ?_
        refine jt_go jm_m162 69 1 (f' := (110, [(6, .inl (nI (sp_toc g c))), (5, .inl (nI (min (sp_ap (g (38 + 5 * c)) (sp_goal g c)) (sp_pace (g (36 + 5 * c)) (g (37 + 5 * c)) (g 2))))), (4, .inl (nI (sp_goal g c))), (3, .inl (nI (g (38 + 5 * c)))), (0, .inr (.inr (5, a, 0))), (1, .inl (nI c)), (2, .inl (nI 0))], [.inl (h1 (5, a, 0) (nI (39 + 5 * c)).toNatClampNeg), .inl (nI 99), .inl (nI (39 + 5 * c)), .inr (.inr (5, a, 0))], h1)) (P := vp_in (nI (39 + 5 * c)) 78 ∧ True) rfl ⟨(vp_in_nI (by omega) (by decide)), trivial⟩ ?_
        refine jt_ti (show (h1 (5, a, 0) (nI (39 + 5 * c)).toNatClampNeg) = nI ((sp_move g c) (39 + 5 * c)) from jg_get Rh1 (k := 39 + 5 * c) (nI_clamp (by omega)) (by omega)) ?_
        have bq4 := jw_hair Wm (c := c) (by omega)
        refine jt_go jm_m162 70 3 (f' := (113, [(6, .inl (nI (sp_toc g c))), (5, .inl (nI (min (sp_ap (g (38 + 5 * c)) (sp_goal g c)) (sp_pace (g (36 + 5 * c)) (g (37 + 5 * c)) (g 2))))), (4, .inl (nI (sp_goal g c))), (3, .inl (nI (g (38 + 5 * c)))), (0, .inr (.inr (5, a, 0))), (1, .inl (nI c)), (2, .inl (nI 0))], [.inl (nI 0), .inl (nI c), .inr (.inr (5, a, 0)), .inl (nI ((sp_move g c) (39 + 5 * c))), .inl (nI 99), .inl (nI (39 + 5 * c)), .inr (.inr (5, a, 0))], h1)) (P := True) rfl trivial ?_
        refine jt_callp (w := .inl (nI (36 + 5 * c))) jm_m162 73 (mi' := 147) (as := [.inl (nI c), .inl (nI 0)]) (rest := [.inr (.inr (5, a, 0)), .inl (nI ((sp_move g c) (39 + 5 * c))), .inl (nI 99), .inl (nI (39 + 5 * c)), .inr (.inr (5, a, 0))]) (nxt := 116) rfl rfl jm_m147 rfl rfl (tb_ofC (k := 36 + 5 * c) (by omega)) ?_
        refine jt_go jm_m162 74 1 (f' := (117, [(6, .inl (nI (sp_toc g c))), (5, .inl (nI (min (sp_ap (g (38 + 5 * c)) (sp_goal g c)) (sp_pace (g (36 + 5 * c)) (g (37 + 5 * c)) (g 2))))), (4, .inl (nI (sp_goal g c))), (3, .inl (nI (g (38 + 5 * c)))), (0, .inr (.inr (5, a, 0))), (1, .inl (nI c)), (2, .inl (nI 0))], [.inl (h1 (5, a, 0) (nI (36 + 5 * c)).toNatClampNeg), .inl (nI ((sp_move g c) (39 + 5 * c))), .inl (nI 99), .inl (nI (39 + 5 * c)), .inr (.inr (5, a, 0))], h1)) (P := vp_in (nI (36 + 5 * c)) 78 ∧ True) rfl ⟨(vp_in_nI (by omega) (by decide)), trivial⟩ ?_
        refine jt_ti (show (h1 (5, a, 0) (nI (36 + 5 * c)).toNatClampNeg) = nI ((sp_move g c) (36 + 5 * c)) from jg_get Rh1 (k := 36 + 5 * c) (nI_clamp (by omega)) (by omega)) ?_
        have bq5 := jw_kind Wm (c := c) (by omega)
        refine jt_callp (w := .inl (nI (sp_grow ((sp_move g c) (36 + 5 * c))))) jm_m162 75 (mi' := 159) (as := [.inl (nI ((sp_move g c) (36 + 5 * c)))]) (rest := [.inl (nI ((sp_move g c) (39 + 5 * c))), .inl (nI 99), .inl (nI (39 + 5 * c)), .inr (.inr (5, a, 0))]) (nxt := 120) rfl rfl jm_m159 rfl rfl (tb_grow (by omega)) ?_
        have bgr := sp_grow_le ((sp_move g c) (36 + 5 * c))
        refine jt_go jm_m162 76 1 (f' := (121, [(6, .inl (nI (sp_toc g c))), (5, .inl (nI (min (sp_ap (g (38 + 5 * c)) (sp_goal g c)) (sp_pace (g (36 + 5 * c)) (g (37 + 5 * c)) (g 2))))), (4, .inl (nI (sp_goal g c))), (3, .inl (nI (g (38 + 5 * c)))), (0, .inr (.inr (5, a, 0))), (1, .inl (nI c)), (2, .inl (nI 0))], [.inl ((nI ((sp_move g c) (39 + 5 * c))) + (nI (sp_grow ((sp_move g c) (36 + 5 * c))))), .inl (nI 99), .inl (nI (39 + 5 * c)), .inr (.inr (5, a, 0))], h1)) (P := True) rfl trivial ?_
        refine jt_ti (show ((nI ((sp_move g c) (39 + 5 * c))) + (nI (sp_grow ((sp_move g c) (36 + 5 * c))))) = nI ((sp_move g c) (39 + 5 * c) + (sp_grow ((sp_move g c) (36 + 5 * c)))) from nI_add _ _) ?_
        refine jt_callp (w := .inl (nI (min 99 ((sp_move g c) (39 + 5 * c) + (sp_grow ((sp_move g c) (36 + 5 * c))))))) jm_m162 77 (mi' := 144) (as := [.inl (nI 99), .inl (nI ((sp_move g c) (39 + 5 * c) + (sp_grow ((sp_move g c) (36 + 5 * c)))))]) (rest := [.inl (nI (39 + 5 * c)), .inr (.inr (5, a, 0))]) (nxt := 124) rfl rfl jm_m144 rfl rfl (tb_least (by omega) (by omega)) ?_
        refine jt_goM jm_m162 78 1 (pc' := 125) (L' := [(6, .inl (nI (sp_toc g c))), (5, .inl (nI (min (sp_ap (g (38 + 5 * c)) (sp_goal g c)) (sp_pace (g (36 + 5 * c)) (g (37 + 5 * c)) (g 2))))), (4, .inl (nI (sp_goal g c))), (3, .inl (nI (g (38 + 5 * c)))), (0, .inr (.inr (5, a, 0))), (1, .inl (nI c)), (2, .inl (nI 0))]) (st' := []) (m' := jm_set h1 (5, a, 0) (upd (h1 (5, a, 0)) (nI (39 + 5 * c)).toNatClampNeg (nI (min 99 ((sp_move g c) (39 + 5 * c) + (sp_grow ((sp_move g c) (36 + 5 * c)))))))) (P := vp_in (nI (39 + 5 * c)) 78 ∧ True) rfl ⟨(vp_in_nI (by omega) (by decide)), trivial⟩ (fun h2 eh2 => ?_)
        have Fh2 : jg_fr a h h2 := by rw [eh2]; exact jg_fr_set Fh1
        obtain ⟨gh2, egh2⟩ : ∃ y, y = sp_up (sp_move g c) (39 + 5 * c) (min 99 ((sp_move g c) (39 + 5 * c) + (sp_grow ((sp_move g c) (36 + 5 * c))))) := ⟨_, rfl⟩
        have Rh2 : jg_rel h2 a gh2 := by rw [eh2, egh2]; exact jg_set Rh1 (k := 39 + 5 * c) (w := min 99 ((sp_move g c) (39 + 5 * c) + (sp_grow ((sp_move g c) (36 + 5 * c))))) (nI_clamp (by omega)) rfl
        have eg : gh2 = sp_gone g c false := by rw [egh2]; rfl
        rw [eg] at Rh2
        have Wg := jw_gone (kept := false) W hc
        have hcg : c < sp_gone g c false 0 := by rw [sp_gone_ne W hc (by omega) (by omega) (by omega)]; exact hc
        refine jt_go jm_m162 79 1 (f' := (127, [(6, .inl (nI (sp_toc g c))), (5, .inl (nI (min (sp_ap (g (38 + 5 * c)) (sp_goal g c)) (sp_pace (g (36 + 5 * c)) (g (37 + 5 * c)) (g 2))))), (4, .inl (nI (sp_goal g c))), (3, .inl (nI (g (38 + 5 * c)))), (0, .inr (.inr (5, a, 0))), (1, .inl (nI c)), (2, .inl (nI 0))], [.inl (nI (sp_toc g c))], h2)) (P := True) rfl trivial ?_
        refine jt_callp (w := .inl (nI (sp_sd (sp_toc g c)))) jm_m162 80 (mi' := 154) (as := [.inl (nI (sp_toc g c))]) (rest := []) (nxt := 130) rfl rfl jm_m154 rfl rfl (tb_sideOf (by omega)) ?_
        have bq6 := sp_sd_le (sp_toc g c)
        refine jt_go jm_m162 81 1 (f' := (131, [(6, .inl (nI (sp_toc g c))), (5, .inl (nI (min (sp_ap (g (38 + 5 * c)) (sp_goal g c)) (sp_pace (g (36 + 5 * c)) (g (37 + 5 * c)) (g 2))))), (4, .inl (nI (sp_goal g c))), (3, .inl (nI (g (38 + 5 * c)))), (0, .inr (.inr (5, a, 0))), (1, .inl (nI c)), (2, .inl (nI 0))], [.inl (nI (g (38 + 5 * c))), .inl (nI (sp_sd (sp_toc g c)))], h2)) (P := True) rfl trivial ?_
        refine jt_callp (w := .inl (nI (sp_sd (g (38 + 5 * c))))) jm_m162 82 (mi' := 154) (as := [.inl (nI (g (38 + 5 * c)))]) (rest := [.inl (nI (sp_sd (sp_toc g c)))]) (nxt := 134) rfl rfl jm_m154 rfl rfl (tb_sideOf (by omega)) ?_
        have bq7 := sp_sd_le (g (38 + 5 * c))
        refine jt_niceq jm_m162 83 (a := sp_sd (sp_toc g c)) (b := sp_sd (g (38 + 5 * c))) (by omega) (by omega) (tgt := 141) (nxt := 137) rfl rfl rfl (fun c134 => ?_) (fun c134 => ?_)
        · refine jt_go jm_m162 86 3 (f' := (146, [(7, .inl (nI 0)), (6, .inl (nI (sp_toc g c))), (5, .inl (nI (min (sp_ap (g (38 + 5 * c)) (sp_goal g c)) (sp_pace (g (36 + 5 * c)) (g (37 + 5 * c)) (g 2))))), (4, .inl (nI (sp_goal g c))), (3, .inl (nI (g (38 + 5 * c)))), (0, .inr (.inr (5, a, 0))), (1, .inl (nI c)), (2, .inl (nI 0))], [.inl (nI 0)], h2)) (P := True) rfl trivial ?_
          refine jt_nifeq jm_m162 89 (by omega) (tgt := 158) (nxt := 149) rfl rfl rfl (fun c146 => ?_) (fun c146 => ?_)
          · refine jt_go jm_m162 95 1 (f' := (160, [(7, .inl (nI 0)), (6, .inl (nI (sp_toc g c))), (5, .inl (nI (min (sp_ap (g (38 + 5 * c)) (sp_goal g c)) (sp_pace (g (36 + 5 * c)) (g (37 + 5 * c)) (g 2))))), (4, .inl (nI (sp_goal g c))), (3, .inl (nI (g (38 + 5 * c)))), (0, .inr (.inr (5, a, 0))), (1, .inl (nI c)), (2, .inl (nI 0))], [.inl (nI 0)], h2)) (P := True) rfl trivial ?_
            refine jt_zret jm_m162 96 rfl (Or.inl rfl) ?_
            refine ⟨jt_lb0 (by rw [sp_gone_at W hc]; exact fun z => z c134.symm), ?_, Fh2⟩
            unfold sp_one
            rw [if_neg (by rw [sp_gone_at W hc]; exact fun z => z c134.symm)]
            exact Rh2
          · exact absurd c146 (by decide)
        · refine jt_go jm_m162 84 2 (f' := (142, [(6, .inl (nI (sp_toc g c))), (5, .inl (nI (min (sp_ap (g (38 + 5 * c)) (sp_goal g c)) (sp_pace (g (36 + 5 * c)) (g (37 + 5 * c)) (g 2))))), (4, .inl (nI (sp_goal g c))), (3, .inl (nI (g (38 + 5 * c)))), (0, .inr (.inr (5, a, 0))), (1, .inl (nI c)), (2, .inl (nI 0))], [.inl (nI 1)], h2)) (P := True) rfl trivial ?_
          refine jt_go jm_m162 87 2 (f' := (146, [(7, .inl (nI 1)), (6, .inl (nI (sp_toc g c))), (5, .inl (nI (min (sp_ap (g (38 + 5 * c)) (sp_goal g c)) (sp_pace (g (36 + 5 * c)) (g (37 + 5 * c)) (g 2))))), (4, .inl (nI (sp_goal g c))), (3, .inl (nI (g (38 + 5 * c)))), (0, .inr (.inr (5, a, 0))), (1, .inl (nI c)), (2, .inl (nI 0))], [.inl (nI 1)], h2)) (P := True) rfl trivial ?_
          refine jt_nifeq jm_m162 89 (by omega) (tgt := 158) (nxt := 149) rfl rfl rfl (fun c146 => ?_) (fun c146 => ?_)
          · exact absurd c146 (by decide)
          · refine jt_go jm_m162 90 3 (f' := (152, [(7, .inl (nI 1)), (6, .inl (nI (sp_toc g c))), (5, .inl (nI (min (sp_ap (g (38 + 5 * c)) (sp_goal g c)) (sp_pace (g (36 + 5 * c)) (g (37 + 5 * c)) (g 2))))), (4, .inl (nI (sp_goal g c))), (3, .inl (nI (g (38 + 5 * c)))), (0, .inr (.inr (5, a, 0))), (1, .inl (nI c)), (2, .inl (nI 0))], [.inl (nI (g (38 + 5 * c))), .inl (nI c), .inr (.inr (5, a, 0))], h2)) (P := True) rfl trivial ?_
            refine jt_callp (w := .inl (nI (sp_sd (g (38 + 5 * c))))) jm_m162 93 (mi' := 154) (as := [.inl (nI (g (38 + 5 * c)))]) (rest := [.inl (nI c), .inr (.inr (5, a, 0))]) (nxt := 155) rfl rfl jm_m154 rfl rfl (tb_sideOf (by omega)) ?_
            have bq8 := sp_sd_le (g (38 + 5 * c))
            refine jt_call jm_m162 94 (mi' := 161) (as := [.inr (.inr (5, a, 0)), .inl (nI c), .inl (nI (sp_sd (g (38 + 5 * c))))]) (rest := []) (nxt := 158) rfl rfl jm_m161 rfl rfl (tb_pass Rh2 Wg hcg (sp_sd_le _)) ?_
            rintro u h9 ⟨rfl, Rh9, Fh9⟩
            show jt_T 162 (158, [(7, .inl (nI 1)), (6, .inl (nI (sp_toc g c))), (5, .inl (nI (min (sp_ap (g (38 + 5 * c)) (sp_goal g c)) (sp_pace (g (36 + 5 * c)) (g (37 + 5 * c)) (g 2))))), (4, .inl (nI (sp_goal g c))), (3, .inl (nI (g (38 + 5 * c)))), (0, .inr (.inr (5, a, 0))), (1, .inl (nI c)), (2, .inl (nI 0))], [], h9) _
            have Fh9 := jg_fr_tr Fh2 Fh9
            refine jt_go jm_m162 95 1 (f' := (160, [(7, .inl (nI 1)), (6, .inl (nI (sp_toc g c))), (5, .inl (nI (min (sp_ap (g (38 + 5 * c)) (sp_goal g c)) (sp_pace (g (36 + 5 * c)) (g (37 + 5 * c)) (g 2))))), (4, .inl (nI (sp_goal g c))), (3, .inl (nI (g (38 + 5 * c)))), (0, .inr (.inr (5, a, 0))), (1, .inl (nI c)), (2, .inl (nI 0))], [.inl (nI 1)], h9)) (P := True) rfl trivial ?_
            refine jt_zret jm_m162 96 rfl (Or.inr rfl) ?_
            refine ⟨jt_lb1 (by rw [sp_gone_at W hc]; exact fun z => c134 z.symm), ?_, Fh9⟩
            unfold sp_one
            rw [if_pos (by rw [sp_gone_at W hc]; exact fun z => c134 z.symm)]
            exact Rh9
      · refine jt_go jm_m162 45 4 (f' := (81, [(6, .inl (nI (sp_toc g c))), (5, .inl (nI (min (sp_ap (g (38 + 5 * c)) (sp_goal g c)) (sp_pace (g (36 + 5 * c)) (g (37 + 5 * c)) (g 2))))), (4, .inl (nI (sp_goal g c))), (3, .inl (nI (g (38 + 5 * c)))), (0, .inr (.inr (5, a, 0))), (1, .inl (nI c)), (2, .inl (nI 0))], [.inl ((nI 4) + (nI (sp_toc g c))), .inr (.inr (5, a, 0))], h1)) (P := True) rfl trivial ?_
        refine jt_ti (show ((nI 4) + (nI (sp_toc g c))) = nI (4 + sp_toc g c) from nI_add _ _) ?_
        refine jt_go jm_m162 49 1 (f' := (82, [(6, .inl (nI (sp_toc g c))), (5, .inl (nI (min (sp_ap (g (38 + 5 * c)) (sp_goal g c)) (sp_pace (g (36 + 5 * c)) (g (37 + 5 * c)) (g 2))))), (4, .inl (nI (sp_goal g c))), (3, .inl (nI (g (38 + 5 * c)))), (0, .inr (.inr (5, a, 0))), (1, .inl (nI c)), (2, .inl (nI 0))], [.inl (h1 (5, a, 0) (nI (4 + sp_toc g c)).toNatClampNeg)], h1)) (P := vp_in (nI (4 + sp_toc g c)) 78 ∧ True) rfl ⟨(vp_in_nI (by omega) (by decide)), trivial⟩ ?_
        refine jt_ti (show (h1 (5, a, 0) (nI (4 + sp_toc g c)).toNatClampNeg) = nI (gh1 (4 + sp_toc g c)) from jg_get Rh1 (k := 4 + sp_toc g c) (nI_clamp (by omega)) (by omega)) ?_
        have bf : gh1 (4 + sp_toc g c) ≤ 9 := by rw [egh1, sp_up_ne (by omega)]; exact jw_fish W bs
        refine jt_nifle jm_m162 50 (by omega) (tgt := 95) (nxt := 85) rfl rfl rfl (fun c82 => ?_) (fun c82 => ?_)
        · have e95 : gh1 = sp_move g c := by rw [egh1]; unfold sp_move; rw [if_neg c73]; unfold sp_eat; rw [← egh1, if_neg (by omega)]
          rw [e95] at Rh1
          refine jt_go jm_m162 60 3 (f' := (98, [(6, .inl (nI (sp_toc g c))), (5, .inl (nI (min (sp_ap (g (38 + 5 * c)) (sp_goal g c)) (sp_pace (g (36 + 5 * c)) (g (37 + 5 * c)) (g 2))))), (4, .inl (nI (sp_goal g c))), (3, .inl (nI (g (38 + 5 * c)))), (0, .inr (.inr (5, a, 0))), (1, .inl (nI c)), (2, .inl (nI 0))], [.inl (nI 3), .inl (nI c), .inr (.inr (5, a, 0))], h1)) (P := True) rfl trivial ?_
          refine jt_callp (w := .inl (nI (39 + 5 * c))) jm_m162 63 (mi' := 147) (as := [.inl (nI c), .inl (nI 3)]) (rest := [.inr (.inr (5, a, 0))]) (nxt := 101) rfl rfl jm_m147 rfl rfl (tb_ofC (k := 39 + 5 * c) (by omega)) ?_
          refine jt_go jm_m162 64 4 (f' := (106, [(6, .inl (nI (sp_toc g c))), (5, .inl (nI (min (sp_ap (g (38 + 5 * c)) (sp_goal g c)) (sp_pace (g (36 + 5 * c)) (g (37 + 5 * c)) (g 2))))), (4, .inl (nI (sp_goal g c))), (3, .inl (nI (g (38 + 5 * c)))), (0, .inr (.inr (5, a, 0))), (1, .inl (nI c)), (2, .inl (nI 0))], [.inl (nI 3), .inl (nI c), .inr (.inr (5, a, 0)), .inl (nI 99), .inl (nI (39 + 5 * c)), .inr (.inr (5, a, 0))], h1)) (P := True) rfl trivial ?_
          refine jt_callp (w := .inl (nI (39 + 5 * c))) jm_m162 68 (mi' := 147) (as := [.inl (nI c), .inl (nI 3)]) (rest := [.inr (.inr (5, a, 0)), .inl (nI 99), .inl (nI (39 + 5 * c)), .inr (.inr (5, a, 0))]) (nxt := 109) rfl rfl jm_m147 rfl rfl (tb_ofC (k := 39 + 5 * c) (by omega)) ?_
          refine jt_go jm_m162 69 1 (f' := (110, [(6, .inl (nI (sp_toc g c))), (5, .inl (nI (min (sp_ap (g (38 + 5 * c)) (sp_goal g c)) (sp_pace (g (36 + 5 * c)) (g (37 + 5 * c)) (g 2))))), (4, .inl (nI (sp_goal g c))), (3, .inl (nI (g (38 + 5 * c)))), (0, .inr (.inr (5, a, 0))), (1, .inl (nI c)), (2, .inl (nI 0))], [.inl (h1 (5, a, 0) (nI (39 + 5 * c)).toNatClampNeg), .inl (nI 99), .inl (nI (39 + 5 * c)), .inr (.inr (5, a, 0))], h1)) (P := vp_in (nI (39 + 5 * c)) 78 ∧ True) rfl ⟨(vp_in_nI (by omega) (by decide)), trivial⟩ ?_
          refine jt_ti (show (h1 (5, a, 0) (nI (39 + 5 * c)).toNatClampNeg) = nI ((sp_move g c) (39 + 5 * c)) from jg_get Rh1 (k := 39 + 5 * c) (nI_clamp (by omega)) (by omega)) ?_
          have bq9 := jw_hair Wm (c := c) (by omega)
          refine jt_go jm_m162 70 3 (f' := (113, [(6, .inl (nI (sp_toc g c))), (5, .inl (nI (min (sp_ap (g (38 + 5 * c)) (sp_goal g c)) (sp_pace (g (36 + 5 * c)) (g (37 + 5 * c)) (g 2))))), (4, .inl (nI (sp_goal g c))), (3, .inl (nI (g (38 + 5 * c)))), (0, .inr (.inr (5, a, 0))), (1, .inl (nI c)), (2, .inl (nI 0))], [.inl (nI 0), .inl (nI c), .inr (.inr (5, a, 0)), .inl (nI ((sp_move g c) (39 + 5 * c))), .inl (nI 99), .inl (nI (39 + 5 * c)), .inr (.inr (5, a, 0))], h1)) (P := True) rfl trivial ?_
          refine jt_callp (w := .inl (nI (36 + 5 * c))) jm_m162 73 (mi' := 147) (as := [.inl (nI c), .inl (nI 0)]) (rest := [.inr (.inr (5, a, 0)), .inl (nI ((sp_move g c) (39 + 5 * c))), .inl (nI 99), .inl (nI (39 + 5 * c)), .inr (.inr (5, a, 0))]) (nxt := 116) rfl rfl jm_m147 rfl rfl (tb_ofC (k := 36 + 5 * c) (by omega)) ?_
          refine jt_go jm_m162 74 1 (f' := (117, [(6, .inl (nI (sp_toc g c))), (5, .inl (nI (min (sp_ap (g (38 + 5 * c)) (sp_goal g c)) (sp_pace (g (36 + 5 * c)) (g (37 + 5 * c)) (g 2))))), (4, .inl (nI (sp_goal g c))), (3, .inl (nI (g (38 + 5 * c)))), (0, .inr (.inr (5, a, 0))), (1, .inl (nI c)), (2, .inl (nI 0))], [.inl (h1 (5, a, 0) (nI (36 + 5 * c)).toNatClampNeg), .inl (nI ((sp_move g c) (39 + 5 * c))), .inl (nI 99), .inl (nI (39 + 5 * c)), .inr (.inr (5, a, 0))], h1)) (P := vp_in (nI (36 + 5 * c)) 78 ∧ True) rfl ⟨(vp_in_nI (by omega) (by decide)), trivial⟩ ?_
          refine jt_ti (show (h1 (5, a, 0) (nI (36 + 5 * c)).toNatClampNeg) = nI ((sp_move g c) (36 + 5 * c)) from jg_get Rh1 (k := 36 + 5 * c) (nI_clamp (by omega)) (by omega)) ?_
          have bq10 := jw_kind Wm (c := c) (by omega)
          refine jt_callp (w := .inl (nI (sp_grow ((sp_move g c) (36 + 5 * c))))) jm_m162 75 (mi' := 159) (as := [.inl (nI ((sp_move g c) (36 + 5 * c)))]) (rest := [.inl (nI ((sp_move g c) (39 + 5 * c))), .inl (nI 99), .inl (nI (39 + 5 * c)), .inr (.inr (5, a, 0))]) (nxt := 120) rfl rfl jm_m159 rfl rfl (tb_grow (by omega)) ?_
          have bgr := sp_grow_le ((sp_move g c) (36 + 5 * c))
          refine jt_go jm_m162 76 1 (f' := (121, [(6, .inl (nI (sp_toc g c))), (5, .inl (nI (min (sp_ap (g (38 + 5 * c)) (sp_goal g c)) (sp_pace (g (36 + 5 * c)) (g (37 + 5 * c)) (g 2))))), (4, .inl (nI (sp_goal g c))), (3, .inl (nI (g (38 + 5 * c)))), (0, .inr (.inr (5, a, 0))), (1, .inl (nI c)), (2, .inl (nI 0))], [.inl ((nI ((sp_move g c) (39 + 5 * c))) + (nI (sp_grow ((sp_move g c) (36 + 5 * c))))), .inl (nI 99), .inl (nI (39 + 5 * c)), .inr (.inr (5, a, 0))], h1)) (P := True) rfl trivial ?_
          refine jt_ti (show ((nI ((sp_move g c) (39 + 5 * c))) + (nI (sp_grow ((sp_move g c) (36 + 5 * c))))) = nI ((sp_move g c) (39 + 5 * c) + (sp_grow ((sp_move g c) (36 + 5 * c)))) from nI_add _ _) ?_
          refine jt_callp (w := .inl (nI (min 99 ((sp_move g c) (39 + 5 * c) + (sp_grow ((sp_move g c) (36 + 5 * c))))))) jm_m162 77 (mi' := 144) (as := [.inl (nI 99), .inl (nI ((sp_move g c) (39 + 5 * c) + (sp_grow ((sp_move g c) (36 + 5 * c)))))]) (rest := [.inl (nI (39 + 5 * c)), .inr (.inr (5, a, 0))]) (nxt := 124) rfl rfl jm_m144 rfl rfl (tb_least (by omega) (by omega)) ?_
          refine jt_goM jm_m162 78 1 (pc' := 125) (L' := [(6, .inl (nI (sp_toc g c))), (5, .inl (nI (min (sp_ap (g (38 + 5 * c)) (sp_goal g c)) (sp_pace (g (36 + 5 * c)) (g (37 + 5 * c)) (g 2))))), (4, .inl (nI (sp_goal g c))), (3, .inl (nI (g (38 + 5 * c)))), (0, .inr (.inr (5, a, 0))), (1, .inl (nI c)), (2, .inl (nI 0))]) (st' := []) (m' := jm_set h1 (5, a, 0) (upd (h1 (5, a, 0)) (nI (39 + 5 * c)).toNatClampNeg (nI (min 99 ((sp_move g c) (39 + 5 * c) + (sp_grow ((sp_move g c) (36 + 5 * c)))))))) (P := vp_in (nI (39 + 5 * c)) 78 ∧ True) rfl ⟨(vp_in_nI (by omega) (by decide)), trivial⟩ (fun h3 eh3 => ?_)
          have Fh3 : jg_fr a h h3 := by rw [eh3]; exact jg_fr_set Fh1
          obtain ⟨gh3, egh3⟩ : ∃ y, y = sp_up (sp_move g c) (39 + 5 * c) (min 99 ((sp_move g c) (39 + 5 * c) + (sp_grow ((sp_move g c) (36 + 5 * c))))) := ⟨_, rfl⟩
          have Rh3 : jg_rel h3 a gh3 := by rw [eh3, egh3]; exact jg_set Rh1 (k := 39 + 5 * c) (w := min 99 ((sp_move g c) (39 + 5 * c) + (sp_grow ((sp_move g c) (36 + 5 * c))))) (nI_clamp (by omega)) rfl
          have eg : gh3 = sp_gone g c false := by rw [egh3]; rfl
          rw [eg] at Rh3
          have Wg := jw_gone (kept := false) W hc
          have hcg : c < sp_gone g c false 0 := by rw [sp_gone_ne W hc (by omega) (by omega) (by omega)]; exact hc
          refine jt_go jm_m162 79 1 (f' := (127, [(6, .inl (nI (sp_toc g c))), (5, .inl (nI (min (sp_ap (g (38 + 5 * c)) (sp_goal g c)) (sp_pace (g (36 + 5 * c)) (g (37 + 5 * c)) (g 2))))), (4, .inl (nI (sp_goal g c))), (3, .inl (nI (g (38 + 5 * c)))), (0, .inr (.inr (5, a, 0))), (1, .inl (nI c)), (2, .inl (nI 0))], [.inl (nI (sp_toc g c))], h3)) (P := True) rfl trivial ?_
          refine jt_callp (w := .inl (nI (sp_sd (sp_toc g c)))) jm_m162 80 (mi' := 154) (as := [.inl (nI (sp_toc g c))]) (rest := []) (nxt := 130) rfl rfl jm_m154 rfl rfl (tb_sideOf (by omega)) ?_
          have bq11 := sp_sd_le (sp_toc g c)
          refine jt_go jm_m162 81 1 (f' := (131, [(6, .inl (nI (sp_toc g c))), (5, .inl (nI (min (sp_ap (g (38 + 5 * c)) (sp_goal g c)) (sp_pace (g (36 + 5 * c)) (g (37 + 5 * c)) (g 2))))), (4, .inl (nI (sp_goal g c))), (3, .inl (nI (g (38 + 5 * c)))), (0, .inr (.inr (5, a, 0))), (1, .inl (nI c)), (2, .inl (nI 0))], [.inl (nI (g (38 + 5 * c))), .inl (nI (sp_sd (sp_toc g c)))], h3)) (P := True) rfl trivial ?_
          refine jt_callp (w := .inl (nI (sp_sd (g (38 + 5 * c))))) jm_m162 82 (mi' := 154) (as := [.inl (nI (g (38 + 5 * c)))]) (rest := [.inl (nI (sp_sd (sp_toc g c)))]) (nxt := 134) rfl rfl jm_m154 rfl rfl (tb_sideOf (by omega)) ?_
          have bq12 := sp_sd_le (g (38 + 5 * c))
          refine jt_niceq jm_m162 83 (a := sp_sd (sp_toc g c)) (b := sp_sd (g (38 + 5 * c))) (by omega) (by omega) (tgt := 141) (nxt := 137) rfl rfl rfl (fun c134 => ?_) (fun c134 => ?_)
          · refine jt_go jm_m162 86 3 (f' := (146, [(7, .inl (nI 0)), (6, .inl (nI (sp_toc g c))), (5, .inl (nI (min (sp_ap (g (38 + 5 * c)) (sp_goal g c)) (sp_pace (g (36 + 5 * c)) (g (37 + 5 * c)) (g 2))))), (4, .inl (nI (sp_goal g c))), (3, .inl (nI (g (38 + 5 * c)))), (0, .inr (.inr (5, a, 0))), (1, .inl (nI c)), (2, .inl (nI 0))], [.inl (nI 0)], h3)) (P := True) rfl trivial ?_
            refine jt_nifeq jm_m162 89 (by omega) (tgt := 158) (nxt := 149) rfl rfl rfl (fun c146 => ?_) (fun c146 => ?_)
            · refine jt_go jm_m162 95 1 (f' := (160, [(7, .inl (nI 0)), (6, .inl (nI (sp_toc g c))), (5, .inl (nI (min (sp_ap (g (38 + 5 * c)) (sp_goal g c)) (sp_pace (g (36 + 5 * c)) (g (37 + 5 * c)) (g 2))))), (4, .inl (nI (sp_goal g c))), (3, .inl (nI (g (38 + 5 * c)))), (0, .inr (.inr (5, a, 0))), (1, .inl (nI c)), (2, .inl (nI 0))], [.inl (nI 0)], h3)) (P := True) rfl trivial ?_
              refine jt_zret jm_m162 96 rfl (Or.inl rfl) ?_
              refine ⟨jt_lb0 (by rw [sp_gone_at W hc]; exact fun z => z c134.symm), ?_, Fh3⟩
              unfold sp_one
              rw [if_neg (by rw [sp_gone_at W hc]; exact fun z => z c134.symm)]
              exact Rh3
            · exact absurd c146 (by decide)
          · refine jt_go jm_m162 84 2 (f' := (142, [(6, .inl (nI (sp_toc g c))), (5, .inl (nI (min (sp_ap (g (38 + 5 * c)) (sp_goal g c)) (sp_pace (g (36 + 5 * c)) (g (37 + 5 * c)) (g 2))))), (4, .inl (nI (sp_goal g c))), (3, .inl (nI (g (38 + 5 * c)))), (0, .inr (.inr (5, a, 0))), (1, .inl (nI c)), (2, .inl (nI 0))], [.inl (nI 1)], h3)) (P := True) rfl trivial ?_
            refine jt_go jm_m162 87 2 (f' := (146, [(7, .inl (nI 1)), (6, .inl (nI (sp_toc g c))), (5, .inl (nI (min (sp_ap (g (38 + 5 * c)) (sp_goal g c)) (sp_pace (g (36 + 5 * c)) (g (37 + 5 * c)) (g 2))))), (4, .inl (nI (sp_goal g c))), (3, .inl (nI (g (38 + 5 * c)))), (0, .inr (.inr (5, a, 0))), (1, .inl (nI c)), (2, .inl (nI 0))], [.inl (nI 1)], h3)) (P := True) rfl trivial ?_
            refine jt_nifeq jm_m162 89 (by omega) (tgt := 158) (nxt := 149) rfl rfl rfl (fun c146 => ?_) (fun c146 => ?_)
            · exact absurd c146 (by decide)
            · refine jt_go jm_m162 90 3 (f' := (152, [(7, .inl (nI 1)), (6, .inl (nI (sp_toc g c))), (5, .inl (nI (min (sp_ap (g (38 + 5 * c)) (sp_goal g c)) (sp_pace (g (36 + 5 * c)) (g (37 + 5 * c)) (g 2))))), (4, .inl (nI (sp_goal g c))), (3, .inl (nI (g (38 + 5 * c)))), (0, .inr (.inr (5, a, 0))), (1, .inl (nI c)), (2, .inl (nI 0))], [.inl (nI (g (38 + 5 * c))), .inl (nI c), .inr (.inr (5, a, 0))], h3)) (P := True) rfl trivial ?_
              refine jt_callp (w := .inl (nI (sp_sd (g (38 + 5 * c))))) jm_m162 93 (mi' := 154) (as := [.inl (nI (g (38 + 5 * c)))]) (rest := [.inl (nI c), .inr (.inr (5, a, 0))]) (nxt := 155) rfl rfl jm_m154 rfl rfl (tb_sideOf (by omega)) ?_
              have bq13 := sp_sd_le (g (38 + 5 * c))
              refine jt_call jm_m162 94 (mi' := 161) (as := [.inr (.inr (5, a, 0)), .inl (nI c), .inl (nI (sp_sd (g (38 + 5 * c))))]) (rest := []) (nxt := 158) rfl rfl jm_m161 rfl rfl (tb_pass Rh3 Wg hcg (sp_sd_le _)) ?_
              rintro u h9 ⟨rfl, Rh9, Fh9⟩
              show jt_T 162 (158, [(7, .inl (nI 1)), (6, .inl (nI (sp_toc g c))), (5, .inl (nI (min (sp_ap (g (38 + 5 * c)) (sp_goal g c)) (sp_pace (g (36 + 5 * c)) (g (37 + 5 * c)) (g 2))))), (4, .inl (nI (sp_goal g c))), (3, .inl (nI (g (38 + 5 * c)))), (0, .inr (.inr (5, a, 0))), (1, .inl (nI c)), (2, .inl (nI 0))], [], h9) _
              have Fh9 := jg_fr_tr Fh3 Fh9
              refine jt_go jm_m162 95 1 (f' := (160, [(7, .inl (nI 1)), (6, .inl (nI (sp_toc g c))), (5, .inl (nI (min (sp_ap (g (38 + 5 * c)) (sp_goal g c)) (sp_pace (g (36 + 5 * c)) (g (37 + 5 * c)) (g 2))))), (4, .inl (nI (sp_goal g c))), (3, .inl (nI (g (38 + 5 * c)))), (0, .inr (.inr (5, a, 0))), (1, .inl (nI c)), (2, .inl (nI 0))], [.inl (nI 1)], h9)) (P := True) rfl trivial ?_
              refine jt_zret jm_m162 96 rfl (Or.inr rfl) ?_
              refine ⟨jt_lb1 (by rw [sp_gone_at W hc]; exact fun z => c134 z.symm), ?_, Fh9⟩
              unfold sp_one
              rw [if_pos (by rw [sp_gone_at W hc]; exact fun z => c134 z.symm)]
              exact Rh9
        · refine jt_go jm_m162 51 4 (f' := (90, [(6, .inl (nI (sp_toc g c))), (5, .inl (nI (min (sp_ap (g (38 + 5 * c)) (sp_goal g c)) (sp_pace (g (36 + 5 * c)) (g (37 + 5 * c)) (g 2))))), (4, .inl (nI (sp_goal g c))), (3, .inl (nI (g (38 + 5 * c)))), (0, .inr (.inr (5, a, 0))), (1, .inl (nI c)), (2, .inl (nI 0))], [.inl ((nI 4) + (nI (sp_toc g c))), .inr (.inr (5, a, 0))], h1)) (P := True) rfl trivial ?_
          refine jt_ti (show ((nI 4) + (nI (sp_toc g c))) = nI (4 + sp_toc g c) from nI_add _ _) ?_
          refine jt_go jm_m162 55 2 (f' := (92, [(6, .inl (nI (sp_toc g c))), (5, .inl (nI (min (sp_ap (g (38 + 5 * c)) (sp_goal g c)) (sp_pace (g (36 + 5 * c)) (g (37 + 5 * c)) (g 2))))), (4, .inl (nI (sp_goal g c))), (3, .inl (nI (g (38 + 5 * c)))), (0, .inr (.inr (5, a, 0))), (1, .inl (nI c)), (2, .inl (nI 0))], [.inl (h1 (5, a, 0) (nI (4 + sp_toc g c)).toNatClampNeg), .inl (nI (4 + sp_toc g c)), .inr (.inr (5, a, 0))], h1)) (P := vp_in (nI (4 + sp_toc g c)) 78 ∧ True) rfl ⟨(vp_in_nI (by omega) (by decide)), trivial⟩ ?_
          refine jt_ti (show (h1 (5, a, 0) (nI (4 + sp_toc g c)).toNatClampNeg) = nI (gh1 (4 + sp_toc g c)) from jg_get Rh1 (k := 4 + sp_toc g c) (nI_clamp (by omega)) (by omega)) ?_
          refine jt_go jm_m162 57 2 (f' := (94, [(6, .inl (nI (sp_toc g c))), (5, .inl (nI (min (sp_ap (g (38 + 5 * c)) (sp_goal g c)) (sp_pace (g (36 + 5 * c)) (g (37 + 5 * c)) (g 2))))), (4, .inl (nI (sp_goal g c))), (3, .inl (nI (g (38 + 5 * c)))), (0, .inr (.inr (5, a, 0))), (1, .inl (nI c)), (2, .inl (nI 0))], [.inl ((nI (gh1 (4 + sp_toc g c))) - (nI 1)), .inl (nI (4 + sp_toc g c)), .inr (.inr (5, a, 0))], h1)) (P := True) rfl trivial ?_
          refine jt_ti (show ((nI (gh1 (4 + sp_toc g c))) - (nI 1)) = nI (gh1 (4 + sp_toc g c) - 1) from nI_subN (by omega)) ?_
          refine jt_goM jm_m162 59 1 (pc' := 95) (L' := [(6, .inl (nI (sp_toc g c))), (5, .inl (nI (min (sp_ap (g (38 + 5 * c)) (sp_goal g c)) (sp_pace (g (36 + 5 * c)) (g (37 + 5 * c)) (g 2))))), (4, .inl (nI (sp_goal g c))), (3, .inl (nI (g (38 + 5 * c)))), (0, .inr (.inr (5, a, 0))), (1, .inl (nI c)), (2, .inl (nI 0))]) (st' := []) (m' := jm_set h1 (5, a, 0) (upd (h1 (5, a, 0)) (nI (4 + sp_toc g c)).toNatClampNeg (nI (gh1 (4 + sp_toc g c) - 1)))) (P := vp_in (nI (4 + sp_toc g c)) 78 ∧ True) rfl ⟨(vp_in_nI (by omega) (by decide)), trivial⟩ (fun h4 eh4 => ?_)
          have Fh4 : jg_fr a h h4 := by rw [eh4]; exact jg_fr_set Fh1
          obtain ⟨gh4, egh4⟩ : ∃ y, y = sp_up gh1 (4 + sp_toc g c) (gh1 (4 + sp_toc g c) - 1) := ⟨_, rfl⟩
          have Rh4 : jg_rel h4 a gh4 := by rw [eh4, egh4]; exact jg_set Rh1 (k := 4 + sp_toc g c) (w := gh1 (4 + sp_toc g c) - 1) (nI_clamp (by omega)) rfl
          have e95 : gh4 = sp_move g c := by rw [egh4]; unfold sp_move; rw [if_neg c73]; unfold sp_eat; rw [← egh1, if_pos c82]
          rw [e95] at Rh4
          refine jt_go jm_m162 60 3 (f' := (98, [(6, .inl (nI (sp_toc g c))), (5, .inl (nI (min (sp_ap (g (38 + 5 * c)) (sp_goal g c)) (sp_pace (g (36 + 5 * c)) (g (37 + 5 * c)) (g 2))))), (4, .inl (nI (sp_goal g c))), (3, .inl (nI (g (38 + 5 * c)))), (0, .inr (.inr (5, a, 0))), (1, .inl (nI c)), (2, .inl (nI 0))], [.inl (nI 3), .inl (nI c), .inr (.inr (5, a, 0))], h4)) (P := True) rfl trivial ?_
          refine jt_callp (w := .inl (nI (39 + 5 * c))) jm_m162 63 (mi' := 147) (as := [.inl (nI c), .inl (nI 3)]) (rest := [.inr (.inr (5, a, 0))]) (nxt := 101) rfl rfl jm_m147 rfl rfl (tb_ofC (k := 39 + 5 * c) (by omega)) ?_
          refine jt_go jm_m162 64 4 (f' := (106, [(6, .inl (nI (sp_toc g c))), (5, .inl (nI (min (sp_ap (g (38 + 5 * c)) (sp_goal g c)) (sp_pace (g (36 + 5 * c)) (g (37 + 5 * c)) (g 2))))), (4, .inl (nI (sp_goal g c))), (3, .inl (nI (g (38 + 5 * c)))), (0, .inr (.inr (5, a, 0))), (1, .inl (nI c)), (2, .inl (nI 0))], [.inl (nI 3), .inl (nI c), .inr (.inr (5, a, 0)), .inl (nI 99), .inl (nI (39 + 5 * c)), .inr (.inr (5, a, 0))], h4)) (P := True) rfl trivial ?_
          refine jt_callp (w := .inl (nI (39 + 5 * c))) jm_m162 68 (mi' := 147) (as := [.inl (nI c), .inl (nI 3)]) (rest := [.inr (.inr (5, a, 0)), .inl (nI 99), .inl (nI (39 + 5 * c)), .inr (.inr (5, a, 0))]) (nxt := 109) rfl rfl jm_m147 rfl rfl (tb_ofC (k := 39 + 5 * c) (by omega)) ?_
          refine jt_go jm_m162 69 1 (f' := (110, [(6, .inl (nI (sp_toc g c))), (5, .inl (nI (min (sp_ap (g (38 + 5 * c)) (sp_goal g c)) (sp_pace (g (36 + 5 * c)) (g (37 + 5 * c)) (g 2))))), (4, .inl (nI (sp_goal g c))), (3, .inl (nI (g (38 + 5 * c)))), (0, .inr (.inr (5, a, 0))), (1, .inl (nI c)), (2, .inl (nI 0))], [.inl (h4 (5, a, 0) (nI (39 + 5 * c)).toNatClampNeg), .inl (nI 99), .inl (nI (39 + 5 * c)), .inr (.inr (5, a, 0))], h4)) (P := vp_in (nI (39 + 5 * c)) 78 ∧ True) rfl ⟨(vp_in_nI (by omega) (by decide)), trivial⟩ ?_
          refine jt_ti (show (h4 (5, a, 0) (nI (39 + 5 * c)).toNatClampNeg) = nI ((sp_move g c) (39 + 5 * c)) from jg_get Rh4 (k := 39 + 5 * c) (nI_clamp (by omega)) (by omega)) ?_
          have bq14 := jw_hair Wm (c := c) (by omega)
          refine jt_go jm_m162 70 3 (f' := (113, [(6, .inl (nI (sp_toc g c))), (5, .inl (nI (min (sp_ap (g (38 + 5 * c)) (sp_goal g c)) (sp_pace (g (36 + 5 * c)) (g (37 + 5 * c)) (g 2))))), (4, .inl (nI (sp_goal g c))), (3, .inl (nI (g (38 + 5 * c)))), (0, .inr (.inr (5, a, 0))), (1, .inl (nI c)), (2, .inl (nI 0))], [.inl (nI 0), .inl (nI c), .inr (.inr (5, a, 0)), .inl (nI ((sp_move g c) (39 + 5 * c))), .inl (nI 99), .inl (nI (39 + 5 * c)), .inr (.inr (5, a, 0))], h4)) (P := True) rfl trivial ?_
          refine jt_callp (w := .inl (nI (36 + 5 * c))) jm_m162 73 (mi' := 147) (as := [.inl (nI c), .inl (nI 0)]) (rest := [.inr (.inr (5, a, 0)), .inl (nI ((sp_move g c) (39 + 5 * c))), .inl (nI 99), .inl (nI (39 + 5 * c)), .inr (.inr (5, a, 0))]) (nxt := 116) rfl rfl jm_m147 rfl rfl (tb_ofC (k := 36 + 5 * c) (by omega)) ?_
          refine jt_go jm_m162 74 1 (f' := (117, [(6, .inl (nI (sp_toc g c))), (5, .inl (nI (min (sp_ap (g (38 + 5 * c)) (sp_goal g c)) (sp_pace (g (36 + 5 * c)) (g (37 + 5 * c)) (g 2))))), (4, .inl (nI (sp_goal g c))), (3, .inl (nI (g (38 + 5 * c)))), (0, .inr (.inr (5, a, 0))), (1, .inl (nI c)), (2, .inl (nI 0))], [.inl (h4 (5, a, 0) (nI (36 + 5 * c)).toNatClampNeg), .inl (nI ((sp_move g c) (39 + 5 * c))), .inl (nI 99), .inl (nI (39 + 5 * c)), .inr (.inr (5, a, 0))], h4)) (P := vp_in (nI (36 + 5 * c)) 78 ∧ True) rfl ⟨(vp_in_nI (by omega) (by decide)), trivial⟩ ?_
          refine jt_ti (show (h4 (5, a, 0) (nI (36 + 5 * c)).toNatClampNeg) = nI ((sp_move g c) (36 + 5 * c)) from jg_get Rh4 (k := 36 + 5 * c) (nI_clamp (by omega)) (by omega)) ?_
          have bq15 := jw_kind Wm (c := c) (by omega)
          refine jt_callp (w := .inl (nI (sp_grow ((sp_move g c) (36 + 5 * c))))) jm_m162 75 (mi' := 159) (as := [.inl (nI ((sp_move g c) (36 + 5 * c)))]) (rest := [.inl (nI ((sp_move g c) (39 + 5 * c))), .inl (nI 99), .inl (nI (39 + 5 * c)), .inr (.inr (5, a, 0))]) (nxt := 120) rfl rfl jm_m159 rfl rfl (tb_grow (by omega)) ?_
          have bgr := sp_grow_le ((sp_move g c) (36 + 5 * c))
          refine jt_go jm_m162 76 1 (f' := (121, [(6, .inl (nI (sp_toc g c))), (5, .inl (nI (min (sp_ap (g (38 + 5 * c)) (sp_goal g c)) (sp_pace (g (36 + 5 * c)) (g (37 + 5 * c)) (g 2))))), (4, .inl (nI (sp_goal g c))), (3, .inl (nI (g (38 + 5 * c)))), (0, .inr (.inr (5, a, 0))), (1, .inl (nI c)), (2, .inl (nI 0))], [.inl ((nI ((sp_move g c) (39 + 5 * c))) + (nI (sp_grow ((sp_move g c) (36 + 5 * c))))), .inl (nI 99), .inl (nI (39 + 5 * c)), .inr (.inr (5, a, 0))], h4)) (P := True) rfl trivial ?_
          refine jt_ti (show ((nI ((sp_move g c) (39 + 5 * c))) + (nI (sp_grow ((sp_move g c) (36 + 5 * c))))) = nI ((sp_move g c) (39 + 5 * c) + (sp_grow ((sp_move g c) (36 + 5 * c)))) from nI_add _ _) ?_
          refine jt_callp (w := .inl (nI (min 99 ((sp_move g c) (39 + 5 * c) + (sp_grow ((sp_move g c) (36 + 5 * c))))))) jm_m162 77 (mi' := 144) (as := [.inl (nI 99), .inl (nI ((sp_move g c) (39 + 5 * c) + (sp_grow ((sp_move g c) (36 + 5 * c)))))]) (rest := [.inl (nI (39 + 5 * c)), .inr (.inr (5, a, 0))]) (nxt := 124) rfl rfl jm_m144 rfl rfl (tb_least (by omega) (by omega)) ?_
          refine jt_goM jm_m162 78 1 (pc' := 125) (L' := [(6, .inl (nI (sp_toc g c))), (5, .inl (nI (min (sp_ap (g (38 + 5 * c)) (sp_goal g c)) (sp_pace (g (36 + 5 * c)) (g (37 + 5 * c)) (g 2))))), (4, .inl (nI (sp_goal g c))), (3, .inl (nI (g (38 + 5 * c)))), (0, .inr (.inr (5, a, 0))), (1, .inl (nI c)), (2, .inl (nI 0))]) (st' := []) (m' := jm_set h4 (5, a, 0) (upd (h4 (5, a, 0)) (nI (39 + 5 * c)).toNatClampNeg (nI (min 99 ((sp_move g c) (39 + 5 * c) + (sp_grow ((sp_move g c) (36 + 5 * c)))))))) (P := vp_in (nI (39 + 5 * c)) 78 ∧ True) rfl ⟨(vp_in_nI (by omega) (by decide)), trivial⟩ (fun h5 eh5 => ?_)
          have Fh5 : jg_fr a h h5 := by rw [eh5]; exact jg_fr_set Fh4
          obtain ⟨gh5, egh5⟩ : ∃ y, y = sp_up (sp_move g c) (39 + 5 * c) (min 99 ((sp_move g c) (39 + 5 * c) + (sp_grow ((sp_move g c) (36 + 5 * c))))) := ⟨_, rfl⟩
          have Rh5 : jg_rel h5 a gh5 := by rw [eh5, egh5]; exact jg_set Rh4 (k := 39 + 5 * c) (w := min 99 ((sp_move g c) (39 + 5 * c) + (sp_grow ((sp_move g c) (36 + 5 * c))))) (nI_clamp (by omega)) rfl
          have eg : gh5 = sp_gone g c false := by rw [egh5]; rfl
          rw [eg] at Rh5
          have Wg := jw_gone (kept := false) W hc
          have hcg : c < sp_gone g c false 0 := by rw [sp_gone_ne W hc (by omega) (by omega) (by omega)]; exact hc
          refine jt_go jm_m162 79 1 (f' := (127, [(6, .inl (nI (sp_toc g c))), (5, .inl (nI (min (sp_ap (g (38 + 5 * c)) (sp_goal g c)) (sp_pace (g (36 + 5 * c)) (g (37 + 5 * c)) (g 2))))), (4, .inl (nI (sp_goal g c))), (3, .inl (nI (g (38 + 5 * c)))), (0, .inr (.inr (5, a, 0))), (1, .inl (nI c)), (2, .inl (nI 0))], [.inl (nI (sp_toc g c))], h5)) (P := True) rfl trivial ?_
          refine jt_callp (w := .inl (nI (sp_sd (sp_toc g c)))) jm_m162 80 (mi' := 154) (as := [.inl (nI (sp_toc g c))]) (rest := []) (nxt := 130) rfl rfl jm_m154 rfl rfl (tb_sideOf (by omega)) ?_
          have bq16 := sp_sd_le (sp_toc g c)
          refine jt_go jm_m162 81 1 (f' := (131, [(6, .inl (nI (sp_toc g c))), (5, .inl (nI (min (sp_ap (g (38 + 5 * c)) (sp_goal g c)) (sp_pace (g (36 + 5 * c)) (g (37 + 5 * c)) (g 2))))), (4, .inl (nI (sp_goal g c))), (3, .inl (nI (g (38 + 5 * c)))), (0, .inr (.inr (5, a, 0))), (1, .inl (nI c)), (2, .inl (nI 0))], [.inl (nI (g (38 + 5 * c))), .inl (nI (sp_sd (sp_toc g c)))], h5)) (P := True) rfl trivial ?_
          refine jt_callp (w := .inl (nI (sp_sd (g (38 + 5 * c))))) jm_m162 82 (mi' := 154) (as := [.inl (nI (g (38 + 5 * c)))]) (rest := [.inl (nI (sp_sd (sp_toc g c)))]) (nxt := 134) rfl rfl jm_m154 rfl rfl (tb_sideOf (by omega)) ?_
          have bq17 := sp_sd_le (g (38 + 5 * c))
          refine jt_niceq jm_m162 83 (a := sp_sd (sp_toc g c)) (b := sp_sd (g (38 + 5 * c))) (by omega) (by omega) (tgt := 141) (nxt := 137) rfl rfl rfl (fun c134 => ?_) (fun c134 => ?_)
          · refine jt_go jm_m162 86 3 (f' := (146, [(7, .inl (nI 0)), (6, .inl (nI (sp_toc g c))), (5, .inl (nI (min (sp_ap (g (38 + 5 * c)) (sp_goal g c)) (sp_pace (g (36 + 5 * c)) (g (37 + 5 * c)) (g 2))))), (4, .inl (nI (sp_goal g c))), (3, .inl (nI (g (38 + 5 * c)))), (0, .inr (.inr (5, a, 0))), (1, .inl (nI c)), (2, .inl (nI 0))], [.inl (nI 0)], h5)) (P := True) rfl trivial ?_
            refine jt_nifeq jm_m162 89 (by omega) (tgt := 158) (nxt := 149) rfl rfl rfl (fun c146 => ?_) (fun c146 => ?_)
            · refine jt_go jm_m162 95 1 (f' := (160, [(7, .inl (nI 0)), (6, .inl (nI (sp_toc g c))), (5, .inl (nI (min (sp_ap (g (38 + 5 * c)) (sp_goal g c)) (sp_pace (g (36 + 5 * c)) (g (37 + 5 * c)) (g 2))))), (4, .inl (nI (sp_goal g c))), (3, .inl (nI (g (38 + 5 * c)))), (0, .inr (.inr (5, a, 0))), (1, .inl (nI c)), (2, .inl (nI 0))], [.inl (nI 0)], h5)) (P := True) rfl trivial ?_
              refine jt_zret jm_m162 96 rfl (Or.inl rfl) ?_
              refine ⟨jt_lb0 (by rw [sp_gone_at W hc]; exact fun z => z c134.symm), ?_, Fh5⟩
              unfold sp_one
              rw [if_neg (by rw [sp_gone_at W hc]; exact fun z => z c134.symm)]
              exact Rh5
            · exact absurd c146 (by decide)
          · refine jt_go jm_m162 84 2 (f' := (142, [(6, .inl (nI (sp_toc g c))), (5, .inl (nI (min (sp_ap (g (38 + 5 * c)) (sp_goal g c)) (sp_pace (g (36 + 5 * c)) (g (37 + 5 * c)) (g 2))))), (4, .inl (nI (sp_goal g c))), (3, .inl (nI (g (38 + 5 * c)))), (0, .inr (.inr (5, a, 0))), (1, .inl (nI c)), (2, .inl (nI 0))], [.inl (nI 1)], h5)) (P := True) rfl trivial ?_
            refine jt_go jm_m162 87 2 (f' := (146, [(7, .inl (nI 1)), (6, .inl (nI (sp_toc g c))), (5, .inl (nI (min (sp_ap (g (38 + 5 * c)) (sp_goal g c)) (sp_pace (g (36 + 5 * c)) (g (37 + 5 * c)) (g 2))))), (4, .inl (nI (sp_goal g c))), (3, .inl (nI (g (38 + 5 * c)))), (0, .inr (.inr (5, a, 0))), (1, .inl (nI c)), (2, .inl (nI 0))], [.inl (nI 1)], h5)) (P := True) rfl trivial ?_
            refine jt_nifeq jm_m162 89 (by omega) (tgt := 158) (nxt := 149) rfl rfl rfl (fun c146 => ?_) (fun c146 => ?_)
            · exact absurd c146 (by decide)
            · refine jt_go jm_m162 90 3 (f' := (152, [(7, .inl (nI 1)), (6, .inl (nI (sp_toc g c))), (5, .inl (nI (min (sp_ap (g (38 + 5 * c)) (sp_goal g c)) (sp_pace (g (36 + 5 * c)) (g (37 + 5 * c)) (g 2))))), (4, .inl (nI (sp_goal g c))), (3, .inl (nI (g (38 + 5 * c)))), (0, .inr (.inr (5, a, 0))), (1, .inl (nI c)), (2, .inl (nI 0))], [.inl (nI (g (38 + 5 * c))), .inl (nI c), .inr (.inr (5, a, 0))], h5)) (P := True) rfl trivial ?_
              refine jt_callp (w := .inl (nI (sp_sd (g (38 + 5 * c))))) jm_m162 93 (mi' := 154) (as := [.inl (nI (g (38 + 5 * c)))]) (rest := [.inl (nI c), .inr (.inr (5, a, 0))]) (nxt := 155) rfl rfl jm_m154 rfl rfl (tb_sideOf (by omega)) ?_
              have bq18 := sp_sd_le (g (38 + 5 * c))
              refine jt_call jm_m162 94 (mi' := 161) (as := [.inr (.inr (5, a, 0)), .inl (nI c), .inl (nI (sp_sd (g (38 + 5 * c))))]) (rest := []) (nxt := 158) rfl rfl jm_m161 rfl rfl (tb_pass Rh5 Wg hcg (sp_sd_le _)) ?_
              rintro u h9 ⟨rfl, Rh9, Fh9⟩
              show jt_T 162 (158, [(7, .inl (nI 1)), (6, .inl (nI (sp_toc g c))), (5, .inl (nI (min (sp_ap (g (38 + 5 * c)) (sp_goal g c)) (sp_pace (g (36 + 5 * c)) (g (37 + 5 * c)) (g 2))))), (4, .inl (nI (sp_goal g c))), (3, .inl (nI (g (38 + 5 * c)))), (0, .inr (.inr (5, a, 0))), (1, .inl (nI c)), (2, .inl (nI 0))], [], h9) _
              have Fh9 := jg_fr_tr Fh5 Fh9
              refine jt_go jm_m162 95 1 (f' := (160, [(7, .inl (nI 1)), (6, .inl (nI (sp_toc g c))), (5, .inl (nI (min (sp_ap (g (38 + 5 * c)) (sp_goal g c)) (sp_pace (g (36 + 5 * c)) (g (37 + 5 * c)) (g 2))))), (4, .inl (nI (sp_goal g c))), (3, .inl (nI (g (38 + 5 * c)))), (0, .inr (.inr (5, a, 0))), (1, .inl (nI c)), (2, .inl (nI 0))], [.inl (nI 1)], h9)) (P := True) rfl trivial ?_
              refine jt_zret jm_m162 96 rfl (Or.inr rfl) ?_
              refine ⟨jt_lb1 (by rw [sp_gone_at W hc]; exact fun z => c134 z.symm), ?_, Fh9⟩
              unfold sp_one
              rw [if_pos (by rw [sp_gone_at W hc]; exact fun z => c134 z.symm)]
              exact Rh9
    · have bap := sp_ap_l c45
      refine jt_go jm_m162 28 3 (f' := (52, [(5, .inl (nI (min (sp_ap (g (38 + 5 * c)) (sp_goal g c)) (sp_pace (g (36 + 5 * c)) (g (37 + 5 * c)) (g 2))))), (4, .inl (nI (sp_goal g c))), (3, .inl (nI (g (38 + 5 * c)))), (0, .inr (.inr (5, a, 0))), (1, .inl (nI c)), (2, .inl (nI 0))], [.inl ((nI (g (38 + 5 * c))) + (nI (min (sp_ap (g (38 + 5 * c)) (sp_goal g c)) (sp_pace (g (36 + 5 * c)) (g (37 + 5 * c)) (g 2)))))], h)) (P := True) rfl trivial ?_
      refine jt_ti (show ((nI (g (38 + 5 * c))) + (nI (min (sp_ap (g (38 + 5 * c)) (sp_goal g c)) (sp_pace (g (36 + 5 * c)) (g (37 + 5 * c)) (g 2))))) = nI (sp_toc g c) from by rw [nI_add, bap]; exact congrArg nI (show g (38 + 5 * c) + min (sp_goal g c - g (38 + 5 * c)) (sp_pace (g (36 + 5 * c)) (g (37 + 5 * c)) (g 2)) = sp_toc g c from (if_pos c45).symm)) ?_
      refine jt_go jm_m162 31 1 (f' := (59, [(5, .inl (nI (min (sp_ap (g (38 + 5 * c)) (sp_goal g c)) (sp_pace (g (36 + 5 * c)) (g (37 + 5 * c)) (g 2))))), (4, .inl (nI (sp_goal g c))), (3, .inl (nI (g (38 + 5 * c)))), (0, .inr (.inr (5, a, 0))), (1, .inl (nI c)), (2, .inl (nI 0))], [.inl (nI (sp_toc g c))], h)) (P := True) rfl trivial ?_
      refine jt_go jm_m162 35 4 (f' := (64, [(6, .inl (nI (sp_toc g c))), (5, .inl (nI (min (sp_ap (g (38 + 5 * c)) (sp_goal g c)) (sp_pace (g (36 + 5 * c)) (g (37 + 5 * c)) (g 2))))), (4, .inl (nI (sp_goal g c))), (3, .inl (nI (g (38 + 5 * c)))), (0, .inr (.inr (5, a, 0))), (1, .inl (nI c)), (2, .inl (nI 0))], [.inl (nI 2), .inl (nI c), .inr (.inr (5, a, 0))], h)) (P := True) rfl trivial ?_
      refine jt_callp (w := .inl (nI (38 + 5 * c))) jm_m162 39 (mi' := 147) (as := [.inl (nI c), .inl (nI 2)]) (rest := [.inr (.inr (5, a, 0))]) (nxt := 67) rfl rfl jm_m147 rfl rfl (tb_ofC (k := 38 + 5 * c) (by omega)) ?_
      refine jt_goM jm_m162 40 2 (pc' := 70) (L' := [(6, .inl (nI (sp_toc g c))), (5, .inl (nI (min (sp_ap (g (38 + 5 * c)) (sp_goal g c)) (sp_pace (g (36 + 5 * c)) (g (37 + 5 * c)) (g 2))))), (4, .inl (nI (sp_goal g c))), (3, .inl (nI (g (38 + 5 * c)))), (0, .inr (.inr (5, a, 0))), (1, .inl (nI c)), (2, .inl (nI 0))]) (st' := []) (m' := jm_set h (5, a, 0) (upd (h (5, a, 0)) (nI (38 + 5 * c)).toNatClampNeg (nI (sp_toc g c)))) (P := vp_in (nI (38 + 5 * c)) 78 ∧ True) rfl ⟨(vp_in_nI (by omega) (by decide)), trivial⟩ (fun h6 eh6 => ?_)
      have Fh6 : jg_fr a h h6 := by rw [eh6]; exact jg_fr_set jg_fr_rf
      obtain ⟨gh6, egh6⟩ : ∃ y, y = sp_up g (38 + 5 * c) (sp_toc g c) := ⟨_, rfl⟩
      have Rh6 : jg_rel h6 a gh6 := by rw [eh6, egh6]; exact jg_set R (k := 38 + 5 * c) (w := sp_toc g c) (nI_clamp (by omega)) rfl
      refine jt_go jm_m162 42 2 (f' := (73, [(6, .inl (nI (sp_toc g c))), (5, .inl (nI (min (sp_ap (g (38 + 5 * c)) (sp_goal g c)) (sp_pace (g (36 + 5 * c)) (g (37 + 5 * c)) (g 2))))), (4, .inl (nI (sp_goal g c))), (3, .inl (nI (g (38 + 5 * c)))), (0, .inr (.inr (5, a, 0))), (1, .inl (nI c)), (2, .inl (nI 0))], [.inl (nI (g (38 + 5 * c))), .inl (nI (sp_toc g c))], h6)) (P := True) rfl trivial ?_
      refine jt_niceq jm_m162 44 (a := sp_toc g c) (b := g (38 + 5 * c)) (by omega) (by omega) (tgt := 95) (nxt := 76) rfl rfl rfl (fun c73 => ?_) (fun c73 => ?_)
      · have e95 : gh6 = (sp_move g c) := by rw [egh6]; unfold sp_move; rw [if_pos c73]; exact sp_up_self c73
        rw [e95] at Rh6
        refine jt_go jm_m162 60 3 (f' := (98, [(6, .inl (nI (sp_toc g c))), (5, .inl (nI (min (sp_ap (g (38 + 5 * c)) (sp_goal g c)) (sp_pace (g (36 + 5 * c)) (g (37 + 5 * c)) (g 2))))), (4, .inl (nI (sp_goal g c))), (3, .inl (nI (g (38 + 5 * c)))), (0, .inr (.inr (5, a, 0))), (1, .inl (nI c)), (2, .inl (nI 0))], [.inl (nI 3), .inl (nI c), .inr (.inr (5, a, 0))], h6)) (P := True) rfl trivial ?_
        refine jt_callp (w := .inl (nI (39 + 5 * c))) jm_m162 63 (mi' := 147) (as := [.inl (nI c), .inl (nI 3)]) (rest := [.inr (.inr (5, a, 0))]) (nxt := 101) rfl rfl jm_m147 rfl rfl (tb_ofC (k := 39 + 5 * c) (by omega)) ?_
        refine jt_go jm_m162 64 4 (f' := (106, [(6, .inl (nI (sp_toc g c))), (5, .inl (nI (min (sp_ap (g (38 + 5 * c)) (sp_goal g c)) (sp_pace (g (36 + 5 * c)) (g (37 + 5 * c)) (g 2))))), (4, .inl (nI (sp_goal g c))), (3, .inl (nI (g (38 + 5 * c)))), (0, .inr (.inr (5, a, 0))), (1, .inl (nI c)), (2, .inl (nI 0))], [.inl (nI 3), .inl (nI c), .inr (.inr (5, a, 0)), .inl (nI 99), .inl (nI (39 + 5 * c)), .inr (.inr (5, a, 0))], h6)) (P := True) rfl trivial ?_
        refine jt_callp (w := .inl (nI (39 + 5 * c))) jm_m162 68 (mi' := 147) (as := [.inl (nI c), .inl (nI 3)]) (rest := [.inr (.inr (5, a, 0)), .inl (nI 99), .inl (nI (39 + 5 * c)), .inr (.inr (5, a, 0))]) (nxt := 109) rfl rfl jm_m147 rfl rfl (tb_ofC (k := 39 + 5 * c) (by omega)) ?_
        refine jt_go jm_m162 69 1 (f' := (110, [(6, .inl (nI (sp_toc g c))), (5, .inl (nI (min (sp_ap (g (38 + 5 * c)) (sp_goal g c)) (sp_pace (g (36 + 5 * c)) (g (37 + 5 * c)) (g 2))))), (4, .inl (nI (sp_goal g c))), (3, .inl (nI (g (38 + 5 * c)))), (0, .inr (.inr (5, a, 0))), (1, .inl (nI c)), (2, .inl (nI 0))], [.inl (h6 (5, a, 0) (nI (39 + 5 * c)).toNatClampNeg), .inl (nI 99), .inl (nI (39 + 5 * c)), .inr (.inr (5, a, 0))], h6)) (P := vp_in (nI (39 + 5 * c)) 78 ∧ True) rfl ⟨(vp_in_nI (by omega) (by decide)), trivial⟩ ?_
        refine jt_ti (show (h6 (5, a, 0) (nI (39 + 5 * c)).toNatClampNeg) = nI ((sp_move g c) (39 + 5 * c)) from jg_get Rh6 (k := 39 + 5 * c) (nI_clamp (by omega)) (by omega)) ?_
        have bq19 := jw_hair Wm (c := c) (by omega)
        refine jt_go jm_m162 70 3 (f' := (113, [(6, .inl (nI (sp_toc g c))), (5, .inl (nI (min (sp_ap (g (38 + 5 * c)) (sp_goal g c)) (sp_pace (g (36 + 5 * c)) (g (37 + 5 * c)) (g 2))))), (4, .inl (nI (sp_goal g c))), (3, .inl (nI (g (38 + 5 * c)))), (0, .inr (.inr (5, a, 0))), (1, .inl (nI c)), (2, .inl (nI 0))], [.inl (nI 0), .inl (nI c), .inr (.inr (5, a, 0)), .inl (nI ((sp_move g c) (39 + 5 * c))), .inl (nI 99), .inl (nI (39 + 5 * c)), .inr (.inr (5, a, 0))], h6)) (P := True) rfl trivial ?_
        refine jt_callp (w := .inl (nI (36 + 5 * c))) jm_m162 73 (mi' := 147) (as := [.inl (nI c), .inl (nI 0)]) (rest := [.inr (.inr (5, a, 0)), .inl (nI ((sp_move g c) (39 + 5 * c))), .inl (nI 99), .inl (nI (39 + 5 * c)), .inr (.inr (5, a, 0))]) (nxt := 116) rfl rfl jm_m147 rfl rfl (tb_ofC (k := 36 + 5 * c) (by omega)) ?_
        refine jt_go jm_m162 74 1 (f' := (117, [(6, .inl (nI (sp_toc g c))), (5, .inl (nI (min (sp_ap (g (38 + 5 * c)) (sp_goal g c)) (sp_pace (g (36 + 5 * c)) (g (37 + 5 * c)) (g 2))))), (4, .inl (nI (sp_goal g c))), (3, .inl (nI (g (38 + 5 * c)))), (0, .inr (.inr (5, a, 0))), (1, .inl (nI c)), (2, .inl (nI 0))], [.inl (h6 (5, a, 0) (nI (36 + 5 * c)).toNatClampNeg), .inl (nI ((sp_move g c) (39 + 5 * c))), .inl (nI 99), .inl (nI (39 + 5 * c)), .inr (.inr (5, a, 0))], h6)) (P := vp_in (nI (36 + 5 * c)) 78 ∧ True) rfl ⟨(vp_in_nI (by omega) (by decide)), trivial⟩ ?_
        refine jt_ti (show (h6 (5, a, 0) (nI (36 + 5 * c)).toNatClampNeg) = nI ((sp_move g c) (36 + 5 * c)) from jg_get Rh6 (k := 36 + 5 * c) (nI_clamp (by omega)) (by omega)) ?_
        have bq20 := jw_kind Wm (c := c) (by omega)
        refine jt_callp (w := .inl (nI (sp_grow ((sp_move g c) (36 + 5 * c))))) jm_m162 75 (mi' := 159) (as := [.inl (nI ((sp_move g c) (36 + 5 * c)))]) (rest := [.inl (nI ((sp_move g c) (39 + 5 * c))), .inl (nI 99), .inl (nI (39 + 5 * c)), .inr (.inr (5, a, 0))]) (nxt := 120) rfl rfl jm_m159 rfl rfl (tb_grow (by omega)) ?_
        have bgr := sp_grow_le ((sp_move g c) (36 + 5 * c))
        refine jt_go jm_m162 76 1 (f' := (121, [(6, .inl (nI (sp_toc g c))), (5, .inl (nI (min (sp_ap (g (38 + 5 * c)) (sp_goal g c)) (sp_pace (g (36 + 5 * c)) (g (37 + 5 * c)) (g 2))))), (4, .inl (nI (sp_goal g c))), (3, .inl (nI (g (38 + 5 * c)))), (0, .inr (.inr (5, a, 0))), (1, .inl (nI c)), (2, .inl (nI 0))], [.inl ((nI ((sp_move g c) (39 + 5 * c))) + (nI (sp_grow ((sp_move g c) (36 + 5 * c))))), .inl (nI 99), .inl (nI (39 + 5 * c)), .inr (.inr (5, a, 0))], h6)) (P := True) rfl trivial ?_
        refine jt_ti (show ((nI ((sp_move g c) (39 + 5 * c))) + (nI (sp_grow ((sp_move g c) (36 + 5 * c))))) = nI ((sp_move g c) (39 + 5 * c) + (sp_grow ((sp_move g c) (36 + 5 * c)))) from nI_add _ _) ?_
        refine jt_callp (w := .inl (nI (min 99 ((sp_move g c) (39 + 5 * c) + (sp_grow ((sp_move g c) (36 + 5 * c))))))) jm_m162 77 (mi' := 144) (as := [.inl (nI 99), .inl (nI ((sp_move g c) (39 + 5 * c) + (sp_grow ((sp_move g c) (36 + 5 * c)))))]) (rest := [.inl (nI (39 + 5 * c)), .inr (.inr (5, a, 0))]) (nxt := 124) rfl rfl jm_m144 rfl rfl (tb_least (by omega) (by omega)) ?_
        refine jt_goM jm_m162 78 1 (pc' := 125) (L' := [(6, .inl (nI (sp_toc g c))), (5, .inl (nI (min (sp_ap (g (38 + 5 * c)) (sp_goal g c)) (sp_pace (g (36 + 5 * c)) (g (37 + 5 * c)) (g 2))))), (4, .inl (nI (sp_goal g c))), (3, .inl (nI (g (38 + 5 * c)))), (0, .inr (.inr (5, a, 0))), (1, .inl (nI c)), (2, .inl (nI 0))]) (st' := []) (m' := jm_set h6 (5, a, 0) (upd (h6 (5, a, 0)) (nI (39 + 5 * c)).toNatClampNeg (nI (min 99 ((sp_move g c) (39 + 5 * c) + (sp_grow ((sp_move g c) (36 + 5 * c)))))))) (P := vp_in (nI (39 + 5 * c)) 78 ∧ True) rfl ⟨(vp_in_nI (by omega) (by decide)), trivial⟩ (fun h7 eh7 => ?_)
        have Fh7 : jg_fr a h h7 := by rw [eh7]; exact jg_fr_set Fh6
        obtain ⟨gh7, egh7⟩ : ∃ y, y = sp_up (sp_move g c) (39 + 5 * c) (min 99 ((sp_move g c) (39 + 5 * c) + (sp_grow ((sp_move g c) (36 + 5 * c))))) := ⟨_, rfl⟩
        have Rh7 : jg_rel h7 a gh7 := by rw [eh7, egh7]; exact jg_set Rh6 (k := 39 + 5 * c) (w := min 99 ((sp_move g c) (39 + 5 * c) + (sp_grow ((sp_move g c) (36 + 5 * c))))) (nI_clamp (by omega)) rfl
        have eg : gh7 = sp_gone g c false := by rw [egh7]; rfl
        rw [eg] at Rh7
        have Wg := jw_gone (kept := false) W hc
        have hcg : c < sp_gone g c false 0 := by rw [sp_gone_ne W hc (by omega) (by omega) (by omega)]; exact hc
        refine jt_go jm_m162 79 1 (f' := (127, [(6, .inl (nI (sp_toc g c))), (5, .inl (nI (min (sp_ap (g (38 + 5 * c)) (sp_goal g c)) (sp_pace (g (36 + 5 * c)) (g (37 + 5 * c)) (g 2))))), (4, .inl (nI (sp_goal g c))), (3, .inl (nI (g (38 + 5 * c)))), (0, .inr (.inr (5, a, 0))), (1, .inl (nI c)), (2, .inl (nI 0))], [.inl (nI (sp_toc g c))], h7)) (P := True) rfl trivial ?_
        refine jt_callp (w := .inl (nI (sp_sd (sp_toc g c)))) jm_m162 80 (mi' := 154) (as := [.inl (nI (sp_toc g c))]) (rest := []) (nxt := 130) rfl rfl jm_m154 rfl rfl (tb_sideOf (by omega)) ?_
        have bq21 := sp_sd_le (sp_toc g c)
        refine jt_go jm_m162 81 1 (f' := (131, [(6, .inl (nI (sp_toc g c))), (5, .inl (nI (min (sp_ap (g (38 + 5 * c)) (sp_goal g c)) (sp_pace (g (36 + 5 * c)) (g (37 + 5 * c)) (g 2))))), (4, .inl (nI (sp_goal g c))), (3, .inl (nI (g (38 + 5 * c)))), (0, .inr (.inr (5, a, 0))), (1, .inl (nI c)), (2, .inl (nI 0))], [.inl (nI (g (38 + 5 * c))), .inl (nI (sp_sd (sp_toc g c)))], h7)) (P := True) rfl trivial ?_
        refine jt_callp (w := .inl (nI (sp_sd (g (38 + 5 * c))))) jm_m162 82 (mi' := 154) (as := [.inl (nI (g (38 + 5 * c)))]) (rest := [.inl (nI (sp_sd (sp_toc g c)))]) (nxt := 134) rfl rfl jm_m154 rfl rfl (tb_sideOf (by omega)) ?_
        have bq22 := sp_sd_le (g (38 + 5 * c))
        refine jt_niceq jm_m162 83 (a := sp_sd (sp_toc g c)) (b := sp_sd (g (38 + 5 * c))) (by omega) (by omega) (tgt := 141) (nxt := 137) rfl rfl rfl (fun c134 => ?_) (fun c134 => ?_)
        · refine jt_go jm_m162 86 3 (f' := (146, [(7, .inl (nI 0)), (6, .inl (nI (sp_toc g c))), (5, .inl (nI (min (sp_ap (g (38 + 5 * c)) (sp_goal g c)) (sp_pace (g (36 + 5 * c)) (g (37 + 5 * c)) (g 2))))), (4, .inl (nI (sp_goal g c))), (3, .inl (nI (g (38 + 5 * c)))), (0, .inr (.inr (5, a, 0))), (1, .inl (nI c)), (2, .inl (nI 0))], [.inl (nI 0)], h7)) (P := True) rfl trivial ?_
          refine jt_nifeq jm_m162 89 (by omega) (tgt := 158) (nxt := 149) rfl rfl rfl (fun c146 => ?_) (fun c146 => ?_)
          · refine jt_go jm_m162 95 1 (f' := (160, [(7, .inl (nI 0)), (6, .inl (nI (sp_toc g c))), (5, .inl (nI (min (sp_ap (g (38 + 5 * c)) (sp_goal g c)) (sp_pace (g (36 + 5 * c)) (g (37 + 5 * c)) (g 2))))), (4, .inl (nI (sp_goal g c))), (3, .inl (nI (g (38 + 5 * c)))), (0, .inr (.inr (5, a, 0))), (1, .inl (nI c)), (2, .inl (nI 0))], [.inl (nI 0)], h7)) (P := True) rfl trivial ?_
            refine jt_zret jm_m162 96 rfl (Or.inl rfl) ?_
            refine ⟨jt_lb0 (by rw [sp_gone_at W hc]; exact fun z => z c134.symm), ?_, Fh7⟩
            unfold sp_one
            rw [if_neg (by rw [sp_gone_at W hc]; exact fun z => z c134.symm)]
            exact Rh7
          · exact absurd c146 (by decide)
        · refine jt_go jm_m162 84 2 (f' := (142, [(6, .inl (nI (sp_toc g c))), (5, .inl (nI (min (sp_ap (g (38 + 5 * c)) (sp_goal g c)) (sp_pace (g (36 + 5 * c)) (g (37 + 5 * c)) (g 2))))), (4, .inl (nI (sp_goal g c))), (3, .inl (nI (g (38 + 5 * c)))), (0, .inr (.inr (5, a, 0))), (1, .inl (nI c)), (2, .inl (nI 0))], [.inl (nI 1)], h7)) (P := True) rfl trivial ?_
          refine jt_go jm_m162 87 2 (f' := (146, [(7, .inl (nI 1)), (6, .inl (nI (sp_toc g c))), (5, .inl (nI (min (sp_ap (g (38 + 5 * c)) (sp_goal g c)) (sp_pace (g (36 + 5 * c)) (g (37 + 5 * c)) (g 2))))), (4, .inl (nI (sp_goal g c))), (3, .inl (nI (g (38 + 5 * c)))), (0, .inr (.inr (5, a, 0))), (1, .inl (nI c)), (2, .inl (nI 0))], [.inl (nI 1)], h7)) (P := True) rfl trivial ?_
          refine jt_nifeq jm_m162 89 (by omega) (tgt := 158) (nxt := 149) rfl rfl rfl (fun c146 => ?_) (fun c146 => ?_)
          · exact absurd c146 (by decide)
          · refine jt_go jm_m162 90 3 (f' := (152, [(7, .inl (nI 1)), (6, .inl (nI (sp_toc g c))), (5, .inl (nI (min (sp_ap (g (38 + 5 * c)) (sp_goal g c)) (sp_pace (g (36 + 5 * c)) (g (37 + 5 * c)) (g 2))))), (4, .inl (nI (sp_goal g c))), (3, .inl (nI (g (38 + 5 * c)))), (0, .inr (.inr (5, a, 0))), (1, .inl (nI c)), (2, .inl (nI 0))], [.inl (nI (g (38 + 5 * c))), .inl (nI c), .inr (.inr (5, a, 0))], h7)) (P := True) rfl trivial ?_
            refine jt_callp (w := .inl (nI (sp_sd (g (38 + 5 * c))))) jm_m162 93 (mi' := 154) (as := [.inl (nI (g (38 + 5 * c)))]) (rest := [.inl (nI c), .inr (.inr (5, a, 0))]) (nxt := 155) rfl rfl jm_m154 rfl rfl (tb_sideOf (by omega)) ?_
            have bq23 := sp_sd_le (g (38 + 5 * c))
            refine jt_call jm_m162 94 (mi' := 161) (as := [.inr (.inr (5, a, 0)), .inl (nI c), .inl (nI (sp_sd (g (38 + 5 * c))))]) (rest := []) (nxt := 158) rfl rfl jm_m161 rfl rfl (tb_pass Rh7 Wg hcg (sp_sd_le _)) ?_
            rintro u h9 ⟨rfl, Rh9, Fh9⟩
            show jt_T 162 (158, [(7, .inl (nI 1)), (6, .inl (nI (sp_toc g c))), (5, .inl (nI (min (sp_ap (g (38 + 5 * c)) (sp_goal g c)) (sp_pace (g (36 + 5 * c)) (g (37 + 5 * c)) (g 2))))), (4, .inl (nI (sp_goal g c))), (3, .inl (nI (g (38 + 5 * c)))), (0, .inr (.inr (5, a, 0))), (1, .inl (nI c)), (2, .inl (nI 0))], [], h9) _
            have Fh9 := jg_fr_tr Fh7 Fh9
            refine jt_go jm_m162 95 1 (f' := (160, [(7, .inl (nI 1)), (6, .inl (nI (sp_toc g c))), (5, .inl (nI (min (sp_ap (g (38 + 5 * c)) (sp_goal g c)) (sp_pace (g (36 + 5 * c)) (g (37 + 5 * c)) (g 2))))), (4, .inl (nI (sp_goal g c))), (3, .inl (nI (g (38 + 5 * c)))), (0, .inr (.inr (5, a, 0))), (1, .inl (nI c)), (2, .inl (nI 0))], [.inl (nI 1)], h9)) (P := True) rfl trivial ?_
            refine jt_zret jm_m162 96 rfl (Or.inr rfl) ?_
            refine ⟨jt_lb1 (by rw [sp_gone_at W hc]; exact fun z => c134 z.symm), ?_, Fh9⟩
            unfold sp_one
            rw [if_pos (by rw [sp_gone_at W hc]; exact fun z => c134 z.symm)]
            exact Rh9
      · refine jt_go jm_m162 45 4 (f' := (81, [(6, .inl (nI (sp_toc g c))), (5, .inl (nI (min (sp_ap (g (38 + 5 * c)) (sp_goal g c)) (sp_pace (g (36 + 5 * c)) (g (37 + 5 * c)) (g 2))))), (4, .inl (nI (sp_goal g c))), (3, .inl (nI (g (38 + 5 * c)))), (0, .inr (.inr (5, a, 0))), (1, .inl (nI c)), (2, .inl (nI 0))], [.inl ((nI 4) + (nI (sp_toc g c))), .inr (.inr (5, a, 0))], h6)) (P := True) rfl trivial ?_
        refine jt_ti (show ((nI 4) + (nI (sp_toc g c))) = nI (4 + sp_toc g c) from nI_add _ _) ?_
        refine jt_go jm_m162 49 1 (f' := (82, [(6, .inl (nI (sp_toc g c))), (5, .inl (nI (min (sp_ap (g (38 + 5 * c)) (sp_goal g c)) (sp_pace (g (36 + 5 * c)) (g (37 + 5 * c)) (g 2))))), (4, .inl (nI (sp_goal g c))), (3, .inl (nI (g (38 + 5 * c)))), (0, .inr (.inr (5, a, 0))), (1, .inl (nI c)), (2, .inl (nI 0))], [.inl (h6 (5, a, 0) (nI (4 + sp_toc g c)).toNatClampNeg)], h6)) (P := vp_in (nI (4 + sp_toc g c)) 78 ∧ True) rfl ⟨(vp_in_nI (by omega) (by decide)), trivial⟩ ?_
        refine jt_ti (show (h6 (5, a, 0) (nI (4 + sp_toc g c)).toNatClampNeg) = nI (gh6 (4 + sp_toc g c)) from jg_get Rh6 (k := 4 + sp_toc g c) (nI_clamp (by omega)) (by omega)) ?_
        have bf : gh6 (4 + sp_toc g c) ≤ 9 := by rw [egh6, sp_up_ne (by omega)]; exact jw_fish W bs
        refine jt_nifle jm_m162 50 (by omega) (tgt := 95) (nxt := 85) rfl rfl rfl (fun c82 => ?_) (fun c82 => ?_)
        · have e95 : gh6 = sp_move g c := by rw [egh6]; unfold sp_move; rw [if_neg c73]; unfold sp_eat; rw [← egh6, if_neg (by omega)]
          rw [e95] at Rh6
          refine jt_go jm_m162 60 3 (f' := (98, [(6, .inl (nI (sp_toc g c))), (5, .inl (nI (min (sp_ap (g (38 + 5 * c)) (sp_goal g c)) (sp_pace (g (36 + 5 * c)) (g (37 + 5 * c)) (g 2))))), (4, .inl (nI (sp_goal g c))), (3, .inl (nI (g (38 + 5 * c)))), (0, .inr (.inr (5, a, 0))), (1, .inl (nI c)), (2, .inl (nI 0))], [.inl (nI 3), .inl (nI c), .inr (.inr (5, a, 0))], h6)) (P := True) rfl trivial ?_
          refine jt_callp (w := .inl (nI (39 + 5 * c))) jm_m162 63 (mi' := 147) (as := [.inl (nI c), .inl (nI 3)]) (rest := [.inr (.inr (5, a, 0))]) (nxt := 101) rfl rfl jm_m147 rfl rfl (tb_ofC (k := 39 + 5 * c) (by omega)) ?_
          refine jt_go jm_m162 64 4 (f' := (106, [(6, .inl (nI (sp_toc g c))), (5, .inl (nI (min (sp_ap (g (38 + 5 * c)) (sp_goal g c)) (sp_pace (g (36 + 5 * c)) (g (37 + 5 * c)) (g 2))))), (4, .inl (nI (sp_goal g c))), (3, .inl (nI (g (38 + 5 * c)))), (0, .inr (.inr (5, a, 0))), (1, .inl (nI c)), (2, .inl (nI 0))], [.inl (nI 3), .inl (nI c), .inr (.inr (5, a, 0)), .inl (nI 99), .inl (nI (39 + 5 * c)), .inr (.inr (5, a, 0))], h6)) (P := True) rfl trivial ?_
          refine jt_callp (w := .inl (nI (39 + 5 * c))) jm_m162 68 (mi' := 147) (as := [.inl (nI c), .inl (nI 3)]) (rest := [.inr (.inr (5, a, 0)), .inl (nI 99), .inl (nI (39 + 5 * c)), .inr (.inr (5, a, 0))]) (nxt := 109) rfl rfl jm_m147 rfl rfl (tb_ofC (k := 39 + 5 * c) (by omega)) ?_
          refine jt_go jm_m162 69 1 (f' := (110, [(6, .inl (nI (sp_toc g c))), (5, .inl (nI (min (sp_ap (g (38 + 5 * c)) (sp_goal g c)) (sp_pace (g (36 + 5 * c)) (g (37 + 5 * c)) (g 2))))), (4, .inl (nI (sp_goal g c))), (3, .inl (nI (g (38 + 5 * c)))), (0, .inr (.inr (5, a, 0))), (1, .inl (nI c)), (2, .inl (nI 0))], [.inl (h6 (5, a, 0) (nI (39 + 5 * c)).toNatClampNeg), .inl (nI 99), .inl (nI (39 + 5 * c)), .inr (.inr (5, a, 0))], h6)) (P := vp_in (nI (39 + 5 * c)) 78 ∧ True) rfl ⟨(vp_in_nI (by omega) (by decide)), trivial⟩ ?_
          refine jt_ti (show (h6 (5, a, 0) (nI (39 + 5 * c)).toNatClampNeg) = nI ((sp_move g c) (39 + 5 * c)) from jg_get Rh6 (k := 39 + 5 * c) (nI_clamp (by omega)) (by omega)) ?_
          have bq24 := jw_hair Wm (c := c) (by omega)
          refine jt_go jm_m162 70 3 (f' := (113, [(6, .inl (nI (sp_toc g c))), (5, .inl (nI (min (sp_ap (g (38 + 5 * c)) (sp_goal g c)) (sp_pace (g (36 + 5 * c)) (g (37 + 5 * c)) (g 2))))), (4, .inl (nI (sp_goal g c))), (3, .inl (nI (g (38 + 5 * c)))), (0, .inr (.inr (5, a, 0))), (1, .inl (nI c)), (2, .inl (nI 0))], [.inl (nI 0), .inl (nI c), .inr (.inr (5, a, 0)), .inl (nI ((sp_move g c) (39 + 5 * c))), .inl (nI 99), .inl (nI (39 + 5 * c)), .inr (.inr (5, a, 0))], h6)) (P := True) rfl trivial ?_
          refine jt_callp (w := .inl (nI (36 + 5 * c))) jm_m162 73 (mi' := 147) (as := [.inl (nI c), .inl (nI 0)]) (rest := [.inr (.inr (5, a, 0)), .inl (nI ((sp_move g c) (39 + 5 * c))), .inl (nI 99), .inl (nI (39 + 5 * c)), .inr (.inr (5, a, 0))]) (nxt := 116) rfl rfl jm_m147 rfl rfl (tb_ofC (k := 36 + 5 * c) (by omega)) ?_
          refine jt_go jm_m162 74 1 (f' := (117, [(6, .inl (nI (sp_toc g c))), (5, .inl (nI (min (sp_ap (g (38 + 5 * c)) (sp_goal g c)) (sp_pace (g (36 + 5 * c)) (g (37 + 5 * c)) (g 2))))), (4, .inl (nI (sp_goal g c))), (3, .inl (nI (g (38 + 5 * c)))), (0, .inr (.inr (5, a, 0))), (1, .inl (nI c)), (2, .inl (nI 0))], [.inl (h6 (5, a, 0) (nI (36 + 5 * c)).toNatClampNeg), .inl (nI ((sp_move g c) (39 + 5 * c))), .inl (nI 99), .inl (nI (39 + 5 * c)), .inr (.inr (5, a, 0))], h6)) (P := vp_in (nI (36 + 5 * c)) 78 ∧ True) rfl ⟨(vp_in_nI (by omega) (by decide)), trivial⟩ ?_
          refine jt_ti (show (h6 (5, a, 0) (nI (36 + 5 * c)).toNatClampNeg) = nI ((sp_move g c) (36 + 5 * c)) from jg_get Rh6 (k := 36 + 5 * c) (nI_clamp (by omega)) (by omega)) ?_
          have bq25 := jw_kind Wm (c := c) (by omega)
          refine jt_callp (w := .inl (nI (sp_grow ((sp_move g c) (36 + 5 * c))))) jm_m162 75 (mi' := 159) (as := [.inl (nI ((sp_move g c) (36 + 5 * c)))]) (rest := [.inl (nI ((sp_move g c) (39 + 5 * c))), .inl (nI 99), .inl (nI (39 + 5 * c)), .inr (.inr (5, a, 0))]) (nxt := 120) rfl rfl jm_m159 rfl rfl (tb_grow (by omega)) ?_
          have bgr := sp_grow_le ((sp_move g c) (36 + 5 * c))
          refine jt_go jm_m162 76 1 (f' := (121, [(6, .inl (nI (sp_toc g c))), (5, .inl (nI (min (sp_ap (g (38 + 5 * c)) (sp_goal g c)) (sp_pace (g (36 + 5 * c)) (g (37 + 5 * c)) (g 2))))), (4, .inl (nI (sp_goal g c))), (3, .inl (nI (g (38 + 5 * c)))), (0, .inr (.inr (5, a, 0))), (1, .inl (nI c)), (2, .inl (nI 0))], [.inl ((nI ((sp_move g c) (39 + 5 * c))) + (nI (sp_grow ((sp_move g c) (36 + 5 * c))))), .inl (nI 99), .inl (nI (39 + 5 * c)), .inr (.inr (5, a, 0))], h6)) (P := True) rfl trivial ?_
          refine jt_ti (show ((nI ((sp_move g c) (39 + 5 * c))) + (nI (sp_grow ((sp_move g c) (36 + 5 * c))))) = nI ((sp_move g c) (39 + 5 * c) + (sp_grow ((sp_move g c) (36 + 5 * c)))) from nI_add _ _) ?_
          refine jt_callp (w := .inl (nI (min 99 ((sp_move g c) (39 + 5 * c) + (sp_grow ((sp_move g c) (36 + 5 * c))))))) jm_m162 77 (mi' := 144) (as := [.inl (nI 99), .inl (nI ((sp_move g c) (39 + 5 * c) + (sp_grow ((sp_move g c) (36 + 5 * c)))))]) (rest := [.inl (nI (39 + 5 * c)), .inr (.inr (5, a, 0))]) (nxt := 124) rfl rfl jm_m144 rfl rfl (tb_least (by omega) (by omega)) ?_
          refine jt_goM jm_m162 78 1 (pc' := 125) (L' := [(6, .inl (nI (sp_toc g c))), (5, .inl (nI (min (sp_ap (g (38 + 5 * c)) (sp_goal g c)) (sp_pace (g (36 + 5 * c)) (g (37 + 5 * c)) (g 2))))), (4, .inl (nI (sp_goal g c))), (3, .inl (nI (g (38 + 5 * c)))), (0, .inr (.inr (5, a, 0))), (1, .inl (nI c)), (2, .inl (nI 0))]) (st' := []) (m' := jm_set h6 (5, a, 0) (upd (h6 (5, a, 0)) (nI (39 + 5 * c)).toNatClampNeg (nI (min 99 ((sp_move g c) (39 + 5 * c) + (sp_grow ((sp_move g c) (36 + 5 * c)))))))) (P := vp_in (nI (39 + 5 * c)) 78 ∧ True) rfl ⟨(vp_in_nI (by omega) (by decide)), trivial⟩ (fun h8 eh8 => ?_)
          have Fh8 : jg_fr a h h8 := by rw [eh8]; exact jg_fr_set Fh6
          obtain ⟨gh8, egh8⟩ : ∃ y, y = sp_up (sp_move g c) (39 + 5 * c) (min 99 ((sp_move g c) (39 + 5 * c) + (sp_grow ((sp_move g c) (36 + 5 * c))))) := ⟨_, rfl⟩
          have Rh8 : jg_rel h8 a gh8 := by rw [eh8, egh8]; exact jg_set Rh6 (k := 39 + 5 * c) (w := min 99 ((sp_move g c) (39 + 5 * c) + (sp_grow ((sp_move g c) (36 + 5 * c))))) (nI_clamp (by omega)) rfl
          have eg : gh8 = sp_gone g c false := by rw [egh8]; rfl
          rw [eg] at Rh8
          have Wg := jw_gone (kept := false) W hc
          have hcg : c < sp_gone g c false 0 := by rw [sp_gone_ne W hc (by omega) (by omega) (by omega)]; exact hc
          refine jt_go jm_m162 79 1 (f' := (127, [(6, .inl (nI (sp_toc g c))), (5, .inl (nI (min (sp_ap (g (38 + 5 * c)) (sp_goal g c)) (sp_pace (g (36 + 5 * c)) (g (37 + 5 * c)) (g 2))))), (4, .inl (nI (sp_goal g c))), (3, .inl (nI (g (38 + 5 * c)))), (0, .inr (.inr (5, a, 0))), (1, .inl (nI c)), (2, .inl (nI 0))], [.inl (nI (sp_toc g c))], h8)) (P := True) rfl trivial ?_
          refine jt_callp (w := .inl (nI (sp_sd (sp_toc g c)))) jm_m162 80 (mi' := 154) (as := [.inl (nI (sp_toc g c))]) (rest := []) (nxt := 130) rfl rfl jm_m154 rfl rfl (tb_sideOf (by omega)) ?_
          have bq26 := sp_sd_le (sp_toc g c)
          refine jt_go jm_m162 81 1 (f' := (131, [(6, .inl (nI (sp_toc g c))), (5, .inl (nI (min (sp_ap (g (38 + 5 * c)) (sp_goal g c)) (sp_pace (g (36 + 5 * c)) (g (37 + 5 * c)) (g 2))))), (4, .inl (nI (sp_goal g c))), (3, .inl (nI (g (38 + 5 * c)))), (0, .inr (.inr (5, a, 0))), (1, .inl (nI c)), (2, .inl (nI 0))], [.inl (nI (g (38 + 5 * c))), .inl (nI (sp_sd (sp_toc g c)))], h8)) (P := True) rfl trivial ?_
          refine jt_callp (w := .inl (nI (sp_sd (g (38 + 5 * c))))) jm_m162 82 (mi' := 154) (as := [.inl (nI (g (38 + 5 * c)))]) (rest := [.inl (nI (sp_sd (sp_toc g c)))]) (nxt := 134) rfl rfl jm_m154 rfl rfl (tb_sideOf (by omega)) ?_
          have bq27 := sp_sd_le (g (38 + 5 * c))
          refine jt_niceq jm_m162 83 (a := sp_sd (sp_toc g c)) (b := sp_sd (g (38 + 5 * c))) (by omega) (by omega) (tgt := 141) (nxt := 137) rfl rfl rfl (fun c134 => ?_) (fun c134 => ?_)
          · refine jt_go jm_m162 86 3 (f' := (146, [(7, .inl (nI 0)), (6, .inl (nI (sp_toc g c))), (5, .inl (nI (min (sp_ap (g (38 + 5 * c)) (sp_goal g c)) (sp_pace (g (36 + 5 * c)) (g (37 + 5 * c)) (g 2))))), (4, .inl (nI (sp_goal g c))), (3, .inl (nI (g (38 + 5 * c)))), (0, .inr (.inr (5, a, 0))), (1, .inl (nI c)), (2, .inl (nI 0))], [.inl (nI 0)], h8)) (P := True) rfl trivial ?_
            refine jt_nifeq jm_m162 89 (by omega) (tgt := 158) (nxt := 149) rfl rfl rfl (fun c146 => ?_) (fun c146 => ?_)
            · refine jt_go jm_m162 95 1 (f' := (160, [(7, .inl (nI 0)), (6, .inl (nI (sp_toc g c))), (5, .inl (nI (min (sp_ap (g (38 + 5 * c)) (sp_goal g c)) (sp_pace (g (36 + 5 * c)) (g (37 + 5 * c)) (g 2))))), (4, .inl (nI (sp_goal g c))), (3, .inl (nI (g (38 + 5 * c)))), (0, .inr (.inr (5, a, 0))), (1, .inl (nI c)), (2, .inl (nI 0))], [.inl (nI 0)], h8)) (P := True) rfl trivial ?_
              refine jt_zret jm_m162 96 rfl (Or.inl rfl) ?_
              refine ⟨jt_lb0 (by rw [sp_gone_at W hc]; exact fun z => z c134.symm), ?_, Fh8⟩
              unfold sp_one
              rw [if_neg (by rw [sp_gone_at W hc]; exact fun z => z c134.symm)]
              exact Rh8
            · exact absurd c146 (by decide)
          · refine jt_go jm_m162 84 2 (f' := (142, [(6, .inl (nI (sp_toc g c))), (5, .inl (nI (min (sp_ap (g (38 + 5 * c)) (sp_goal g c)) (sp_pace (g (36 + 5 * c)) (g (37 + 5 * c)) (g 2))))), (4, .inl (nI (sp_goal g c))), (3, .inl (nI (g (38 + 5 * c)))), (0, .inr (.inr (5, a, 0))), (1, .inl (nI c)), (2, .inl (nI 0))], [.inl (nI 1)], h8)) (P := True) rfl trivial ?_
            refine jt_go jm_m162 87 2 (f' := (146, [(7, .inl (nI 1)), (6, .inl (nI (sp_toc g c))), (5, .inl (nI (min (sp_ap (g (38 + 5 * c)) (sp_goal g c)) (sp_pace (g (36 + 5 * c)) (g (37 + 5 * c)) (g 2))))), (4, .inl (nI (sp_goal g c))), (3, .inl (nI (g (38 + 5 * c)))), (0, .inr (.inr (5, a, 0))), (1, .inl (nI c)), (2, .inl (nI 0))], [.inl (nI 1)], h8)) (P := True) rfl trivial ?_
            refine jt_nifeq jm_m162 89 (by omega) (tgt := 158) (nxt := 149) rfl rfl rfl (fun c146 => ?_) (fun c146 => ?_)
            · exact absurd c146 (by decide)
            · refine jt_go jm_m162 90 3 (f' := (152, [(7, .inl (nI 1)), (6, .inl (nI (sp_toc g c))), (5, .inl (nI (min (sp_ap (g (38 + 5 * c)) (sp_goal g c)) (sp_pace (g (36 + 5 * c)) (g (37 + 5 * c)) (g 2))))), (4, .inl (nI (sp_goal g c))), (3, .inl (nI (g (38 + 5 * c)))), (0, .inr (.inr (5, a, 0))), (1, .inl (nI c)), (2, .inl (nI 0))], [.inl (nI (g (38 + 5 * c))), .inl (nI c), .inr (.inr (5, a, 0))], h8)) (P := True) rfl trivial ?_
              refine jt_callp (w := .inl (nI (sp_sd (g (38 + 5 * c))))) jm_m162 93 (mi' := 154) (as := [.inl (nI (g (38 + 5 * c)))]) (rest := [.inl (nI c), .inr (.inr (5, a, 0))]) (nxt := 155) rfl rfl jm_m154 rfl rfl (tb_sideOf (by omega)) ?_
              have bq28 := sp_sd_le (g (38 + 5 * c))
              refine jt_call jm_m162 94 (mi' := 161) (as := [.inr (.inr (5, a, 0)), .inl (nI c), .inl (nI (sp_sd (g (38 + 5 * c))))]) (rest := []) (nxt := 158) rfl rfl jm_m161 rfl rfl (tb_pass Rh8 Wg hcg (sp_sd_le _)) ?_
              rintro u h9 ⟨rfl, Rh9, Fh9⟩
              show jt_T 162 (158, [(7, .inl (nI 1)), (6, .inl (nI (sp_toc g c))), (5, .inl (nI (min (sp_ap (g (38 + 5 * c)) (sp_goal g c)) (sp_pace (g (36 + 5 * c)) (g (37 + 5 * c)) (g 2))))), (4, .inl (nI (sp_goal g c))), (3, .inl (nI (g (38 + 5 * c)))), (0, .inr (.inr (5, a, 0))), (1, .inl (nI c)), (2, .inl (nI 0))], [], h9) _
              have Fh9 := jg_fr_tr Fh8 Fh9
              refine jt_go jm_m162 95 1 (f' := (160, [(7, .inl (nI 1)), (6, .inl (nI (sp_toc g c))), (5, .inl (nI (min (sp_ap (g (38 + 5 * c)) (sp_goal g c)) (sp_pace (g (36 + 5 * c)) (g (37 + 5 * c)) (g 2))))), (4, .inl (nI (sp_goal g c))), (3, .inl (nI (g (38 + 5 * c)))), (0, .inr (.inr (5, a, 0))), (1, .inl (nI c)), (2, .inl (nI 0))], [.inl (nI 1)], h9)) (P := True) rfl trivial ?_
              refine jt_zret jm_m162 96 rfl (Or.inr rfl) ?_
              refine ⟨jt_lb1 (by rw [sp_gone_at W hc]; exact fun z => c134 z.symm), ?_, Fh9⟩
              unfold sp_one
              rw [if_pos (by rw [sp_gone_at W hc]; exact fun z => c134 z.symm)]
              exact Rh9
        · refine jt_go jm_m162 51 4 (f' := (90, [(6, .inl (nI (sp_toc g c))), (5, .inl (nI (min (sp_ap (g (38 + 5 * c)) (sp_goal g c)) (sp_pace (g (36 + 5 * c)) (g (37 + 5 * c)) (g 2))))), (4, .inl (nI (sp_goal g c))), (3, .inl (nI (g (38 + 5 * c)))), (0, .inr (.inr (5, a, 0))), (1, .inl (nI c)), (2, .inl (nI 0))], [.inl ((nI 4) + (nI (sp_toc g c))), .inr (.inr (5, a, 0))], h6)) (P := True) rfl trivial ?_
          refine jt_ti (show ((nI 4) + (nI (sp_toc g c))) = nI (4 + sp_toc g c) from nI_add _ _) ?_
          refine jt_go jm_m162 55 2 (f' := (92, [(6, .inl (nI (sp_toc g c))), (5, .inl (nI (min (sp_ap (g (38 + 5 * c)) (sp_goal g c)) (sp_pace (g (36 + 5 * c)) (g (37 + 5 * c)) (g 2))))), (4, .inl (nI (sp_goal g c))), (3, .inl (nI (g (38 + 5 * c)))), (0, .inr (.inr (5, a, 0))), (1, .inl (nI c)), (2, .inl (nI 0))], [.inl (h6 (5, a, 0) (nI (4 + sp_toc g c)).toNatClampNeg), .inl (nI (4 + sp_toc g c)), .inr (.inr (5, a, 0))], h6)) (P := vp_in (nI (4 + sp_toc g c)) 78 ∧ True) rfl ⟨(vp_in_nI (by omega) (by decide)), trivial⟩ ?_
          refine jt_ti (show (h6 (5, a, 0) (nI (4 + sp_toc g c)).toNatClampNeg) = nI (gh6 (4 + sp_toc g c)) from jg_get Rh6 (k := 4 + sp_toc g c) (nI_clamp (by omega)) (by omega)) ?_
          refine jt_go jm_m162 57 2 (f' := (94, [(6, .inl (nI (sp_toc g c))), (5, .inl (nI (min (sp_ap (g (38 + 5 * c)) (sp_goal g c)) (sp_pace (g (36 + 5 * c)) (g (37 + 5 * c)) (g 2))))), (4, .inl (nI (sp_goal g c))), (3, .inl (nI (g (38 + 5 * c)))), (0, .inr (.inr (5, a, 0))), (1, .inl (nI c)), (2, .inl (nI 0))], [.inl ((nI (gh6 (4 + sp_toc g c))) - (nI 1)), .inl (nI (4 + sp_toc g c)), .inr (.inr (5, a, 0))], h6)) (P := True) rfl trivial ?_
          refine jt_ti (show ((nI (gh6 (4 + sp_toc g c))) - (nI 1)) = nI (gh6 (4 + sp_toc g c) - 1) from nI_subN (by omega)) ?_
          refine jt_goM jm_m162 59 1 (pc' := 95) (L' := [(6, .inl (nI (sp_toc g c))), (5, .inl (nI (min (sp_ap (g (38 + 5 * c)) (sp_goal g c)) (sp_pace (g (36 + 5 * c)) (g (37 + 5 * c)) (g 2))))), (4, .inl (nI (sp_goal g c))), (3, .inl (nI (g (38 + 5 * c)))), (0, .inr (.inr (5, a, 0))), (1, .inl (nI c)), (2, .inl (nI 0))]) (st' := []) (m' := jm_set h6 (5, a, 0) (upd (h6 (5, a, 0)) (nI (4 + sp_toc g c)).toNatClampNeg (nI (gh6 (4 + sp_toc g c) - 1)))) (P := vp_in (nI (4 + sp_toc g c)) 78 ∧ True) rfl ⟨(vp_in_nI (by omega) (by decide)), trivial⟩ (fun h9 eh9 => ?_)
          have Fh9 : jg_fr a h h9 := by rw [eh9]; exact jg_fr_set Fh6
          obtain ⟨gh9, egh9⟩ : ∃ y, y = sp_up gh6 (4 + sp_toc g c) (gh6 (4 + sp_toc g c) - 1) := ⟨_, rfl⟩
          have Rh9 : jg_rel h9 a gh9 := by rw [eh9, egh9]; exact jg_set Rh6 (k := 4 + sp_toc g c) (w := gh6 (4 + sp_toc g c) - 1) (nI_clamp (by omega)) rfl
          have e95 : gh9 = sp_move g c := by rw [egh9]; unfold sp_move; rw [if_neg c73]; unfold sp_eat; rw [← egh6, if_pos c82]
          rw [e95] at Rh9
          refine jt_go jm_m162 60 3 (f' := (98, [(6, .inl (nI (sp_toc g c))), (5, .inl (nI (min (sp_ap (g (38 + 5 * c)) (sp_goal g c)) (sp_pace (g (36 + 5 * c)) (g (37 + 5 * c)) (g 2))))), (4, .inl (nI (sp_goal g c))), (3, .inl (nI (g (38 + 5 * c)))), (0, .inr (.inr (5, a, 0))), (1, .inl (nI c)), (2, .inl (nI 0))], [.inl (nI 3), .inl (nI c), .inr (.inr (5, a, 0))], h9)) (P := True) rfl trivial ?_
          refine jt_callp (w := .inl (nI (39 + 5 * c))) jm_m162 63 (mi' := 147) (as := [.inl (nI c), .inl (nI 3)]) (rest := [.inr (.inr (5, a, 0))]) (nxt := 101) rfl rfl jm_m147 rfl rfl (tb_ofC (k := 39 + 5 * c) (by omega)) ?_
          refine jt_go jm_m162 64 4 (f' := (106, [(6, .inl (nI (sp_toc g c))), (5, .inl (nI (min (sp_ap (g (38 + 5 * c)) (sp_goal g c)) (sp_pace (g (36 + 5 * c)) (g (37 + 5 * c)) (g 2))))), (4, .inl (nI (sp_goal g c))), (3, .inl (nI (g (38 + 5 * c)))), (0, .inr (.inr (5, a, 0))), (1, .inl (nI c)), (2, .inl (nI 0))], [.inl (nI 3), .inl (nI c), .inr (.inr (5, a, 0)), .inl (nI 99), .inl (nI (39 + 5 * c)), .inr (.inr (5, a, 0))], h9)) (P := True) rfl trivial ?_
          refine jt_callp (w := .inl (nI (39 + 5 * c))) jm_m162 68 (mi' := 147) (as := [.inl (nI c), .inl (nI 3)]) (rest := [.inr (.inr (5, a, 0)), .inl (nI 99), .inl (nI (39 + 5 * c)), .inr (.inr (5, a, 0))]) (nxt := 109) rfl rfl jm_m147 rfl rfl (tb_ofC (k := 39 + 5 * c) (by omega)) ?_
          refine jt_go jm_m162 69 1 (f' := (110, [(6, .inl (nI (sp_toc g c))), (5, .inl (nI (min (sp_ap (g (38 + 5 * c)) (sp_goal g c)) (sp_pace (g (36 + 5 * c)) (g (37 + 5 * c)) (g 2))))), (4, .inl (nI (sp_goal g c))), (3, .inl (nI (g (38 + 5 * c)))), (0, .inr (.inr (5, a, 0))), (1, .inl (nI c)), (2, .inl (nI 0))], [.inl (h9 (5, a, 0) (nI (39 + 5 * c)).toNatClampNeg), .inl (nI 99), .inl (nI (39 + 5 * c)), .inr (.inr (5, a, 0))], h9)) (P := vp_in (nI (39 + 5 * c)) 78 ∧ True) rfl ⟨(vp_in_nI (by omega) (by decide)), trivial⟩ ?_
          refine jt_ti (show (h9 (5, a, 0) (nI (39 + 5 * c)).toNatClampNeg) = nI ((sp_move g c) (39 + 5 * c)) from jg_get Rh9 (k := 39 + 5 * c) (nI_clamp (by omega)) (by omega)) ?_
          have bq29 := jw_hair Wm (c := c) (by omega)
          refine jt_go jm_m162 70 3 (f' := (113, [(6, .inl (nI (sp_toc g c))), (5, .inl (nI (min (sp_ap (g (38 + 5 * c)) (sp_goal g c)) (sp_pace (g (36 + 5 * c)) (g (37 + 5 * c)) (g 2))))), (4, .inl (nI (sp_goal g c))), (3, .inl (nI (g (38 + 5 * c)))), (0, .inr (.inr (5, a, 0))), (1, .inl (nI c)), (2, .inl (nI 0))], [.inl (nI 0), .inl (nI c), .inr (.inr (5, a, 0)), .inl (nI ((sp_move g c) (39 + 5 * c))), .inl (nI 99), .inl (nI (39 + 5 * c)), .inr (.inr (5, a, 0))], h9)) (P := True) rfl trivial ?_
          refine jt_callp (w := .inl (nI (36 + 5 * c))) jm_m162 73 (mi' := 147) (as := [.inl (nI c), .inl (nI 0)]) (rest := [.inr (.inr (5, a, 0)), .inl (nI ((sp_move g c) (39 + 5 * c))), .inl (nI 99), .inl (nI (39 + 5 * c)), .inr (.inr (5, a, 0))]) (nxt := 116) rfl rfl jm_m147 rfl rfl (tb_ofC (k := 36 + 5 * c) (by omega)) ?_
          refine jt_go jm_m162 74 1 (f' := (117, [(6, .inl (nI (sp_toc g c))), (5, .inl (nI (min (sp_ap (g (38 + 5 * c)) (sp_goal g c)) (sp_pace (g (36 + 5 * c)) (g (37 + 5 * c)) (g 2))))), (4, .inl (nI (sp_goal g c))), (3, .inl (nI (g (38 + 5 * c)))), (0, .inr (.inr (5, a, 0))), (1, .inl (nI c)), (2, .inl (nI 0))], [.inl (h9 (5, a, 0) (nI (36 + 5 * c)).toNatClampNeg), .inl (nI ((sp_move g c) (39 + 5 * c))), .inl (nI 99), .inl (nI (39 + 5 * c)), .inr (.inr (5, a, 0))], h9)) (P := vp_in (nI (36 + 5 * c)) 78 ∧ True) rfl ⟨(vp_in_nI (by omega) (by decide)), trivial⟩ ?_
          refine jt_ti (show (h9 (5, a, 0) (nI (36 + 5 * c)).toNatClampNeg) = nI ((sp_move g c) (36 + 5 * c)) from jg_get Rh9 (k := 36 + 5 * c) (nI_clamp (by omega)) (by omega)) ?_
          have bq30 := jw_kind Wm (c := c) (by omega)
          refine jt_callp (w := .inl (nI (sp_grow ((sp_move g c) (36 + 5 * c))))) jm_m162 75 (mi' := 159) (as := [.inl (nI ((sp_move g c) (36 + 5 * c)))]) (rest := [.inl (nI ((sp_move g c) (39 + 5 * c))), .inl (nI 99), .inl (nI (39 + 5 * c)), .inr (.inr (5, a, 0))]) (nxt := 120) rfl rfl jm_m159 rfl rfl (tb_grow (by omega)) ?_
          have bgr := sp_grow_le ((sp_move g c) (36 + 5 * c))
          refine jt_go jm_m162 76 1 (f' := (121, [(6, .inl (nI (sp_toc g c))), (5, .inl (nI (min (sp_ap (g (38 + 5 * c)) (sp_goal g c)) (sp_pace (g (36 + 5 * c)) (g (37 + 5 * c)) (g 2))))), (4, .inl (nI (sp_goal g c))), (3, .inl (nI (g (38 + 5 * c)))), (0, .inr (.inr (5, a, 0))), (1, .inl (nI c)), (2, .inl (nI 0))], [.inl ((nI ((sp_move g c) (39 + 5 * c))) + (nI (sp_grow ((sp_move g c) (36 + 5 * c))))), .inl (nI 99), .inl (nI (39 + 5 * c)), .inr (.inr (5, a, 0))], h9)) (P := True) rfl trivial ?_
          refine jt_ti (show ((nI ((sp_move g c) (39 + 5 * c))) + (nI (sp_grow ((sp_move g c) (36 + 5 * c))))) = nI ((sp_move g c) (39 + 5 * c) + (sp_grow ((sp_move g c) (36 + 5 * c)))) from nI_add _ _) ?_
          refine jt_callp (w := .inl (nI (min 99 ((sp_move g c) (39 + 5 * c) + (sp_grow ((sp_move g c) (36 + 5 * c))))))) jm_m162 77 (mi' := 144) (as := [.inl (nI 99), .inl (nI ((sp_move g c) (39 + 5 * c) + (sp_grow ((sp_move g c) (36 + 5 * c)))))]) (rest := [.inl (nI (39 + 5 * c)), .inr (.inr (5, a, 0))]) (nxt := 124) rfl rfl jm_m144 rfl rfl (tb_least (by omega) (by omega)) ?_
          refine jt_goM jm_m162 78 1 (pc' := 125) (L' := [(6, .inl (nI (sp_toc g c))), (5, .inl (nI (min (sp_ap (g (38 + 5 * c)) (sp_goal g c)) (sp_pace (g (36 + 5 * c)) (g (37 + 5 * c)) (g 2))))), (4, .inl (nI (sp_goal g c))), (3, .inl (nI (g (38 + 5 * c)))), (0, .inr (.inr (5, a, 0))), (1, .inl (nI c)), (2, .inl (nI 0))]) (st' := []) (m' := jm_set h9 (5, a, 0) (upd (h9 (5, a, 0)) (nI (39 + 5 * c)).toNatClampNeg (nI (min 99 ((sp_move g c) (39 + 5 * c) + (sp_grow ((sp_move g c) (36 + 5 * c)))))))) (P := vp_in (nI (39 + 5 * c)) 78 ∧ True) rfl ⟨(vp_in_nI (by omega) (by decide)), trivial⟩ (fun h10 eh10 => ?_)
          have Fh10 : jg_fr a h h10 := by rw [eh10]; exact jg_fr_set Fh9
          obtain ⟨gh10, egh10⟩ : ∃ y, y = sp_up (sp_move g c) (39 + 5 * c) (min 99 ((sp_move g c) (39 + 5 * c) + (sp_grow ((sp_move g c) (36 + 5 * c))))) := ⟨_, rfl⟩
          have Rh10 : jg_rel h10 a gh10 := by rw [eh10, egh10]; exact jg_set Rh9 (k := 39 + 5 * c) (w := min 99 ((sp_move g c) (39 + 5 * c) + (sp_grow ((sp_move g c) (36 + 5 * c))))) (nI_clamp (by omega)) rfl
          have eg : gh10 = sp_gone g c false := by rw [egh10]; rfl
          rw [eg] at Rh10
          have Wg := jw_gone (kept := false) W hc
          have hcg : c < sp_gone g c false 0 := by rw [sp_gone_ne W hc (by omega) (by omega) (by omega)]; exact hc
          refine jt_go jm_m162 79 1 (f' := (127, [(6, .inl (nI (sp_toc g c))), (5, .inl (nI (min (sp_ap (g (38 + 5 * c)) (sp_goal g c)) (sp_pace (g (36 + 5 * c)) (g (37 + 5 * c)) (g 2))))), (4, .inl (nI (sp_goal g c))), (3, .inl (nI (g (38 + 5 * c)))), (0, .inr (.inr (5, a, 0))), (1, .inl (nI c)), (2, .inl (nI 0))], [.inl (nI (sp_toc g c))], h10)) (P := True) rfl trivial ?_
          refine jt_callp (w := .inl (nI (sp_sd (sp_toc g c)))) jm_m162 80 (mi' := 154) (as := [.inl (nI (sp_toc g c))]) (rest := []) (nxt := 130) rfl rfl jm_m154 rfl rfl (tb_sideOf (by omega)) ?_
          have bq31 := sp_sd_le (sp_toc g c)
          refine jt_go jm_m162 81 1 (f' := (131, [(6, .inl (nI (sp_toc g c))), (5, .inl (nI (min (sp_ap (g (38 + 5 * c)) (sp_goal g c)) (sp_pace (g (36 + 5 * c)) (g (37 + 5 * c)) (g 2))))), (4, .inl (nI (sp_goal g c))), (3, .inl (nI (g (38 + 5 * c)))), (0, .inr (.inr (5, a, 0))), (1, .inl (nI c)), (2, .inl (nI 0))], [.inl (nI (g (38 + 5 * c))), .inl (nI (sp_sd (sp_toc g c)))], h10)) (P := True) rfl trivial ?_
          refine jt_callp (w := .inl (nI (sp_sd (g (38 + 5 * c))))) jm_m162 82 (mi' := 154) (as := [.inl (nI (g (38 + 5 * c)))]) (rest := [.inl (nI (sp_sd (sp_toc g c)))]) (nxt := 134) rfl rfl jm_m154 rfl rfl (tb_sideOf (by omega)) ?_
          have bq32 := sp_sd_le (g (38 + 5 * c))
          refine jt_niceq jm_m162 83 (a := sp_sd (sp_toc g c)) (b := sp_sd (g (38 + 5 * c))) (by omega) (by omega) (tgt := 141) (nxt := 137) rfl rfl rfl (fun c134 => ?_) (fun c134 => ?_)
          · refine jt_go jm_m162 86 3 (f' := (146, [(7, .inl (nI 0)), (6, .inl (nI (sp_toc g c))), (5, .inl (nI (min (sp_ap (g (38 + 5 * c)) (sp_goal g c)) (sp_pace (g (36 + 5 * c)) (g (37 + 5 * c)) (g 2))))), (4, .inl (nI (sp_goal g c))), (3, .inl (nI (g (38 + 5 * c)))), (0, .inr (.inr (5, a, 0))), (1, .inl (nI c)), (2, .inl (nI 0))], [.inl (nI 0)], h10)) (P := True) rfl trivial ?_
            refine jt_nifeq jm_m162 89 (by omega) (tgt := 158) (nxt := 149) rfl rfl rfl (fun c146 => ?_) (fun c146 => ?_)
            · refine jt_go jm_m162 95 1 (f' := (160, [(7, .inl (nI 0)), (6, .inl (nI (sp_toc g c))), (5, .inl (nI (min (sp_ap (g (38 + 5 * c)) (sp_goal g c)) (sp_pace (g (36 + 5 * c)) (g (37 + 5 * c)) (g 2))))), (4, .inl (nI (sp_goal g c))), (3, .inl (nI (g (38 + 5 * c)))), (0, .inr (.inr (5, a, 0))), (1, .inl (nI c)), (2, .inl (nI 0))], [.inl (nI 0)], h10)) (P := True) rfl trivial ?_
              refine jt_zret jm_m162 96 rfl (Or.inl rfl) ?_
              refine ⟨jt_lb0 (by rw [sp_gone_at W hc]; exact fun z => z c134.symm), ?_, Fh10⟩
              unfold sp_one
              rw [if_neg (by rw [sp_gone_at W hc]; exact fun z => z c134.symm)]
              exact Rh10
            · exact absurd c146 (by decide)
          · refine jt_go jm_m162 84 2 (f' := (142, [(6, .inl (nI (sp_toc g c))), (5, .inl (nI (min (sp_ap (g (38 + 5 * c)) (sp_goal g c)) (sp_pace (g (36 + 5 * c)) (g (37 + 5 * c)) (g 2))))), (4, .inl (nI (sp_goal g c))), (3, .inl (nI (g (38 + 5 * c)))), (0, .inr (.inr (5, a, 0))), (1, .inl (nI c)), (2, .inl (nI 0))], [.inl (nI 1)], h10)) (P := True) rfl trivial ?_
            refine jt_go jm_m162 87 2 (f' := (146, [(7, .inl (nI 1)), (6, .inl (nI (sp_toc g c))), (5, .inl (nI (min (sp_ap (g (38 + 5 * c)) (sp_goal g c)) (sp_pace (g (36 + 5 * c)) (g (37 + 5 * c)) (g 2))))), (4, .inl (nI (sp_goal g c))), (3, .inl (nI (g (38 + 5 * c)))), (0, .inr (.inr (5, a, 0))), (1, .inl (nI c)), (2, .inl (nI 0))], [.inl (nI 1)], h10)) (P := True) rfl trivial ?_
            refine jt_nifeq jm_m162 89 (by omega) (tgt := 158) (nxt := 149) rfl rfl rfl (fun c146 => ?_) (fun c146 => ?_)
            · exact absurd c146 (by decide)
            · refine jt_go jm_m162 90 3 (f' := (152, [(7, .inl (nI 1)), (6, .inl (nI (sp_toc g c))), (5, .inl (nI (min (sp_ap (g (38 + 5 * c)) (sp_goal g c)) (sp_pace (g (36 + 5 * c)) (g (37 + 5 * c)) (g 2))))), (4, .inl (nI (sp_goal g c))), (3, .inl (nI (g (38 + 5 * c)))), (0, .inr (.inr (5, a, 0))), (1, .inl (nI c)), (2, .inl (nI 0))], [.inl (nI (g (38 + 5 * c))), .inl (nI c), .inr (.inr (5, a, 0))], h10)) (P := True) rfl trivial ?_
              refine jt_callp (w := .inl (nI (sp_sd (g (38 + 5 * c))))) jm_m162 93 (mi' := 154) (as := [.inl (nI (g (38 + 5 * c)))]) (rest := [.inl (nI c), .inr (.inr (5, a, 0))]) (nxt := 155) rfl rfl jm_m154 rfl rfl (tb_sideOf (by omega)) ?_
              have bq33 := sp_sd_le (g (38 + 5 * c))
              refine jt_call jm_m162 94 (mi' := 161) (as := [.inr (.inr (5, a, 0)), .inl (nI c), .inl (nI (sp_sd (g (38 + 5 * c))))]) (rest := []) (nxt := 158) rfl rfl jm_m161 rfl rfl (tb_pass Rh10 Wg hcg (sp_sd_le _)) ?_
              rintro u h9 ⟨rfl, Rh9, Fh9⟩
              show jt_T 162 (158, [(7, .inl (nI 1)), (6, .inl (nI (sp_toc g c))), (5, .inl (nI (min (sp_ap (g (38 + 5 * c)) (sp_goal g c)) (sp_pace (g (36 + 5 * c)) (g (37 + 5 * c)) (g 2))))), (4, .inl (nI (sp_goal g c))), (3, .inl (nI (g (38 + 5 * c)))), (0, .inr (.inr (5, a, 0))), (1, .inl (nI c)), (2, .inl (nI 0))], [], h9) _
              have Fh9 := jg_fr_tr Fh10 Fh9
              refine jt_go jm_m162 95 1 (f' := (160, [(7, .inl (nI 1)), (6, .inl (nI (sp_toc g c))), (5, .inl (nI (min (sp_ap (g (38 + 5 * c)) (sp_goal g c)) (sp_pace (g (36 + 5 * c)) (g (37 + 5 * c)) (g 2))))), (4, .inl (nI (sp_goal g c))), (3, .inl (nI (g (38 + 5 * c)))), (0, .inr (.inr (5, a, 0))), (1, .inl (nI c)), (2, .inl (nI 0))], [.inl (nI 1)], h9)) (P := True) rfl trivial ?_
              refine jt_zret jm_m162 96 rfl (Or.inr rfl) ?_
              refine ⟨jt_lb1 (by rw [sp_gone_at W hc]; exact fun z => c134 z.symm), ?_, Fh9⟩
              unfold sp_one
              rw [if_pos (by rw [sp_gone_at W hc]; exact fun z => c134 z.symm)]
              exact Rh9
  · exact absurd c9 (by decide)
set_option maxHeartbeats 4000000 in
set_option maxRecDepth 20000 in
theorem tb_goes1 {h : jm_M} {a : Nat} {g : Nat → Nat} (R : jg_rel h a g) (W : jw g) {c : Nat} (hc : c < g 0) : jt_T 162 (0, [(0, .inr (.inr (5, a, 0))), (1, .inl (nI c)), (2, .inl (nI 1))], [], h) (fun u h' => u = some (.inl (jm_b (sp_sd (g (38 + 5 * c)) ≠ sp_sd (sp_gone g c true (38 + 5 * c))))) ∧ jg_rel h' a (sp_one g c true) ∧ jg_fr a h h') := by
  have bn := jw_n W
  have bm := jw_m W
  have bt := jw_t W
  have ba := jw_at W (c := c) (by omega)
  have bp : sp_pace (g (36 + 5 * c)) (g (37 + 5 * c)) (g 2) ≤ 8 := sp_pace_le (jw_fig W (by omega))
  have Wm := W
  have em : ∀ i, 36 ≤ i → i ≠ 38 + 5 * c → g i = g i := fun _ _ _ => rfl
  have hcm : c < g 0 := hc
  refine jt_go jm_m162 0 3 (f' := (3, [(0, .inr (.inr (5, a, 0))), (1, .inl (nI c)), (2, .inl (nI 1))], [.inl (nI 2), .inl (nI c), .inr (.inr (5, a, 0))], h)) (P := True) rfl trivial ?_
  refine jt_callp (w := .inl (nI (38 + 5 * c))) jm_m162 3 (mi' := 147) (as := [.inl (nI c), .inl (nI 2)]) (rest := [.inr (.inr (5, a, 0))]) (nxt := 6) rfl rfl jm_m147 rfl rfl (tb_ofC (k := 38 + 5 * c) (by omega)) ?_
  refine jt_go jm_m162 4 1 (f' := (7, [(0, .inr (.inr (5, a, 0))), (1, .inl (nI c)), (2, .inl (nI 1))], [.inl (h (5, a, 0) (nI (38 + 5 * c)).toNatClampNeg)], h)) (P := vp_in (nI (38 + 5 * c)) 78 ∧ True) rfl ⟨(vp_in_nI (by omega) (by decide)), trivial⟩ ?_
  refine jt_ti (show (h (5, a, 0) (nI (38 + 5 * c)).toNatClampNeg) = nI (g (38 + 5 * c)) from jg_get R (k := 38 + 5 * c) (nI_clamp (by omega)) (by omega)) ?_
  have bq1 := jw_at W (c := c) (by omega)
  refine jt_go jm_m162 5 2 (f' := (9, [(3, .inl (nI (g (38 + 5 * c)))), (0, .inr (.inr (5, a, 0))), (1, .inl (nI c)), (2, .inl (nI 1))], [.inl (nI 1)], h)) (P := True) rfl trivial ?_
  refine jt_nifeq jm_m162 7 (by omega) (tgt := 16) (nxt := 12) rfl rfl rfl (fun c9 => ?_) (fun c9 => ?_)
  · exact absurd c9 (by decide)
  · refine jt_go jm_m162 8 2 (f' := (21, [(3, .inl (nI (g (38 + 5 * c)))), (0, .inr (.inr (5, a, 0))), (1, .inl (nI c)), (2, .inl (nI 1))], [.inl (nI (g (38 + 5 * c)))], h)) (P := True) rfl trivial ?_
    refine jt_go jm_m162 13 3 (f' := (26, [(4, .inl (nI (g (38 + 5 * c)))), (3, .inl (nI (g (38 + 5 * c)))), (0, .inr (.inr (5, a, 0))), (1, .inl (nI c)), (2, .inl (nI 1))], [.inl (nI (g (38 + 5 * c))), .inl (nI (g (38 + 5 * c)))], h)) (P := True) rfl trivial ?_
    refine jt_callp (w := .inl (nI (sp_ap (g (38 + 5 * c)) (g (38 + 5 * c))))) jm_m162 16 (mi' := 145) (as := [.inl (nI (g (38 + 5 * c))), .inl (nI (g (38 + 5 * c)))]) (rest := []) (nxt := 29) rfl rfl jm_m145 rfl rfl (tb_apart (by omega) (by omega)) ?_
    have bq2 : sp_ap (g (38 + 5 * c)) (g (38 + 5 * c)) < 16 := sp_ap_lt (by omega) (by omega)
    refine jt_go jm_m162 17 5 (f' := (34, [(4, .inl (nI (g (38 + 5 * c)))), (3, .inl (nI (g (38 + 5 * c)))), (0, .inr (.inr (5, a, 0))), (1, .inl (nI c)), (2, .inl (nI 1))], [.inl (h (5, a, 0) (nI 2).toNatClampNeg), .inl (nI c), .inr (.inr (5, a, 0)), .inl (nI (sp_ap (g (38 + 5 * c)) (g (38 + 5 * c))))], h)) (P := vp_in (nI 2) 78 ∧ True) rfl ⟨(vp_in_nI (by omega) (by decide)), trivial⟩ ?_
    refine jt_ti (show (h (5, a, 0) (nI 2).toNatClampNeg) = nI (g 2) from jg_get R (k := 2) (nI_clamp (by omega)) (by omega)) ?_
    have bq3 := jw_t W
    refine jt_callp (w := .inl (nI (sp_pace (g (36 + 5 * c)) (g (37 + 5 * c)) (g 2)))) jm_m162 22 (mi' := 158) (as := [.inr (.inr (5, a, 0)), .inl (nI c), .inl (nI (g 2))]) (rest := [.inl (nI (sp_ap (g (38 + 5 * c)) (g (38 + 5 * c))))]) (nxt := 37) rfl rfl jm_m158 rfl rfl (tb_pace R W (by omega) bt) ?_
    refine jt_callp (w := .inl (nI (min (sp_ap (g (38 + 5 * c)) (g (38 + 5 * c))) (sp_pace (g (36 + 5 * c)) (g (37 + 5 * c)) (g 2))))) jm_m162 23 (mi' := 144) (as := [.inl (nI (sp_ap (g (38 + 5 * c)) (g (38 + 5 * c)))), .inl (nI (sp_pace (g (36 + 5 * c)) (g (37 + 5 * c)) (g 2)))]) (rest := []) (nxt := 40) rfl rfl jm_m144 rfl rfl (tb_least (by omega) (by omega)) ?_
    refine jt_go jm_m162 24 3 (f' := (45, [(5, .inl (nI (min (sp_ap (g (38 + 5 * c)) (g (38 + 5 * c))) (sp_pace (g (36 + 5 * c)) (g (37 + 5 * c)) (g 2))))), (4, .inl (nI (g (38 + 5 * c)))), (3, .inl (nI (g (38 + 5 * c)))), (0, .inr (.inr (5, a, 0))), (1, .inl (nI c)), (2, .inl (nI 1))], [.inl (nI (g (38 + 5 * c))), .inl (nI (g (38 + 5 * c)))], h)) (P := True) rfl trivial ?_
    refine jt_nicle jm_m162 27 (a := g (38 + 5 * c)) (b := g (38 + 5 * c)) (by omega) (by omega) (tgt := 55) (nxt := 48) rfl rfl rfl (fun c45 => ?_) (fun c45 => ?_)
    · have bap := sp_ap_ge c45
      refine jt_go jm_m162 32 3 (f' := (59, [(5, .inl (nI (min (sp_ap (g (38 + 5 * c)) (g (38 + 5 * c))) (sp_pace (g (36 + 5 * c)) (g (37 + 5 * c)) (g 2))))), (4, .inl (nI (g (38 + 5 * c)))), (3, .inl (nI (g (38 + 5 * c)))), (0, .inr (.inr (5, a, 0))), (1, .inl (nI c)), (2, .inl (nI 1))], [.inl ((nI (g (38 + 5 * c))) - (nI (min (sp_ap (g (38 + 5 * c)) (g (38 + 5 * c))) (sp_pace (g (36 + 5 * c)) (g (37 + 5 * c)) (g 2)))))], h)) (P := True) rfl trivial ?_
      refine jt_ti (show ((nI (g (38 + 5 * c))) - (nI (min (sp_ap (g (38 + 5 * c)) (g (38 + 5 * c))) (sp_pace (g (36 + 5 * c)) (g (37 + 5 * c)) (g 2))))) = nI (g (38 + 5 * c)) from by rw [nI_subN (by omega), bap]; exact congrArg nI (by omega)) ?_
      refine jt_go jm_m162 35 4 (f' := (64, [(6, .inl (nI (g (38 + 5 * c)))), (5, .inl (nI (min (sp_ap (g (38 + 5 * c)) (g (38 + 5 * c))) (sp_pace (g (36 + 5 * c)) (g (37 + 5 * c)) (g 2))))), (4, .inl (nI (g (38 + 5 * c)))), (3, .inl (nI (g (38 + 5 * c)))), (0, .inr (.inr (5, a, 0))), (1, .inl (nI c)), (2, .inl (nI 1))], [.inl (nI 2), .inl (nI c), .inr (.inr (5, a, 0))], h)) (P := True) rfl trivial ?_
      refine jt_callp (w := .inl (nI (38 + 5 * c))) jm_m162 39 (mi' := 147) (as := [.inl (nI c), .inl (nI 2)]) (rest := [.inr (.inr (5, a, 0))]) (nxt := 67) rfl rfl jm_m147 rfl rfl (tb_ofC (k := 38 + 5 * c) (by omega)) ?_
      refine jt_goM jm_m162 40 2 (pc' := 70) (L' := [(6, .inl (nI (g (38 + 5 * c)))), (5, .inl (nI (min (sp_ap (g (38 + 5 * c)) (g (38 + 5 * c))) (sp_pace (g (36 + 5 * c)) (g (37 + 5 * c)) (g 2))))), (4, .inl (nI (g (38 + 5 * c)))), (3, .inl (nI (g (38 + 5 * c)))), (0, .inr (.inr (5, a, 0))), (1, .inl (nI c)), (2, .inl (nI 1))]) (st' := []) (m' := jm_set h (5, a, 0) (upd (h (5, a, 0)) (nI (38 + 5 * c)).toNatClampNeg (nI (g (38 + 5 * c))))) (P := vp_in (nI (38 + 5 * c)) 78 ∧ True) rfl ⟨(vp_in_nI (by omega) (by decide)), trivial⟩ (fun h1 eh1 => ?_)
      have Fh1 : jg_fr a h h1 := by rw [eh1]; exact jg_fr_set jg_fr_rf
      obtain ⟨gh1, egh1⟩ : ∃ y, y = sp_up g (38 + 5 * c) (g (38 + 5 * c)) := ⟨_, rfl⟩
      have Rh1 : jg_rel h1 a gh1 := by rw [eh1, egh1]; exact jg_set R (k := 38 + 5 * c) (w := g (38 + 5 * c)) (nI_clamp (by omega)) rfl
      refine jt_go jm_m162 42 2 (f' := (73, [(6, .inl (nI (g (38 + 5 * c)))), (5, .inl (nI (min (sp_ap (g (38 + 5 * c)) (g (38 + 5 * c))) (sp_pace (g (36 + 5 * c)) (g (37 + 5 * c)) (g 2))))), (4, .inl (nI (g (38 + 5 * c)))), (3, .inl (nI (g (38 + 5 * c)))), (0, .inr (.inr (5, a, 0))), (1, .inl (nI c)), (2, .inl (nI 1))], [.inl (nI (g (38 + 5 * c))), .inl (nI (g (38 + 5 * c)))], h1)) (P := True) rfl trivial ?_
      refine jt_niceq jm_m162 44 (a := g (38 + 5 * c)) (b := g (38 + 5 * c)) (by omega) (by omega) (tgt := 95) (nxt := 76) rfl rfl rfl (fun c73 => ?_) (fun c73 => ?_)
      · have e95 : gh1 = g := by rw [egh1]; exact sp_up_self rfl
        rw [e95] at Rh1
        refine jt_go jm_m162 60 3 (f' := (98, [(6, .inl (nI (g (38 + 5 * c)))), (5, .inl (nI (min (sp_ap (g (38 + 5 * c)) (g (38 + 5 * c))) (sp_pace (g (36 + 5 * c)) (g (37 + 5 * c)) (g 2))))), (4, .inl (nI (g (38 + 5 * c)))), (3, .inl (nI (g (38 + 5 * c)))), (0, .inr (.inr (5, a, 0))), (1, .inl (nI c)), (2, .inl (nI 1))], [.inl (nI 3), .inl (nI c), .inr (.inr (5, a, 0))], h1)) (P := True) rfl trivial ?_
        refine jt_callp (w := .inl (nI (39 + 5 * c))) jm_m162 63 (mi' := 147) (as := [.inl (nI c), .inl (nI 3)]) (rest := [.inr (.inr (5, a, 0))]) (nxt := 101) rfl rfl jm_m147 rfl rfl (tb_ofC (k := 39 + 5 * c) (by omega)) ?_
        refine jt_go jm_m162 64 4 (f' := (106, [(6, .inl (nI (g (38 + 5 * c)))), (5, .inl (nI (min (sp_ap (g (38 + 5 * c)) (g (38 + 5 * c))) (sp_pace (g (36 + 5 * c)) (g (37 + 5 * c)) (g 2))))), (4, .inl (nI (g (38 + 5 * c)))), (3, .inl (nI (g (38 + 5 * c)))), (0, .inr (.inr (5, a, 0))), (1, .inl (nI c)), (2, .inl (nI 1))], [.inl (nI 3), .inl (nI c), .inr (.inr (5, a, 0)), .inl (nI 99), .inl (nI (39 + 5 * c)), .inr (.inr (5, a, 0))], h1)) (P := True) rfl trivial ?_
        refine jt_callp (w := .inl (nI (39 + 5 * c))) jm_m162 68 (mi' := 147) (as := [.inl (nI c), .inl (nI 3)]) (rest := [.inr (.inr (5, a, 0)), .inl (nI 99), .inl (nI (39 + 5 * c)), .inr (.inr (5, a, 0))]) (nxt := 109) rfl rfl jm_m147 rfl rfl (tb_ofC (k := 39 + 5 * c) (by omega)) ?_
        refine jt_go jm_m162 69 1 (f' := (110, [(6, .inl (nI (g (38 + 5 * c)))), (5, .inl (nI (min (sp_ap (g (38 + 5 * c)) (g (38 + 5 * c))) (sp_pace (g (36 + 5 * c)) (g (37 + 5 * c)) (g 2))))), (4, .inl (nI (g (38 + 5 * c)))), (3, .inl (nI (g (38 + 5 * c)))), (0, .inr (.inr (5, a, 0))), (1, .inl (nI c)), (2, .inl (nI 1))], [.inl (h1 (5, a, 0) (nI (39 + 5 * c)).toNatClampNeg), .inl (nI 99), .inl (nI (39 + 5 * c)), .inr (.inr (5, a, 0))], h1)) (P := vp_in (nI (39 + 5 * c)) 78 ∧ True) rfl ⟨(vp_in_nI (by omega) (by decide)), trivial⟩ ?_
        refine jt_ti (show (h1 (5, a, 0) (nI (39 + 5 * c)).toNatClampNeg) = nI (g (39 + 5 * c)) from jg_get Rh1 (k := 39 + 5 * c) (nI_clamp (by omega)) (by omega)) ?_
        have bq4 := jw_hair Wm (c := c) (by omega)
        refine jt_go jm_m162 70 3 (f' := (113, [(6, .inl (nI (g (38 + 5 * c)))), (5, .inl (nI (min (sp_ap (g (38 + 5 * c)) (g (38 + 5 * c))) (sp_pace (g (36 + 5 * c)) (g (37 + 5 * c)) (g 2))))), (4, .inl (nI (g (38 + 5 * c)))), (3, .inl (nI (g (38 + 5 * c)))), (0, .inr (.inr (5, a, 0))), (1, .inl (nI c)), (2, .inl (nI 1))], [.inl (nI 0), .inl (nI c), .inr (.inr (5, a, 0)), .inl (nI (g (39 + 5 * c))), .inl (nI 99), .inl (nI (39 + 5 * c)), .inr (.inr (5, a, 0))], h1)) (P := True) rfl trivial ?_
        refine jt_callp (w := .inl (nI (36 + 5 * c))) jm_m162 73 (mi' := 147) (as := [.inl (nI c), .inl (nI 0)]) (rest := [.inr (.inr (5, a, 0)), .inl (nI (g (39 + 5 * c))), .inl (nI 99), .inl (nI (39 + 5 * c)), .inr (.inr (5, a, 0))]) (nxt := 116) rfl rfl jm_m147 rfl rfl (tb_ofC (k := 36 + 5 * c) (by omega)) ?_
        refine jt_go jm_m162 74 1 (f' := (117, [(6, .inl (nI (g (38 + 5 * c)))), (5, .inl (nI (min (sp_ap (g (38 + 5 * c)) (g (38 + 5 * c))) (sp_pace (g (36 + 5 * c)) (g (37 + 5 * c)) (g 2))))), (4, .inl (nI (g (38 + 5 * c)))), (3, .inl (nI (g (38 + 5 * c)))), (0, .inr (.inr (5, a, 0))), (1, .inl (nI c)), (2, .inl (nI 1))], [.inl (h1 (5, a, 0) (nI (36 + 5 * c)).toNatClampNeg), .inl (nI (g (39 + 5 * c))), .inl (nI 99), .inl (nI (39 + 5 * c)), .inr (.inr (5, a, 0))], h1)) (P := vp_in (nI (36 + 5 * c)) 78 ∧ True) rfl ⟨(vp_in_nI (by omega) (by decide)), trivial⟩ ?_
        refine jt_ti (show (h1 (5, a, 0) (nI (36 + 5 * c)).toNatClampNeg) = nI (g (36 + 5 * c)) from jg_get Rh1 (k := 36 + 5 * c) (nI_clamp (by omega)) (by omega)) ?_
        have bq5 := jw_kind Wm (c := c) (by omega)
        refine jt_callp (w := .inl (nI (sp_grow (g (36 + 5 * c))))) jm_m162 75 (mi' := 159) (as := [.inl (nI (g (36 + 5 * c)))]) (rest := [.inl (nI (g (39 + 5 * c))), .inl (nI 99), .inl (nI (39 + 5 * c)), .inr (.inr (5, a, 0))]) (nxt := 120) rfl rfl jm_m159 rfl rfl (tb_grow (by omega)) ?_
        have bgr := sp_grow_le (g (36 + 5 * c))
        refine jt_go jm_m162 76 1 (f' := (121, [(6, .inl (nI (g (38 + 5 * c)))), (5, .inl (nI (min (sp_ap (g (38 + 5 * c)) (g (38 + 5 * c))) (sp_pace (g (36 + 5 * c)) (g (37 + 5 * c)) (g 2))))), (4, .inl (nI (g (38 + 5 * c)))), (3, .inl (nI (g (38 + 5 * c)))), (0, .inr (.inr (5, a, 0))), (1, .inl (nI c)), (2, .inl (nI 1))], [.inl ((nI (g (39 + 5 * c))) + (nI (sp_grow (g (36 + 5 * c))))), .inl (nI 99), .inl (nI (39 + 5 * c)), .inr (.inr (5, a, 0))], h1)) (P := True) rfl trivial ?_
        refine jt_ti (show ((nI (g (39 + 5 * c))) + (nI (sp_grow (g (36 + 5 * c))))) = nI (g (39 + 5 * c) + (sp_grow (g (36 + 5 * c)))) from nI_add _ _) ?_
        refine jt_callp (w := .inl (nI (min 99 (g (39 + 5 * c) + (sp_grow (g (36 + 5 * c))))))) jm_m162 77 (mi' := 144) (as := [.inl (nI 99), .inl (nI (g (39 + 5 * c) + (sp_grow (g (36 + 5 * c)))))]) (rest := [.inl (nI (39 + 5 * c)), .inr (.inr (5, a, 0))]) (nxt := 124) rfl rfl jm_m144 rfl rfl (tb_least (by omega) (by omega)) ?_
        refine jt_goM jm_m162 78 1 (pc' := 125) (L' := [(6, .inl (nI (g (38 + 5 * c)))), (5, .inl (nI (min (sp_ap (g (38 + 5 * c)) (g (38 + 5 * c))) (sp_pace (g (36 + 5 * c)) (g (37 + 5 * c)) (g 2))))), (4, .inl (nI (g (38 + 5 * c)))), (3, .inl (nI (g (38 + 5 * c)))), (0, .inr (.inr (5, a, 0))), (1, .inl (nI c)), (2, .inl (nI 1))]) (st' := []) (m' := jm_set h1 (5, a, 0) (upd (h1 (5, a, 0)) (nI (39 + 5 * c)).toNatClampNeg (nI (min 99 (g (39 + 5 * c) + (sp_grow (g (36 + 5 * c)))))))) (P := vp_in (nI (39 + 5 * c)) 78 ∧ True) rfl ⟨(vp_in_nI (by omega) (by decide)), trivial⟩ (fun h2 eh2 => ?_)
        have Fh2 : jg_fr a h h2 := by rw [eh2]; exact jg_fr_set Fh1
        obtain ⟨gh2, egh2⟩ : ∃ y, y = sp_up g (39 + 5 * c) (min 99 (g (39 + 5 * c) + (sp_grow (g (36 + 5 * c))))) := ⟨_, rfl⟩
        have Rh2 : jg_rel h2 a gh2 := by rw [eh2, egh2]; exact jg_set Rh1 (k := 39 + 5 * c) (w := min 99 (g (39 + 5 * c) + (sp_grow (g (36 + 5 * c))))) (nI_clamp (by omega)) rfl
        have eg : gh2 = sp_gone g c true := by rw [egh2]; rfl
        rw [eg] at Rh2
        have Wg := jw_gone (kept := true) W hc
        have hcg : c < sp_gone g c true 0 := by rw [sp_gone_ne W hc (by omega) (by omega) (by omega)]; exact hc
        refine jt_go jm_m162 79 1 (f' := (127, [(6, .inl (nI (g (38 + 5 * c)))), (5, .inl (nI (min (sp_ap (g (38 + 5 * c)) (g (38 + 5 * c))) (sp_pace (g (36 + 5 * c)) (g (37 + 5 * c)) (g 2))))), (4, .inl (nI (g (38 + 5 * c)))), (3, .inl (nI (g (38 + 5 * c)))), (0, .inr (.inr (5, a, 0))), (1, .inl (nI c)), (2, .inl (nI 1))], [.inl (nI (g (38 + 5 * c)))], h2)) (P := True) rfl trivial ?_
        refine jt_callp (w := .inl (nI (sp_sd (g (38 + 5 * c))))) jm_m162 80 (mi' := 154) (as := [.inl (nI (g (38 + 5 * c)))]) (rest := []) (nxt := 130) rfl rfl jm_m154 rfl rfl (tb_sideOf (by omega)) ?_
        have bq6 := sp_sd_le (g (38 + 5 * c))
        refine jt_go jm_m162 81 1 (f' := (131, [(6, .inl (nI (g (38 + 5 * c)))), (5, .inl (nI (min (sp_ap (g (38 + 5 * c)) (g (38 + 5 * c))) (sp_pace (g (36 + 5 * c)) (g (37 + 5 * c)) (g 2))))), (4, .inl (nI (g (38 + 5 * c)))), (3, .inl (nI (g (38 + 5 * c)))), (0, .inr (.inr (5, a, 0))), (1, .inl (nI c)), (2, .inl (nI 1))], [.inl (nI (g (38 + 5 * c))), .inl (nI (sp_sd (g (38 + 5 * c))))], h2)) (P := True) rfl trivial ?_
        refine jt_callp (w := .inl (nI (sp_sd (g (38 + 5 * c))))) jm_m162 82 (mi' := 154) (as := [.inl (nI (g (38 + 5 * c)))]) (rest := [.inl (nI (sp_sd (g (38 + 5 * c))))]) (nxt := 134) rfl rfl jm_m154 rfl rfl (tb_sideOf (by omega)) ?_
        have bq7 := sp_sd_le (g (38 + 5 * c))
        refine jt_niceq jm_m162 83 (a := sp_sd (g (38 + 5 * c))) (b := sp_sd (g (38 + 5 * c))) (by omega) (by omega) (tgt := 141) (nxt := 137) rfl rfl rfl (fun c134 => ?_) (fun c134 => ?_)
        · refine jt_go jm_m162 86 3 (f' := (146, [(7, .inl (nI 0)), (6, .inl (nI (g (38 + 5 * c)))), (5, .inl (nI (min (sp_ap (g (38 + 5 * c)) (g (38 + 5 * c))) (sp_pace (g (36 + 5 * c)) (g (37 + 5 * c)) (g 2))))), (4, .inl (nI (g (38 + 5 * c)))), (3, .inl (nI (g (38 + 5 * c)))), (0, .inr (.inr (5, a, 0))), (1, .inl (nI c)), (2, .inl (nI 1))], [.inl (nI 0)], h2)) (P := True) rfl trivial ?_
          refine jt_nifeq jm_m162 89 (by omega) (tgt := 158) (nxt := 149) rfl rfl rfl (fun c146 => ?_) (fun c146 => ?_)
          · refine jt_go jm_m162 95 1 (f' := (160, [(7, .inl (nI 0)), (6, .inl (nI (g (38 + 5 * c)))), (5, .inl (nI (min (sp_ap (g (38 + 5 * c)) (g (38 + 5 * c))) (sp_pace (g (36 + 5 * c)) (g (37 + 5 * c)) (g 2))))), (4, .inl (nI (g (38 + 5 * c)))), (3, .inl (nI (g (38 + 5 * c)))), (0, .inr (.inr (5, a, 0))), (1, .inl (nI c)), (2, .inl (nI 1))], [.inl (nI 0)], h2)) (P := True) rfl trivial ?_
            refine jt_zret jm_m162 96 rfl (Or.inl rfl) ?_
            refine ⟨jt_lb0 (by rw [sp_gone_atk]; exact fun z => z c134.symm), ?_, Fh2⟩
            unfold sp_one
            rw [if_neg (by rw [sp_gone_atk]; exact fun z => z c134.symm)]
            exact Rh2
          · exact absurd c146 (by decide)
        · refine jt_go jm_m162 84 2 (f' := (142, [(6, .inl (nI (g (38 + 5 * c)))), (5, .inl (nI (min (sp_ap (g (38 + 5 * c)) (g (38 + 5 * c))) (sp_pace (g (36 + 5 * c)) (g (37 + 5 * c)) (g 2))))), (4, .inl (nI (g (38 + 5 * c)))), (3, .inl (nI (g (38 + 5 * c)))), (0, .inr (.inr (5, a, 0))), (1, .inl (nI c)), (2, .inl (nI 1))], [.inl (nI 1)], h2)) (P := True) rfl trivial ?_
          refine jt_go jm_m162 87 2 (f' := (146, [(7, .inl (nI 1)), (6, .inl (nI (g (38 + 5 * c)))), (5, .inl (nI (min (sp_ap (g (38 + 5 * c)) (g (38 + 5 * c))) (sp_pace (g (36 + 5 * c)) (g (37 + 5 * c)) (g 2))))), (4, .inl (nI (g (38 + 5 * c)))), (3, .inl (nI (g (38 + 5 * c)))), (0, .inr (.inr (5, a, 0))), (1, .inl (nI c)), (2, .inl (nI 1))], [.inl (nI 1)], h2)) (P := True) rfl trivial ?_
          refine jt_nifeq jm_m162 89 (by omega) (tgt := 158) (nxt := 149) rfl rfl rfl (fun c146 => ?_) (fun c146 => ?_)
          · exact absurd c146 (by decide)
          · refine jt_go jm_m162 90 3 (f' := (152, [(7, .inl (nI 1)), (6, .inl (nI (g (38 + 5 * c)))), (5, .inl (nI (min (sp_ap (g (38 + 5 * c)) (g (38 + 5 * c))) (sp_pace (g (36 + 5 * c)) (g (37 + 5 * c)) (g 2))))), (4, .inl (nI (g (38 + 5 * c)))), (3, .inl (nI (g (38 + 5 * c)))), (0, .inr (.inr (5, a, 0))), (1, .inl (nI c)), (2, .inl (nI 1))], [.inl (nI (g (38 + 5 * c))), .inl (nI c), .inr (.inr (5, a, 0))], h2)) (P := True) rfl trivial ?_
            refine jt_callp (w := .inl (nI (sp_sd (g (38 + 5 * c))))) jm_m162 93 (mi' := 154) (as := [.inl (nI (g (38 + 5 * c)))]) (rest := [.inl (nI c), .inr (.inr (5, a, 0))]) (nxt := 155) rfl rfl jm_m154 rfl rfl (tb_sideOf (by omega)) ?_
            have bq8 := sp_sd_le (g (38 + 5 * c))
            refine jt_call jm_m162 94 (mi' := 161) (as := [.inr (.inr (5, a, 0)), .inl (nI c), .inl (nI (sp_sd (g (38 + 5 * c))))]) (rest := []) (nxt := 158) rfl rfl jm_m161 rfl rfl (tb_pass Rh2 Wg hcg (sp_sd_le _)) ?_
            rintro u h9 ⟨rfl, Rh9, Fh9⟩
            show jt_T 162 (158, [(7, .inl (nI 1)), (6, .inl (nI (g (38 + 5 * c)))), (5, .inl (nI (min (sp_ap (g (38 + 5 * c)) (g (38 + 5 * c))) (sp_pace (g (36 + 5 * c)) (g (37 + 5 * c)) (g 2))))), (4, .inl (nI (g (38 + 5 * c)))), (3, .inl (nI (g (38 + 5 * c)))), (0, .inr (.inr (5, a, 0))), (1, .inl (nI c)), (2, .inl (nI 1))], [], h9) _
            have Fh9 := jg_fr_tr Fh2 Fh9
            refine jt_go jm_m162 95 1 (f' := (160, [(7, .inl (nI 1)), (6, .inl (nI (g (38 + 5 * c)))), (5, .inl (nI (min (sp_ap (g (38 + 5 * c)) (g (38 + 5 * c))) (sp_pace (g (36 + 5 * c)) (g (37 + 5 * c)) (g 2))))), (4, .inl (nI (g (38 + 5 * c)))), (3, .inl (nI (g (38 + 5 * c)))), (0, .inr (.inr (5, a, 0))), (1, .inl (nI c)), (2, .inl (nI 1))], [.inl (nI 1)], h9)) (P := True) rfl trivial ?_
            refine jt_zret jm_m162 96 rfl (Or.inr rfl) ?_
            refine ⟨jt_lb1 (by rw [sp_gone_atk]; exact fun z => c134 z.symm), ?_, Fh9⟩
            unfold sp_one
            rw [if_pos (by rw [sp_gone_atk]; exact fun z => c134 z.symm)]
            exact Rh9
      · exact absurd rfl c73
    · have bap := sp_ap_l c45
      exact absurd c45 (Nat.lt_irrefl _)
