/-! THE FACE: nearest, all, good, deserted. -/
def sp_far (p : Nat) : Nat := if p ≤ 7 then 7 - p else p - 8
theorem sp_far_le {p : Nat} (h : p < 16) : sp_far p ≤ 7 := by unfold sp_far; split <;> omega
def sp_nf (g : Nat → Nat) (k : Nat) : Option Nat := some (sp_far (g (38 + 5 * k)))
set_option maxHeartbeats 4000000 in
set_option maxRecDepth 20000 in
theorem ta_far {h : jm_M} {p : Nat} (hp : p < 16) : jt_Pu 106 [.inl (nI p)] h (.inl (nI (sp_far p))) := by
  show jt_T 106 (0, [(0, .inl (nI p))], [], h) _
  refine jt_go jm_m106 0 1 (f' := (1, [(0, .inl (nI p))], [.inl (nI p)], h)) (P := True) rfl trivial ?_
  refine jt_callp (w := .inl (nI (sp_sd p))) jm_m106 1 (mi' := 142) (as := [.inl (nI p)]) (rest := []) (nxt := 4) rfl rfl jm_m142 rfl rfl (ta_sideOf (by omega)) ?_
  have bq1 := sp_sd_le p
  refine jt_nifne jm_m106 2 (by omega) (tgt := 14) (nxt := 7) rfl rfl rfl (fun c4 => ?_) (fun c4 => ?_)
  · refine jt_go jm_m106 7 3 (f' := (18, [(0, .inl (nI p))], [.inl ((nI p) - (nI 8))], h)) (P := True) rfl trivial ?_
    refine jt_ti (show ((nI p) - (nI 8)) = nI (p - 8) from nI_subN (by unfold sp_sd at c4; split at c4 <;> omega)) ?_
    refine jt_iret jm_m106 10 rfl ?_
    exact ⟨jt_ln (by unfold sp_far; unfold sp_sd at c4; split at c4 <;> split <;> omega), rfl⟩
  · refine jt_go jm_m106 3 3 (f' := (11, [(0, .inl (nI p))], [.inl ((nI 7) - (nI p))], h)) (P := True) rfl trivial ?_
    refine jt_ti (show ((nI 7) - (nI p)) = nI (7 - p) from nI_subN (by unfold sp_sd at c4; split at c4 <;> omega)) ?_
    refine jt_go jm_m106 6 1 (f' := (18, [(0, .inl (nI p))], [.inl (nI (7 - p))], h)) (P := True) rfl trivial ?_
    refine jt_iret jm_m106 10 rfl ?_
    exact ⟨jt_ln (by unfold sp_far; unfold sp_sd at c4; split at c4 <;> split <;> omega), rfl⟩
set_option maxHeartbeats 4000000 in
set_option maxRecDepth 20000 in
theorem tb_far {h : jm_M} {g : Nat → Nat} (R : jg_rel h 0 g) (W : jw g) {c : Nat} (hc : c < 6) : jt_Pu 208 [.inr (.inr (4, 0, 0)), .inl (nI c)] h (.inl (nI (sp_far (g (38 + 5 * c))))) := by
  show jt_T 208 (0, [(0, .inr (.inr (4, 0, 0))), (1, .inl (nI c))], [], h) _
  refine jt_go jm_m208 0 4 (f' := (6, [(0, .inr (.inr (4, 0, 0))), (1, .inl (nI c))], [.inl (nI 2), .inl (nI c), .inr (.inr (5, 0, 0))], h)) (P := True) rfl trivial ?_
  refine jt_callp (w := .inl (nI (38 + 5 * c))) jm_m208 4 (mi' := 147) (as := [.inl (nI c), .inl (nI 2)]) (rest := [.inr (.inr (5, 0, 0))]) (nxt := 9) rfl rfl jm_m147 rfl rfl (tb_ofC (k := 38 + 5 * c) (by omega)) ?_
  refine jt_go jm_m208 5 1 (f' := (10, [(0, .inr (.inr (4, 0, 0))), (1, .inl (nI c))], [.inl (h (5, 0, 0) (nI (38 + 5 * c)).toNatClampNeg)], h)) (P := vp_in (nI (38 + 5 * c)) 78 ∧ True) rfl ⟨(vp_in_nI (by omega) (by decide)), trivial⟩ ?_
  refine jt_ti (show (h (5, 0, 0) (nI (38 + 5 * c)).toNatClampNeg) = nI (g (38 + 5 * c)) from jg_get R (k := 38 + 5 * c) (nI_clamp (by omega)) (by omega)) ?_
  have bq1 := jw_at W (c := c) (by omega)
  refine jt_go jm_m208 6 3 (f' := (14, [(2, .inl (nI (g (38 + 5 * c)))), (0, .inr (.inr (4, 0, 0))), (1, .inl (nI c))], [.inl (nI 8), .inl (nI (g (38 + 5 * c)))], h)) (P := True) rfl trivial ?_
  refine jt_nicge jm_m208 9 (a := g (38 + 5 * c)) (b := 8) (by omega) (by omega) (tgt := 24) (nxt := 17) rfl rfl rfl (fun c14 => ?_) (fun c14 => ?_)
  · refine jt_go jm_m208 14 3 (f' := (28, [(2, .inl (nI (g (38 + 5 * c)))), (0, .inr (.inr (4, 0, 0))), (1, .inl (nI c))], [.inl ((nI (g (38 + 5 * c))) - (nI 8))], h)) (P := True) rfl trivial ?_
    refine jt_ti (show ((nI (g (38 + 5 * c))) - (nI 8)) = nI (g (38 + 5 * c) - 8) from nI_subN (by omega)) ?_
    refine jt_iret jm_m208 17 rfl ?_
    exact ⟨jt_ln (by unfold sp_far; rw [if_neg (by omega)]), rfl⟩
  · refine jt_go jm_m208 10 3 (f' := (21, [(2, .inl (nI (g (38 + 5 * c)))), (0, .inr (.inr (4, 0, 0))), (1, .inl (nI c))], [.inl ((nI 7) - (nI (g (38 + 5 * c))))], h)) (P := True) rfl trivial ?_
    refine jt_ti (show ((nI 7) - (nI (g (38 + 5 * c)))) = nI (7 - g (38 + 5 * c)) from nI_subN (by omega)) ?_
    refine jt_go jm_m208 13 1 (f' := (28, [(2, .inl (nI (g (38 + 5 * c)))), (0, .inr (.inr (4, 0, 0))), (1, .inl (nI c))], [.inl (nI (7 - g (38 + 5 * c)))], h)) (P := True) rfl trivial ?_
    refine jt_iret jm_m208 17 rfl ?_
    exact ⟨jt_ln (by unfold sp_far; rw [if_pos (by omega)]), rfl⟩
set_option maxHeartbeats 4000000 in
set_option maxRecDepth 20000 in
theorem ca_near2_l {h : jm_M} {g : Nat → Nat} (R : jf_rel h 0 g) (W : jw g) {w : Nat} (hw : w ≤ 1) : ∀ k, k ≤ g 0 → jt_T 105 (20, [(0, .inr (.inr (0, 0, 0))), (1, .inl (nI w)), (2, .inl (jo1 (sp_bst (sp_nf g) k))), (3, .inl (jo2 (sp_bst (sp_nf g) k))), (4, .inl (nI k))], [], h) (fun u h' => u = some (.inl (if w = 0 then jo1 (sp_bst (sp_nf g) (g 0)) else jo2 (sp_bst (sp_nf g) (g 0)))) ∧ h' = h) := jx_up (P := fun k => jt_T 105 (20, [(0, .inr (.inr (0, 0, 0))), (1, .inl (nI w)), (2, .inl (jo1 (sp_bst (sp_nf g) k))), (3, .inl (jo2 (sp_bst (sp_nf g) k))), (4, .inl (nI k))], [], h) (fun u h' => u = some (.inl (if w = 0 then jo1 (sp_bst (sp_nf g) (g 0)) else jo2 (sp_bst (sp_nf g) (g 0)))) ∧ h' = h)) (fun k hk nx   => by
  have bn := jw_n W
  have bm := jw_m W
  have bt := jw_t W
  rcases eb : sp_bst (sp_nf g) k with _ | ⟨b, v⟩
  · skip
    show jt_T 105 (20, [(0, .inr (.inr (0, 0, 0))), (1, .inl (nI w)), (2, .inl ((-4))), (3, .inl ((-4))), (4, .inl (nI k))], [], h) _
    refine jt_go jm_m105 13 4 (f' := (29, [(0, .inr (.inr (0, 0, 0))), (1, .inl (nI w)), (2, .inl ((-4))), (3, .inl ((-4))), (4, .inl (nI k))], [.inl (h (2, 0, 0) 9), .inl (nI k)], h)) (P := True) rfl trivial ?_
    refine jt_ti (show (h (2, 0, 0) 9) = nI (g 0) from jf_cats R) ?_
    have bq1 := jw_n W
    refine jt_nicge jm_m105 17 (a := k) (b := g 0) (by omega) (by omega) (tgt := 71) (nxt := 32) rfl rfl rfl (fun c29 => ?_) (fun c29 => ?_)
    · refine jt_go jm_m105 37 1 (f' := (72, [(0, .inr (.inr (0, 0, 0))), (1, .inl (nI w)), (2, .inl ((-4))), (3, .inl ((-4))), (4, .inl (nI k))], [.inl (nI w)], h)) (P := True) rfl trivial ?_
      refine jt_nifne jm_m105 38 (by omega) (tgt := 79) (nxt := 75) rfl rfl rfl (fun c72 => ?_) (fun c72 => ?_)
      · refine jt_go jm_m105 41 1 (f' := (80, [(0, .inr (.inr (0, 0, 0))), (1, .inl (nI w)), (2, .inl ((-4))), (3, .inl ((-4))), (4, .inl (nI k))], [.inl ((-4))], h)) (P := True) rfl trivial ?_
        refine jt_iret jm_m105 42 rfl ?_
        have e : k = g 0 := by omega
        subst e
        refine ⟨jt_li ?_, rfl⟩
        rw [eb]
        first | (rw [if_pos (by assumption)]; rfl) | (rw [if_neg (by assumption)]; rfl) | (rw [if_neg (by assumption), ← hv]; rfl) | (rw [if_neg (by assumption)]; exact congrArg nI hv.symm) | (split <;> rfl)
      · refine jt_go jm_m105 39 2 (f' := (80, [(0, .inr (.inr (0, 0, 0))), (1, .inl (nI w)), (2, .inl ((-4))), (3, .inl ((-4))), (4, .inl (nI k))], [.inl ((-4))], h)) (P := True) rfl trivial ?_
        refine jt_iret jm_m105 42 rfl ?_
        have e : k = g 0 := by omega
        subst e
        refine ⟨jt_li ?_, rfl⟩
        rw [eb]
        first | (rw [if_pos (by assumption)]; rfl) | (rw [if_neg (by assumption)]; rfl) | (rw [if_neg (by assumption), ← hv]; rfl) | (rw [if_neg (by assumption)]; exact congrArg nI hv.symm) | (split <;> rfl)
    · refine jt_go jm_m105 18 5 (f' := (42, [(0, .inr (.inr (0, 0, 0))), (1, .inl (nI w)), (2, .inl ((-4))), (3, .inl ((-4))), (4, .inl (nI k))], [.inl (h (2, 0, 3) (nI k).toNatClampNeg)], h)) (P := vp_in (nI k) 6 ∧ True) rfl ⟨(vp_in_nI (by omega) (by decide)), trivial⟩ ?_
      refine jt_ti (show (h (2, 0, 3) (nI k).toNatClampNeg) = nI (g (38 + 5 * k)) from jf_at R (c := k) (nI_clamp (by omega)) (by omega)) ?_
      have bq2 := jw_at W (c := k) (by omega)
      refine jt_callp (w := .inl (nI (sp_far (g (38 + 5 * k))))) jm_m105 23 (mi' := 106) (as := [.inl (nI (g (38 + 5 * k)))]) (rest := []) (nxt := 45) rfl rfl jm_m106 rfl rfl (ta_far (by omega)) ?_
      have bq3 := sp_far_le (p := g (38 + 5 * k)) (by omega)
      refine jt_go jm_m105 24 3 (f' := (50, [(5, .inl (nI (sp_far (g (38 + 5 * k))))), (0, .inr (.inr (0, 0, 0))), (1, .inl (nI w)), (2, .inl ((-4))), (3, .inl ((-4))), (4, .inl (nI k))], [.inl ((-4)), .inl ((-4))], h)) (P := True) rfl trivial ?_
      refine jt_iceq jm_m105 27 (tgt := 59) (nxt := 53) rfl rfl rfl (fun c50 => ?_) (fun c50 => ?_)
      · refine jt_go jm_m105 31 4 (f' := (65, [(3, .inl (nI (sp_far (g (38 + 5 * k))))), (2, .inl (nI k)), (5, .inl (nI (sp_far (g (38 + 5 * k))))), (0, .inr (.inr (0, 0, 0))), (1, .inl (nI w)), (4, .inl (nI k))], [], h)) (P := True) rfl trivial ?_
        refine jt_inc jm_m105 35 (c := k) (L' := [(4, .inl (nI (k + 1))), (3, .inl (nI (sp_far (g (38 + 5 * k))))), (2, .inl (nI k)), (5, .inl (nI (sp_far (g (38 + 5 * k))))), (0, .inr (.inr (0, 0, 0))), (1, .inl (nI w))]) rfl rfl rfl rfl ?_
        refine jt_go jm_m105 36 1 (f' := (20, [(4, .inl (nI (k + 1))), (3, .inl (nI (sp_far (g (38 + 5 * k))))), (2, .inl (nI k)), (5, .inl (nI (sp_far (g (38 + 5 * k))))), (0, .inr (.inr (0, 0, 0))), (1, .inl (nI w))], [], h)) (P := True) rfl trivial ?_
        refine jt_pick (L' := [(0, .inr (.inr (0, 0, 0))), (1, .inl (nI w)), (2, .inl (nI k)), (3, .inl (nI (sp_far (g (38 + 5 * k))))), (4, .inl (nI (k + 1)))]) [4, 5, 2, 1, 0] rfl ?_
        have e := sp_bst_first (F := sp_nf g) (k := k) rfl eb
        have q := nx (by omega)
        rw [e] at q
        exact q
      · exact absurd c50 (by decide)
  · have hb0 := sp_bst_sp (F := sp_nf g) k
    rw [eb] at hb0
    have hb1 : b < k := hb0.1
    have hv : sp_far (g (38 + 5 * b)) = v := Option.some.inj hb0.2.1
    have hv2 := sp_far_le (jw_at W (c := b) (by omega))
    show jt_T 105 (20, [(0, .inr (.inr (0, 0, 0))), (1, .inl (nI w)), (2, .inl (nI b)), (3, .inl (nI v)), (4, .inl (nI k))], [], h) _
    refine jt_go jm_m105 13 4 (f' := (29, [(0, .inr (.inr (0, 0, 0))), (1, .inl (nI w)), (2, .inl (nI b)), (3, .inl (nI v)), (4, .inl (nI k))], [.inl (h (2, 0, 0) 9), .inl (nI k)], h)) (P := True) rfl trivial ?_
    refine jt_ti (show (h (2, 0, 0) 9) = nI (g 0) from jf_cats R) ?_
    have bq1 := jw_n W
    refine jt_nicge jm_m105 17 (a := k) (b := g 0) (by omega) (by omega) (tgt := 71) (nxt := 32) rfl rfl rfl (fun c29 => ?_) (fun c29 => ?_)
    · refine jt_go jm_m105 37 1 (f' := (72, [(0, .inr (.inr (0, 0, 0))), (1, .inl (nI w)), (2, .inl (nI b)), (3, .inl (nI v)), (4, .inl (nI k))], [.inl (nI w)], h)) (P := True) rfl trivial ?_
      refine jt_nifne jm_m105 38 (by omega) (tgt := 79) (nxt := 75) rfl rfl rfl (fun c72 => ?_) (fun c72 => ?_)
      · refine jt_go jm_m105 41 1 (f' := (80, [(0, .inr (.inr (0, 0, 0))), (1, .inl (nI w)), (2, .inl (nI b)), (3, .inl (nI v)), (4, .inl (nI k))], [.inl (nI v)], h)) (P := True) rfl trivial ?_
        refine jt_iret jm_m105 42 rfl ?_
        have e : k = g 0 := by omega
        subst e
        refine ⟨jt_li ?_, rfl⟩
        rw [eb]
        first | (rw [if_pos (by assumption)]; rfl) | (rw [if_neg (by assumption)]; rfl) | (rw [if_neg (by assumption), ← hv]; rfl) | (rw [if_neg (by assumption)]; exact congrArg nI hv.symm) | (split <;> rfl)
      · refine jt_go jm_m105 39 2 (f' := (80, [(0, .inr (.inr (0, 0, 0))), (1, .inl (nI w)), (2, .inl (nI b)), (3, .inl (nI v)), (4, .inl (nI k))], [.inl (nI b)], h)) (P := True) rfl trivial ?_
        refine jt_iret jm_m105 42 rfl ?_
        have e : k = g 0 := by omega
        subst e
        refine ⟨jt_li ?_, rfl⟩
        rw [eb]
        first | (rw [if_pos (by assumption)]; rfl) | (rw [if_neg (by assumption)]; rfl) | (rw [if_neg (by assumption), ← hv]; rfl) | (rw [if_neg (by assumption)]; exact congrArg nI hv.symm) | (split <;> rfl)
    · refine jt_go jm_m105 18 5 (f' := (42, [(0, .inr (.inr (0, 0, 0))), (1, .inl (nI w)), (2, .inl (nI b)), (3, .inl (nI v)), (4, .inl (nI k))], [.inl (h (2, 0, 3) (nI k).toNatClampNeg)], h)) (P := vp_in (nI k) 6 ∧ True) rfl ⟨(vp_in_nI (by omega) (by decide)), trivial⟩ ?_
      refine jt_ti (show (h (2, 0, 3) (nI k).toNatClampNeg) = nI (g (38 + 5 * k)) from jf_at R (c := k) (nI_clamp (by omega)) (by omega)) ?_
      have bq2 := jw_at W (c := k) (by omega)
      refine jt_callp (w := .inl (nI (sp_far (g (38 + 5 * k))))) jm_m105 23 (mi' := 106) (as := [.inl (nI (g (38 + 5 * k)))]) (rest := []) (nxt := 45) rfl rfl jm_m106 rfl rfl (ta_far (by omega)) ?_
      have bq3 := sp_far_le (p := g (38 + 5 * k)) (by omega)
      refine jt_go jm_m105 24 3 (f' := (50, [(5, .inl (nI (sp_far (g (38 + 5 * k))))), (0, .inr (.inr (0, 0, 0))), (1, .inl (nI w)), (2, .inl (nI b)), (3, .inl (nI v)), (4, .inl (nI k))], [.inl ((-4)), .inl (nI b)], h)) (P := True) rfl trivial ?_
      refine jt_iceq jm_m105 27 (tgt := 59) (nxt := 53) rfl rfl rfl (fun c50 => ?_) (fun c50 => ?_)
      · exact absurd c50 (nI_nn4 (by omega))
      · refine jt_go jm_m105 28 2 (f' := (56, [(5, .inl (nI (sp_far (g (38 + 5 * k))))), (0, .inr (.inr (0, 0, 0))), (1, .inl (nI w)), (2, .inl (nI b)), (3, .inl (nI v)), (4, .inl (nI k))], [.inl (nI v), .inl (nI (sp_far (g (38 + 5 * k))))], h)) (P := True) rfl trivial ?_
        refine jt_nicge jm_m105 30 (a := sp_far (g (38 + 5 * k))) (b := v) (by omega) (by omega) (tgt := 65) (nxt := 59) rfl rfl rfl (fun c56 => ?_) (fun c56 => ?_)
        · refine jt_inc jm_m105 35 (c := k) (L' := [(4, .inl (nI (k + 1))), (5, .inl (nI (sp_far (g (38 + 5 * k))))), (0, .inr (.inr (0, 0, 0))), (1, .inl (nI w)), (2, .inl (nI b)), (3, .inl (nI v))]) rfl rfl rfl rfl ?_
          refine jt_go jm_m105 36 1 (f' := (20, [(4, .inl (nI (k + 1))), (5, .inl (nI (sp_far (g (38 + 5 * k))))), (0, .inr (.inr (0, 0, 0))), (1, .inl (nI w)), (2, .inl (nI b)), (3, .inl (nI v))], [], h)) (P := True) rfl trivial ?_
          refine jt_pick (L' := [(0, .inr (.inr (0, 0, 0))), (1, .inl (nI w)), (2, .inl (nI b)), (3, .inl (nI v)), (4, .inl (nI (k + 1)))]) [2, 3, 4, 5, 0] rfl ?_
          have e := sp_bst_ge (F := sp_nf g) (k := k) rfl eb (by omega)
          have q := nx (by omega)
          rw [e] at q
          exact q
        · refine jt_go jm_m105 31 4 (f' := (65, [(3, .inl (nI (sp_far (g (38 + 5 * k))))), (2, .inl (nI k)), (5, .inl (nI (sp_far (g (38 + 5 * k))))), (0, .inr (.inr (0, 0, 0))), (1, .inl (nI w)), (4, .inl (nI k))], [], h)) (P := True) rfl trivial ?_
          refine jt_inc jm_m105 35 (c := k) (L' := [(4, .inl (nI (k + 1))), (3, .inl (nI (sp_far (g (38 + 5 * k))))), (2, .inl (nI k)), (5, .inl (nI (sp_far (g (38 + 5 * k))))), (0, .inr (.inr (0, 0, 0))), (1, .inl (nI w))]) rfl rfl rfl rfl ?_
          refine jt_go jm_m105 36 1 (f' := (20, [(4, .inl (nI (k + 1))), (3, .inl (nI (sp_far (g (38 + 5 * k))))), (2, .inl (nI k)), (5, .inl (nI (sp_far (g (38 + 5 * k))))), (0, .inr (.inr (0, 0, 0))), (1, .inl (nI w))], [], h)) (P := True) rfl trivial ?_
          refine jt_pick (L' := [(0, .inr (.inr (0, 0, 0))), (1, .inl (nI w)), (2, .inl (nI k)), (3, .inl (nI (sp_far (g (38 + 5 * k))))), (4, .inl (nI (k + 1)))]) [4, 5, 2, 1, 0] rfl ?_
          have e := sp_bst_less (F := sp_nf g) (k := k) rfl eb (by omega)
          have q := nx (by omega)
          rw [e] at q
          exact q)
set_option maxHeartbeats 4000000 in
set_option maxRecDepth 20000 in
theorem cb_near2_l {h : jm_M} {g : Nat → Nat} (R : jg_rel h 0 g) (W : jw g) {w : Nat} (hw : w ≤ 1) : ∀ k, k ≤ g 0 → jt_T 209 (16, [(0, .inr (.inr (4, 0, 0))), (1, .inl (nI w)), (2, .inl (jo1 (sp_bst (sp_nf g) k))), (3, .inl (nI k))], [], h) (fun u h' => u = some (.inl (if w = 0 then jo1 (sp_bst (sp_nf g) (g 0)) else jo2 (sp_bst (sp_nf g) (g 0)))) ∧ h' = h) := jx_up (P := fun k => jt_T 209 (16, [(0, .inr (.inr (4, 0, 0))), (1, .inl (nI w)), (2, .inl (jo1 (sp_bst (sp_nf g) k))), (3, .inl (nI k))], [], h) (fun u h' => u = some (.inl (if w = 0 then jo1 (sp_bst (sp_nf g) (g 0)) else jo2 (sp_bst (sp_nf g) (g 0)))) ∧ h' = h)) (fun k hk nx   => by
  have bn := jw_n W
  have bm := jw_m W
  have bt := jw_t W
  rcases eb : sp_bst (sp_nf g) k with _ | ⟨b, v⟩
  · skip
    show jt_T 209 (16, [(0, .inr (.inr (4, 0, 0))), (1, .inl (nI w)), (2, .inl ((-4))), (3, .inl (nI k))], [], h) _
    refine jt_go jm_m209 11 5 (f' := (23, [(0, .inr (.inr (4, 0, 0))), (1, .inl (nI w)), (2, .inl ((-4))), (3, .inl (nI k))], [.inl (h (5, 0, 0) (nI 0).toNatClampNeg), .inl (nI k)], h)) (P := vp_in (nI 0) 78 ∧ True) rfl ⟨(vp_in_nI (by omega) (by decide)), trivial⟩ ?_
    refine jt_ti (show (h (5, 0, 0) (nI 0).toNatClampNeg) = nI (g 0) from jg_get R (k := 0) (nI_clamp (by omega)) (by omega)) ?_
    have bq1 := jw_n W
    refine jt_nicge jm_m209 16 (a := k) (b := g 0) (by omega) (by omega) (tgt := 51) (nxt := 26) rfl rfl rfl (fun c23 => ?_) (fun c23 => ?_)
    · refine jt_go jm_m209 30 1 (f' := (52, [(0, .inr (.inr (4, 0, 0))), (1, .inl (nI w)), (2, .inl ((-4))), (3, .inl (nI k))], [.inl ((-4))], h)) (P := True) rfl trivial ?_
      refine jt_iflt jm_m209 31 (tgt := 59) (nxt := 55) rfl rfl rfl (fun c52 => ?_) (fun c52 => ?_)
      · refine jt_go jm_m209 34 2 (f' := (68, [(0, .inr (.inr (4, 0, 0))), (1, .inl (nI w)), (2, .inl ((-4))), (3, .inl (nI k))], [.inl ((-4))], h)) (P := True) rfl trivial ?_
        refine jt_iret jm_m209 39 rfl ?_
        have e : k = g 0 := by omega
        subst e
        refine ⟨jt_li ?_, rfl⟩
        rw [eb]
        first | (rw [if_pos (by assumption)]; rfl) | (rw [if_neg (by assumption)]; rfl) | (rw [if_neg (by assumption), ← hv]; rfl) | (rw [if_neg (by assumption)]; exact congrArg nI hv.symm) | (split <;> rfl)
      · exact absurd c52 (by decide)
    · refine jt_go jm_m209 17 1 (f' := (27, [(0, .inr (.inr (4, 0, 0))), (1, .inl (nI w)), (2, .inl ((-4))), (3, .inl (nI k))], [.inl ((-4))], h)) (P := True) rfl trivial ?_
      refine jt_iflt jm_m209 18 (tgt := 43) (nxt := 30) rfl rfl rfl (fun c27 => ?_) (fun c27 => ?_)
      · refine jt_go jm_m209 26 2 (f' := (45, [(2, .inl (nI k)), (0, .inr (.inr (4, 0, 0))), (1, .inl (nI w)), (3, .inl (nI k))], [], h)) (P := True) rfl trivial ?_
        refine jt_inc jm_m209 28 (c := k) (L' := [(3, .inl (nI (k + 1))), (2, .inl (nI k)), (0, .inr (.inr (4, 0, 0))), (1, .inl (nI w))]) rfl rfl rfl rfl ?_
        refine jt_go jm_m209 29 1 (f' := (16, [(3, .inl (nI (k + 1))), (2, .inl (nI k)), (0, .inr (.inr (4, 0, 0))), (1, .inl (nI w))], [], h)) (P := True) rfl trivial ?_
        refine jt_pick (L' := [(0, .inr (.inr (4, 0, 0))), (1, .inl (nI w)), (2, .inl (nI k)), (3, .inl (nI (k + 1)))]) [2, 3, 1, 0] rfl ?_
        have e := sp_bst_first (F := sp_nf g) (k := k) rfl eb
        have q := nx (by omega)
        rw [e] at q
        exact q
      · exact absurd c27 (by decide)
  · have hb0 := sp_bst_sp (F := sp_nf g) k
    rw [eb] at hb0
    have hb1 : b < k := hb0.1
    have hv : sp_far (g (38 + 5 * b)) = v := Option.some.inj hb0.2.1
    have hv2 := sp_far_le (jw_at W (c := b) (by omega))
    show jt_T 209 (16, [(0, .inr (.inr (4, 0, 0))), (1, .inl (nI w)), (2, .inl (nI b)), (3, .inl (nI k))], [], h) _
    refine jt_go jm_m209 11 5 (f' := (23, [(0, .inr (.inr (4, 0, 0))), (1, .inl (nI w)), (2, .inl (nI b)), (3, .inl (nI k))], [.inl (h (5, 0, 0) (nI 0).toNatClampNeg), .inl (nI k)], h)) (P := vp_in (nI 0) 78 ∧ True) rfl ⟨(vp_in_nI (by omega) (by decide)), trivial⟩ ?_
    refine jt_ti (show (h (5, 0, 0) (nI 0).toNatClampNeg) = nI (g 0) from jg_get R (k := 0) (nI_clamp (by omega)) (by omega)) ?_
    have bq1 := jw_n W
    refine jt_nicge jm_m209 16 (a := k) (b := g 0) (by omega) (by omega) (tgt := 51) (nxt := 26) rfl rfl rfl (fun c23 => ?_) (fun c23 => ?_)
    · refine jt_go jm_m209 30 1 (f' := (52, [(0, .inr (.inr (4, 0, 0))), (1, .inl (nI w)), (2, .inl (nI b)), (3, .inl (nI k))], [.inl (nI b)], h)) (P := True) rfl trivial ?_
      refine jt_niflt jm_m209 31 (by omega) rfl rfl rfl (fun _ => ?_)
      refine jt_go jm_m209 32 1 (f' := (56, [(0, .inr (.inr (4, 0, 0))), (1, .inl (nI w)), (2, .inl (nI b)), (3, .inl (nI k))], [.inl (nI w)], h)) (P := True) rfl trivial ?_
      refine jt_nifne jm_m209 33 (by omega) (tgt := 63) (nxt := 59) rfl rfl rfl (fun c56 => ?_) (fun c56 => ?_)
      · refine jt_go jm_m209 36 2 (f' := (65, [(0, .inr (.inr (4, 0, 0))), (1, .inl (nI w)), (2, .inl (nI b)), (3, .inl (nI k))], [.inl (nI b), .inr (.inr (4, 0, 0))], h)) (P := True) rfl trivial ?_
        refine jt_callp (w := .inl (nI (sp_far (g (38 + 5 * b))))) jm_m209 38 (mi' := 208) (as := [.inr (.inr (4, 0, 0)), .inl (nI b)]) (rest := []) (nxt := 68) rfl rfl jm_m208 rfl rfl (tb_far R W (by omega)) ?_
        have bq2 := sp_far_le (p := g (38 + 5 * b)) (jw_at W (by omega))
        refine jt_iret jm_m209 39 rfl ?_
        have e : k = g 0 := by omega
        subst e
        refine ⟨jt_li ?_, rfl⟩
        rw [eb]
        first | (rw [if_pos (by assumption)]; rfl) | (rw [if_neg (by assumption)]; rfl) | (rw [if_neg (by assumption), ← hv]; rfl) | (rw [if_neg (by assumption)]; exact congrArg nI hv.symm) | (split <;> rfl)
      · refine jt_go jm_m209 34 2 (f' := (68, [(0, .inr (.inr (4, 0, 0))), (1, .inl (nI w)), (2, .inl (nI b)), (3, .inl (nI k))], [.inl (nI b)], h)) (P := True) rfl trivial ?_
        refine jt_iret jm_m209 39 rfl ?_
        have e : k = g 0 := by omega
        subst e
        refine ⟨jt_li ?_, rfl⟩
        rw [eb]
        first | (rw [if_pos (by assumption)]; rfl) | (rw [if_neg (by assumption)]; rfl) | (rw [if_neg (by assumption), ← hv]; rfl) | (rw [if_neg (by assumption)]; exact congrArg nI hv.symm) | (split <;> rfl)
    · refine jt_go jm_m209 17 1 (f' := (27, [(0, .inr (.inr (4, 0, 0))), (1, .inl (nI w)), (2, .inl (nI b)), (3, .inl (nI k))], [.inl (nI b)], h)) (P := True) rfl trivial ?_
      refine jt_niflt jm_m209 18 (by omega) rfl rfl rfl (fun _ => ?_)
      refine jt_go jm_m209 19 2 (f' := (32, [(0, .inr (.inr (4, 0, 0))), (1, .inl (nI w)), (2, .inl (nI b)), (3, .inl (nI k))], [.inl (nI k), .inr (.inr (4, 0, 0))], h)) (P := True) rfl trivial ?_
      refine jt_callp (w := .inl (nI (sp_far (g (38 + 5 * k))))) jm_m209 21 (mi' := 208) (as := [.inr (.inr (4, 0, 0)), .inl (nI k)]) (rest := []) (nxt := 35) rfl rfl jm_m208 rfl rfl (tb_far R W (by omega)) ?_
      have bq3 := sp_far_le (p := g (38 + 5 * k)) (jw_at W (by omega))
      refine jt_go jm_m209 22 2 (f' := (37, [(0, .inr (.inr (4, 0, 0))), (1, .inl (nI w)), (2, .inl (nI b)), (3, .inl (nI k))], [.inl (nI b), .inr (.inr (4, 0, 0)), .inl (nI (sp_far (g (38 + 5 * k))))], h)) (P := True) rfl trivial ?_
      refine jt_callp (w := .inl (nI (sp_far (g (38 + 5 * b))))) jm_m209 24 (mi' := 208) (as := [.inr (.inr (4, 0, 0)), .inl (nI b)]) (rest := [.inl (nI (sp_far (g (38 + 5 * k))))]) (nxt := 40) rfl rfl jm_m208 rfl rfl (tb_far R W (by omega)) ?_
      have bq4 := sp_far_le (p := g (38 + 5 * b)) (jw_at W (by omega))
      refine jt_nicge jm_m209 25 (a := sp_far (g (38 + 5 * k))) (b := sp_far (g (38 + 5 * b))) (by omega) (by omega) (tgt := 45) (nxt := 43) rfl rfl rfl (fun c40 => ?_) (fun c40 => ?_)
      · refine jt_inc jm_m209 28 (c := k) (L' := [(3, .inl (nI (k + 1))), (0, .inr (.inr (4, 0, 0))), (1, .inl (nI w)), (2, .inl (nI b))]) rfl rfl rfl rfl ?_
        refine jt_go jm_m209 29 1 (f' := (16, [(3, .inl (nI (k + 1))), (0, .inr (.inr (4, 0, 0))), (1, .inl (nI w)), (2, .inl (nI b))], [], h)) (P := True) rfl trivial ?_
        refine jt_pick (L' := [(0, .inr (.inr (4, 0, 0))), (1, .inl (nI w)), (2, .inl (nI b)), (3, .inl (nI (k + 1)))]) [1, 2, 3, 0] rfl ?_
        have e := sp_bst_ge (F := sp_nf g) (k := k) rfl eb (by omega)
        have q := nx (by omega)
        rw [e] at q
        exact q
      · refine jt_go jm_m209 26 2 (f' := (45, [(2, .inl (nI k)), (0, .inr (.inr (4, 0, 0))), (1, .inl (nI w)), (3, .inl (nI k))], [], h)) (P := True) rfl trivial ?_
        refine jt_inc jm_m209 28 (c := k) (L' := [(3, .inl (nI (k + 1))), (2, .inl (nI k)), (0, .inr (.inr (4, 0, 0))), (1, .inl (nI w))]) rfl rfl rfl rfl ?_
        refine jt_go jm_m209 29 1 (f' := (16, [(3, .inl (nI (k + 1))), (2, .inl (nI k)), (0, .inr (.inr (4, 0, 0))), (1, .inl (nI w))], [], h)) (P := True) rfl trivial ?_
        refine jt_pick (L' := [(0, .inr (.inr (4, 0, 0))), (1, .inl (nI w)), (2, .inl (nI k)), (3, .inl (nI (k + 1)))]) [2, 3, 1, 0] rfl ?_
        have e := sp_bst_less (F := sp_nf g) (k := k) rfl eb (by omega)
        have q := nx (by omega)
        rw [e] at q
        exact q)
def zb_nearest (g : Nat → Nat) (w : Nat) : Int32 := if w = 0 then jo1 (sp_bst (sp_nf g) (g 0)) else jo2 (sp_bst (sp_nf g) (g 0))
def za_nearest (g : Nat → Nat) (x : Int32) : Int32 := if nI 0 ≤ x ∧ x ≤ nI 1 then zb_nearest g x.toNatClampNeg else (-1)
set_option maxHeartbeats 4000000 in
set_option maxRecDepth 20000 in
theorem ca_nearest {h : jm_M} {g : Nat → Nat} (R : jf_rel h 0 g) (W : jw g) {x : Int32} : jt_T 105 (0, [(0, .inr (.inr (0, 0, 0))), (1, .inl (x))], [], h) (fun u h' => u = some (.inl (za_nearest g x)) ∧ jf_fr 1 h h') := by
  have bn := jw_n W
  have bm := jw_m W
  have bt := jw_t W
  refine jt_go jm_m105 0 3 (f' := (3, [(0, .inr (.inr (0, 0, 0))), (1, .inl (x))], [.inl (nI 1), .inl (nI 0), .inl (x)], h)) (P := True) rfl trivial ?_
  refine jt_callp (w := .inl (jm_b (nI 0 ≤ x ∧ x ≤ nI 1))) jm_m105 3 (mi' := 136) (as := [.inl (x), .inl (nI 0), .inl (nI 1)]) (rest := []) (nxt := 6) rfl rfl jm_m136 rfl rfl (ta_within) ?_
  refine jt_ifbne jm_m105 4 (tgt := 11) (nxt := 9) rfl rfl rfl (fun c6 => ?_) (fun c6 => ?_)
  · obtain ⟨w, hbw, rfl⟩ := jx_win (by decide) c6
    refine jt_go jm_m105 7 6 (f' := (20, [(4, .inl (nI 0)), (3, .inl ((-4))), (2, .inl ((-4))), (0, .inr (.inr (0, 0, 0))), (1, .inl (nI w))], [], h)) (P := True) rfl trivial ?_
    refine jt_pick (L' := [(0, .inr (.inr (0, 0, 0))), (1, .inl (nI w)), (2, .inl ((-4))), (3, .inl ((-4))), (4, .inl (nI 0))]) [3, 4, 2, 1, 0] rfl ?_
    refine jt_mono (ca_near2_l R W hbw 0 (Nat.zero_le _)) (fun u h2 zz => ⟨zz.1.trans (jt_li ?_), by rw [zz.2]; exact jf_fr_rf⟩)
    unfold za_nearest
    refine Eq.trans ?_ (if_pos c6).symm
    rw [nI_clamp (n := w) (by omega)]
    first | done | rfl
  · refine jt_go jm_m105 5 1 (f' := (10, [(0, .inr (.inr (0, 0, 0))), (1, .inl (x))], [.inl ((-1))], h)) (P := True) rfl trivial ?_
    refine jt_iret jm_m105 6 rfl ?_
    exact ⟨jt_li (if_neg (fun z => c6 z)).symm, jf_fr_rf⟩
set_option maxHeartbeats 4000000 in
set_option maxRecDepth 20000 in
theorem cb_nearest {h : jm_M} {g : Nat → Nat} (R : jg_rel h 0 g) (W : jw g) {x : Int32} : jt_T 209 (0, [(0, .inr (.inr (4, 0, 0))), (1, .inl (x))], [], h) (fun u h' => u = some (.inl (za_nearest g x)) ∧ jg_fr 1 h h') := by
  have bn := jw_n W
  have bm := jw_m W
  have bt := jw_t W
  refine jt_go jm_m209 0 3 (f' := (3, [(0, .inr (.inr (4, 0, 0))), (1, .inl (x))], [.inl (nI 1), .inl (nI 0), .inl (x)], h)) (P := True) rfl trivial ?_
  refine jt_callp (w := .inl (jm_b (nI 0 ≤ x ∧ x ≤ nI 1))) jm_m209 3 (mi' := 143) (as := [.inl (x), .inl (nI 0), .inl (nI 1)]) (rest := []) (nxt := 6) rfl rfl jm_m143 rfl rfl (tb_isIn) ?_
  refine jt_ifbne jm_m209 4 (tgt := 11) (nxt := 9) rfl rfl rfl (fun c6 => ?_) (fun c6 => ?_)
  · obtain ⟨w, hbw, rfl⟩ := jx_win (by decide) c6
    refine jt_go jm_m209 7 4 (f' := (16, [(3, .inl (nI 0)), (2, .inl ((-4))), (0, .inr (.inr (4, 0, 0))), (1, .inl (nI w))], [], h)) (P := True) rfl trivial ?_
    refine jt_pick (L' := [(0, .inr (.inr (4, 0, 0))), (1, .inl (nI w)), (2, .inl ((-4))), (3, .inl (nI 0))]) [2, 3, 1, 0] rfl ?_
    refine jt_mono (cb_near2_l R W hbw 0 (Nat.zero_le _)) (fun u h2 zz => ⟨zz.1.trans (jt_li ?_), by rw [zz.2]; exact jg_fr_rf⟩)
    unfold za_nearest
    refine Eq.trans ?_ (if_pos c6).symm
    rw [nI_clamp (n := w) (by omega)]
    first | done | rfl
  · refine jt_go jm_m209 5 1 (f' := (10, [(0, .inr (.inr (4, 0, 0))), (1, .inl (x))], [.inl ((-1))], h)) (P := True) rfl trivial ?_
    refine jt_iret jm_m209 6 rfl ?_
    exact ⟨jt_li (if_neg (fun z => c6 z)).symm, jg_fr_rf⟩
theorem sp_bst_fi (F : Nat → Option Nat) (n : Nat) : (sp_fi (fun c => (F c).isSome) 0 n).isSome = (sp_bst F n).isSome := by
  have h1 := sp_bst_sp (F := F) n
  rcases eb : sp_bst F n with _ | q
  · rw [eb] at h1
    rcases ef : sp_fi (fun c => (F c).isSome) 0 n with _ | j
    · rfl
    · obtain ⟨_, h3, h4, _⟩ := sp_fi_some _ _ _ ef
      rw [h1 j (by omega)] at h4
      cases h4
  · rw [eb] at h1
    rcases ef : sp_fi (fun c => (F c).isSome) 0 n with _ | j
    · have h2 := sp_fi_none _ _ ef q.1 (Nat.zero_le _) (by have := h1.1; omega)
      rw [h1.2.1] at h2
      exact absurd rfl h2
    · rfl
set_option maxHeartbeats 4000000 in
set_option maxRecDepth 20000 in
theorem ca_could_l {h : jm_M} {g : Nat → Nat} (W : jw g) {p : Nat} (hp : p < g 1) : ∀ k, k ≤ g 0 → ∀ hm : jm_M, (jf_rel hm 0 g) → (jf_fr 1 h hm) → jt_T 98 (2, [(0, .inr (.inr (0, 0, 0))), (1, .inl (nI p)), (2, .inl (nI k))], [], hm) (fun u h' => u = some (.inl (jm_b ((sp_fi (fun c => (sp_wr g p c).isSome) k (g 0 - k)).isSome = true))) ∧ jf_fr 1 h h') := jx_up (P := fun k => ∀ hm : jm_M, (jf_rel hm 0 g) → (jf_fr 1 h hm) → jt_T 98 (2, [(0, .inr (.inr (0, 0, 0))), (1, .inl (nI p)), (2, .inl (nI k))], [], hm) (fun u h' => u = some (.inl (jm_b ((sp_fi (fun c => (sp_wr g p c).isSome) k (g 0 - k)).isSome = true))) ∧ jf_fr 1 h h')) (fun k hk nx hm Zm Fm => by
  have bn := jw_n W
  have bm := jw_m W
  have bt := jw_t W
  refine jt_go jm_m98 2 4 (f' := (10, [(0, .inr (.inr (0, 0, 0))), (1, .inl (nI p)), (2, .inl (nI k))], [.inl (hm (2, 0, 0) 9), .inl (nI k)], hm)) (P := True) rfl trivial ?_
  refine jt_ti (show (hm (2, 0, 0) 9) = nI (g 0) from jf_cats Zm) ?_
  have bq1 := jw_n W
  refine jt_nicge jm_m98 6 (a := k) (b := g 0) (by omega) (by omega) (tgt := 32) (nxt := 13) rfl rfl rfl (fun c10 => ?_) (fun c10 => ?_)
  · refine jt_go jm_m98 17 1 (f' := (33, [(0, .inr (.inr (0, 0, 0))), (1, .inl (nI p)), (2, .inl (nI k))], [.inl (nI 0)], hm)) (P := True) rfl trivial ?_
    refine jt_zret jm_m98 18 rfl (Or.inl rfl) ?_
    have e : k = g 0 := by omega
    subst e
    rw [Nat.sub_self]
    exact ⟨jt_lb0 (by simp [sp_fi]), Fm⟩
  · refine jt_go jm_m98 7 3 (f' := (16, [(0, .inr (.inr (0, 0, 0))), (1, .inl (nI p)), (2, .inl (nI k))], [.inl (nI k), .inl (nI p), .inr (.inr (0, 0, 0))], hm)) (P := True) rfl trivial ?_
    refine jt_call jm_m98 10 (mi' := 92) (as := [.inr (.inr (0, 0, 0)), .inl (nI p), .inl (nI k)]) (rest := []) (nxt := 19) rfl rfl jm_m92 rfl rfl (ca_tillBy Zm W hp (by omega)) ?_
    rintro u h1 ⟨rfl, Fh1⟩
    show jt_T 98 (19, [(0, .inr (.inr (0, 0, 0))), (1, .inl (nI p)), (2, .inl (nI k))], [.inl (jo (sp_wr g p k))], h1) _
    have Zh1 := jf_mov0 Zm Fh1
    have Fh1 := jf_fr_tr Fm Fh1
    rcases ew : sp_wr g p k with _ | w
    · show jt_T 98 (19, [(0, .inr (.inr (0, 0, 0))), (1, .inl (nI p)), (2, .inl (nI k))], [.inl ((-4))], h1) _
      have ef : ¬ (sp_wr g p k).isSome = true := by rw [ew]; simp
      refine jt_go jm_m98 11 1 (f' := (21, [(0, .inr (.inr (0, 0, 0))), (1, .inl (nI p)), (2, .inl (nI k))], [.inl ((-4)), .inl ((-4))], h1)) (P := True) rfl trivial ?_
      refine jt_iceq jm_m98 12 (tgt := 26) (nxt := 24) rfl rfl rfl (fun c21 => ?_) (fun c21 => ?_)
      · refine jt_inc jm_m98 15 (c := k) (L' := [(2, .inl (nI (k + 1))), (0, .inr (.inr (0, 0, 0))), (1, .inl (nI p))]) rfl rfl rfl rfl ?_
        refine jt_go jm_m98 16 1 (f' := (2, [(2, .inl (nI (k + 1))), (0, .inr (.inr (0, 0, 0))), (1, .inl (nI p))], [], h1)) (P := True) rfl trivial ?_
        refine jt_pick (L' := [(0, .inr (.inr (0, 0, 0))), (1, .inl (nI p)), (2, .inl (nI (k + 1)))]) [1, 2, 0] rfl ?_
        rw [sp_fi_neg (by omega) ef]
        exact nx (by omega) h1 Zh1 Fh1
      · exact absurd c21 (by decide)
    · show jt_T 98 (19, [(0, .inr (.inr (0, 0, 0))), (1, .inl (nI p)), (2, .inl (nI k))], [.inl (nI w)], h1) _
      have hw := sp_wr_lt ew
      have ef : (sp_wr g p k).isSome = true := by rw [ew]; rfl
      refine jt_go jm_m98 11 1 (f' := (21, [(0, .inr (.inr (0, 0, 0))), (1, .inl (nI p)), (2, .inl (nI k))], [.inl ((-4)), .inl (nI w)], h1)) (P := True) rfl trivial ?_
      refine jt_iceq jm_m98 12 (tgt := 26) (nxt := 24) rfl rfl rfl (fun c21 => ?_) (fun c21 => ?_)
      · exact absurd c21 (nI_nn4 (by omega))
      · refine jt_go jm_m98 13 1 (f' := (25, [(0, .inr (.inr (0, 0, 0))), (1, .inl (nI p)), (2, .inl (nI k))], [.inl (nI 1)], h1)) (P := True) rfl trivial ?_
        refine jt_zret jm_m98 14 rfl (Or.inr rfl) ?_
        rw [sp_fi_pos (by omega) ef]
        exact ⟨jt_lb1 rfl, Fh1⟩)
set_option maxHeartbeats 4000000 in
set_option maxRecDepth 20000 in
theorem ca_could {h : jm_M} {g : Nat → Nat} (R : jf_rel h 0 g) (W : jw g) {p : Nat} (hp : p < g 1) : jt_T 98 (0, [(0, .inr (.inr (0, 0, 0))), (1, .inl (nI p))], [], h) (fun u h' => u = some (.inl (jm_b ((sp_bst (sp_wr g p) (g 0)).isSome = true))) ∧ jf_fr 1 h h') := by
  rw [← sp_bst_fi]
  refine jt_go jm_m98 0 2 (f' := (2, [(2, .inl (nI 0)), (0, .inr (.inr (0, 0, 0))), (1, .inl (nI p))], [], h)) (P := True) rfl trivial ?_
  refine jt_pick (L' := [(0, .inr (.inr (0, 0, 0))), (1, .inl (nI p)), (2, .inl (nI 0))]) [1, 2, 0] rfl ?_
  exact ca_could_l W hp 0 (Nat.zero_le _) _ R jf_fr_rf
set_option maxHeartbeats 4000000 in
set_option maxRecDepth 20000 in
theorem ca_all_l {h : jm_M} {g : Nat → Nat} (W : jw g)  : ∀ k, k ≤ g 1 → ∀ hm : jm_M, (jf_rel hm 0 g) → (jf_fr 1 h hm) → jt_T 97 (4, [(0, .inr (.inr (0, 0, 0))), (1, .inl (nI (sp_sum (fun p => if ¬ g (67 + 2 * p) = 1 ∧ (sp_bst (sp_wr g p) (g 0)).isSome = true then 1 else 0) k))), (2, .inl (nI k))], [], hm) (fun u h' => u = some (.inl (nI (sp_sum (fun p => if ¬ g (67 + 2 * p) = 1 ∧ (sp_bst (sp_wr g p) (g 0)).isSome = true then 1 else 0) (g 1)))) ∧ jf_fr 1 h h') := jx_up (P := fun k => ∀ hm : jm_M, (jf_rel hm 0 g) → (jf_fr 1 h hm) → jt_T 97 (4, [(0, .inr (.inr (0, 0, 0))), (1, .inl (nI (sp_sum (fun p => if ¬ g (67 + 2 * p) = 1 ∧ (sp_bst (sp_wr g p) (g 0)).isSome = true then 1 else 0) k))), (2, .inl (nI k))], [], hm) (fun u h' => u = some (.inl (nI (sp_sum (fun p => if ¬ g (67 + 2 * p) = 1 ∧ (sp_bst (sp_wr g p) (g 0)).isSome = true then 1 else 0) (g 1)))) ∧ jf_fr 1 h h')) (fun k hk nx hm Zm Fm => by
  have bn := jw_n W
  have bm := jw_m W
  have bt := jw_t W
  refine jt_go jm_m97 4 4 (f' := (12, [(0, .inr (.inr (0, 0, 0))), (1, .inl (nI (sp_sum (fun p => if ¬ g (67 + 2 * p) = 1 ∧ (sp_bst (sp_wr g p) (g 0)).isSome = true then 1 else 0) k))), (2, .inl (nI k))], [.inl (hm (2, 0, 0) 10), .inl (nI k)], hm)) (P := True) rfl trivial ?_
  refine jt_ti (show (hm (2, 0, 0) 10) = nI (g 1) from jf_men Zm) ?_
  have bq1 := jw_m W
  refine jt_nicge jm_m97 8 (a := k) (b := g 1) (by omega) (by omega) (tgt := 43) (nxt := 15) rfl rfl rfl (fun c12 => ?_) (fun c12 => ?_)
  · refine jt_go jm_m97 21 1 (f' := (44, [(0, .inr (.inr (0, 0, 0))), (1, .inl (nI (sp_sum (fun p => if ¬ g (67 + 2 * p) = 1 ∧ (sp_bst (sp_wr g p) (g 0)).isSome = true then 1 else 0) k))), (2, .inl (nI k))], [.inl (nI (sp_sum (fun p => if ¬ g (67 + 2 * p) = 1 ∧ (sp_bst (sp_wr g p) (g 0)).isSome = true then 1 else 0) k))], hm)) (P := True) rfl trivial ?_
    refine jt_iret jm_m97 22 rfl ?_
    have e : k = g 1 := by omega
    subst e
    exact ⟨rfl, Fm⟩
  · refine jt_go jm_m97 9 3 (f' := (20, [(0, .inr (.inr (0, 0, 0))), (1, .inl (nI (sp_sum (fun p => if ¬ g (67 + 2 * p) = 1 ∧ (sp_bst (sp_wr g p) (g 0)).isSome = true then 1 else 0) k))), (2, .inl (nI k))], [.inl (nI k), .inr (.inr (2, 0, 0))], hm)) (P := True) rfl trivial ?_
    refine jt_callp (w := .inl (jm_b (g (67 + 2 * k) = 1))) jm_m97 12 (mi' := 10) (as := [.inr (.inr (2, 0, 0)), .inl (nI k)]) (rest := []) (nxt := 23) rfl rfl jm_m10 rfl rfl (ta_hasPassed Zm W (by omega)) ?_
    have bq2 := jw_pas W (c := k) (by omega)
    refine jt_ifbne jm_m97 13 (tgt := 37) (nxt := 26) rfl rfl rfl (fun c23 => ?_) (fun c23 => ?_)
    · refine jt_inc jm_m97 19 (c := k) (L' := [(2, .inl (nI (k + 1))), (0, .inr (.inr (0, 0, 0))), (1, .inl (nI (sp_sum (fun p => if ¬ g (67 + 2 * p) = 1 ∧ (sp_bst (sp_wr g p) (g 0)).isSome = true then 1 else 0) k)))]) rfl rfl rfl rfl ?_
      refine jt_go jm_m97 20 1 (f' := (4, [(2, .inl (nI (k + 1))), (0, .inr (.inr (0, 0, 0))), (1, .inl (nI (sp_sum (fun p => if ¬ g (67 + 2 * p) = 1 ∧ (sp_bst (sp_wr g p) (g 0)).isSome = true then 1 else 0) k)))], [], hm)) (P := True) rfl trivial ?_
      refine jt_pick (L' := [(0, .inr (.inr (0, 0, 0))), (1, .inl (nI (sp_sum (fun p => if ¬ g (67 + 2 * p) = 1 ∧ (sp_bst (sp_wr g p) (g 0)).isSome = true then 1 else 0) k))), (2, .inl (nI (k + 1)))]) [1, 2, 0] rfl ?_
      have e : sp_sum (fun p => if ¬ g (67 + 2 * p) = 1 ∧ (sp_bst (sp_wr g p) (g 0)).isSome = true then 1 else 0) (k + 1) = sp_sum (fun p => if ¬ g (67 + 2 * p) = 1 ∧ (sp_bst (sp_wr g p) (g 0)).isSome = true then 1 else 0) k := by show sp_sum (fun p => if ¬ g (67 + 2 * p) = 1 ∧ (sp_bst (sp_wr g p) (g 0)).isSome = true then 1 else 0) k + (if _ then _ else _) = _; rw [if_neg (fun z => by first | exact absurd z.2 (by assumption) | omega | (have := z.1; omega)), Nat.add_zero]
      have q := nx (by omega) hm Zm Fm
      rw [e] at q
      exact q
    · refine jt_go jm_m97 14 2 (f' := (28, [(0, .inr (.inr (0, 0, 0))), (1, .inl (nI (sp_sum (fun p => if ¬ g (67 + 2 * p) = 1 ∧ (sp_bst (sp_wr g p) (g 0)).isSome = true then 1 else 0) k))), (2, .inl (nI k))], [.inl (nI k), .inr (.inr (0, 0, 0))], hm)) (P := True) rfl trivial ?_
      refine jt_call jm_m97 16 (mi' := 98) (as := [.inr (.inr (0, 0, 0)), .inl (nI k)]) (rest := []) (nxt := 31) rfl rfl jm_m98 rfl rfl (ca_could Zm W (by omega)) ?_
      rintro u h1 ⟨rfl, Fh1⟩
      show jt_T 97 (31, [(0, .inr (.inr (0, 0, 0))), (1, .inl (nI (sp_sum (fun p => if ¬ g (67 + 2 * p) = 1 ∧ (sp_bst (sp_wr g p) (g 0)).isSome = true then 1 else 0) k))), (2, .inl (nI k))], [.inl (jm_b ((sp_bst (sp_wr g k) (g 0)).isSome = true))], h1) _
      have Zh1 := jf_mov0 Zm Fh1
      have Fh1 := jf_fr_tr Fm Fh1
      refine jt_ifbeq jm_m97 17 (tgt := 37) (nxt := 34) rfl rfl rfl (fun c31 => ?_) (fun c31 => ?_)
      · refine jt_inc jm_m97 19 (c := k) (L' := [(2, .inl (nI (k + 1))), (0, .inr (.inr (0, 0, 0))), (1, .inl (nI (sp_sum (fun p => if ¬ g (67 + 2 * p) = 1 ∧ (sp_bst (sp_wr g p) (g 0)).isSome = true then 1 else 0) k)))]) rfl rfl rfl rfl ?_
        refine jt_go jm_m97 20 1 (f' := (4, [(2, .inl (nI (k + 1))), (0, .inr (.inr (0, 0, 0))), (1, .inl (nI (sp_sum (fun p => if ¬ g (67 + 2 * p) = 1 ∧ (sp_bst (sp_wr g p) (g 0)).isSome = true then 1 else 0) k)))], [], h1)) (P := True) rfl trivial ?_
        refine jt_pick (L' := [(0, .inr (.inr (0, 0, 0))), (1, .inl (nI (sp_sum (fun p => if ¬ g (67 + 2 * p) = 1 ∧ (sp_bst (sp_wr g p) (g 0)).isSome = true then 1 else 0) k))), (2, .inl (nI (k + 1)))]) [1, 2, 0] rfl ?_
        have e : sp_sum (fun p => if ¬ g (67 + 2 * p) = 1 ∧ (sp_bst (sp_wr g p) (g 0)).isSome = true then 1 else 0) (k + 1) = sp_sum (fun p => if ¬ g (67 + 2 * p) = 1 ∧ (sp_bst (sp_wr g p) (g 0)).isSome = true then 1 else 0) k := by show sp_sum (fun p => if ¬ g (67 + 2 * p) = 1 ∧ (sp_bst (sp_wr g p) (g 0)).isSome = true then 1 else 0) k + (if _ then _ else _) = _; rw [if_neg (fun z => by first | exact absurd z.2 (by assumption) | omega | (have := z.1; omega)), Nat.add_zero]
        have q := nx (by omega) h1 Zh1 Fh1
        rw [e] at q
        exact q
      · refine jt_inc jm_m97 18 (c := sp_sum (fun p => if ¬ g (67 + 2 * p) = 1 ∧ (sp_bst (sp_wr g p) (g 0)).isSome = true then 1 else 0) k) (L' := [(1, .inl (nI (sp_sum (fun p => if ¬ g (67 + 2 * p) = 1 ∧ (sp_bst (sp_wr g p) (g 0)).isSome = true then 1 else 0) k + 1))), (0, .inr (.inr (0, 0, 0))), (2, .inl (nI k))]) rfl rfl rfl rfl ?_
        refine jt_inc jm_m97 19 (c := k) (L' := [(2, .inl (nI (k + 1))), (1, .inl (nI (sp_sum (fun p => if ¬ g (67 + 2 * p) = 1 ∧ (sp_bst (sp_wr g p) (g 0)).isSome = true then 1 else 0) k + 1))), (0, .inr (.inr (0, 0, 0)))]) rfl rfl rfl rfl ?_
        refine jt_go jm_m97 20 1 (f' := (4, [(2, .inl (nI (k + 1))), (1, .inl (nI (sp_sum (fun p => if ¬ g (67 + 2 * p) = 1 ∧ (sp_bst (sp_wr g p) (g 0)).isSome = true then 1 else 0) k + 1))), (0, .inr (.inr (0, 0, 0)))], [], h1)) (P := True) rfl trivial ?_
        refine jt_pick (L' := [(0, .inr (.inr (0, 0, 0))), (1, .inl (nI (sp_sum (fun p => if ¬ g (67 + 2 * p) = 1 ∧ (sp_bst (sp_wr g p) (g 0)).isSome = true then 1 else 0) k + 1))), (2, .inl (nI (k + 1)))]) [2, 1, 0] rfl ?_
        have e : sp_sum (fun p => if ¬ g (67 + 2 * p) = 1 ∧ (sp_bst (sp_wr g p) (g 0)).isSome = true then 1 else 0) (k + 1) = sp_sum (fun p => if ¬ g (67 + 2 * p) = 1 ∧ (sp_bst (sp_wr g p) (g 0)).isSome = true then 1 else 0) k + 1 := by show sp_sum (fun p => if ¬ g (67 + 2 * p) = 1 ∧ (sp_bst (sp_wr g p) (g 0)).isSome = true then 1 else 0) k + (if _ then _ else _) = _; rw [if_pos ⟨by omega, by assumption⟩]
        have q := nx (by omega) h1 Zh1 Fh1
        rw [e] at q
        exact q)
set_option maxHeartbeats 4000000 in
set_option maxRecDepth 20000 in
theorem cb_all_l {h : jm_M} {g : Nat → Nat} (W : jw g)  : ∀ k, k ≤ g 1 → ∀ hm : jm_M, (jg_rel hm 0 g) → (jg_fr 1 h hm) → jt_T 202 (4, [(0, .inr (.inr (4, 0, 0))), (1, .inl (nI (sp_sum (fun p => if ¬ g (67 + 2 * p) = 1 ∧ (sp_bst (sp_wr g p) (g 0)).isSome = true then 1 else 0) k))), (2, .inl (nI k))], [], hm) (fun u h' => u = some (.inl (nI (sp_sum (fun p => if ¬ g (67 + 2 * p) = 1 ∧ (sp_bst (sp_wr g p) (g 0)).isSome = true then 1 else 0) (g 1)))) ∧ jg_fr 1 h h') := jx_up (P := fun k => ∀ hm : jm_M, (jg_rel hm 0 g) → (jg_fr 1 h hm) → jt_T 202 (4, [(0, .inr (.inr (4, 0, 0))), (1, .inl (nI (sp_sum (fun p => if ¬ g (67 + 2 * p) = 1 ∧ (sp_bst (sp_wr g p) (g 0)).isSome = true then 1 else 0) k))), (2, .inl (nI k))], [], hm) (fun u h' => u = some (.inl (nI (sp_sum (fun p => if ¬ g (67 + 2 * p) = 1 ∧ (sp_bst (sp_wr g p) (g 0)).isSome = true then 1 else 0) (g 1)))) ∧ jg_fr 1 h h')) (fun k hk nx hm Zm Fm => by
  have bn := jw_n W
  have bm := jw_m W
  have bt := jw_t W
  refine jt_go jm_m202 4 5 (f' := (11, [(0, .inr (.inr (4, 0, 0))), (1, .inl (nI (sp_sum (fun p => if ¬ g (67 + 2 * p) = 1 ∧ (sp_bst (sp_wr g p) (g 0)).isSome = true then 1 else 0) k))), (2, .inl (nI k))], [.inl (hm (5, 0, 0) (nI 1).toNatClampNeg), .inl (nI k)], hm)) (P := vp_in (nI 1) 78 ∧ True) rfl ⟨(vp_in_nI (by omega) (by decide)), trivial⟩ ?_
  refine jt_ti (show (hm (5, 0, 0) (nI 1).toNatClampNeg) = nI (g 1) from jg_get Zm (k := 1) (nI_clamp (by omega)) (by omega)) ?_
  have bq1 := jw_m W
  refine jt_nicge jm_m202 9 (a := k) (b := g 1) (by omega) (by omega) (tgt := 50) (nxt := 14) rfl rfl rfl (fun c11 => ?_) (fun c11 => ?_)
  · refine jt_go jm_m202 30 1 (f' := (51, [(0, .inr (.inr (4, 0, 0))), (1, .inl (nI (sp_sum (fun p => if ¬ g (67 + 2 * p) = 1 ∧ (sp_bst (sp_wr g p) (g 0)).isSome = true then 1 else 0) k))), (2, .inl (nI k))], [.inl (nI (sp_sum (fun p => if ¬ g (67 + 2 * p) = 1 ∧ (sp_bst (sp_wr g p) (g 0)).isSome = true then 1 else 0) k))], hm)) (P := True) rfl trivial ?_
    refine jt_iret jm_m202 31 rfl ?_
    have e : k = g 1 := by omega
    subst e
    exact ⟨rfl, Fm⟩
  · refine jt_go jm_m202 10 5 (f' := (21, [(0, .inr (.inr (4, 0, 0))), (1, .inl (nI (sp_sum (fun p => if ¬ g (67 + 2 * p) = 1 ∧ (sp_bst (sp_wr g p) (g 0)).isSome = true then 1 else 0) k))), (2, .inl (nI k))], [.inl (nI 1), .inl (nI k), .inr (.inr (5, 0, 0)), .inl (nI (sp_sum (fun p => if ¬ g (67 + 2 * p) = 1 ∧ (sp_bst (sp_wr g p) (g 0)).isSome = true then 1 else 0) k))], hm)) (P := True) rfl trivial ?_
    refine jt_callp (w := .inl (nI (67 + 2 * k))) jm_m202 15 (mi' := 148) (as := [.inl (nI k), .inl (nI 1)]) (rest := [.inr (.inr (5, 0, 0)), .inl (nI (sp_sum (fun p => if ¬ g (67 + 2 * p) = 1 ∧ (sp_bst (sp_wr g p) (g 0)).isSome = true then 1 else 0) k))]) (nxt := 24) rfl rfl jm_m148 rfl rfl (tb_ofM (k := 67 + 2 * k) (by omega)) ?_
    refine jt_go jm_m202 16 1 (f' := (25, [(0, .inr (.inr (4, 0, 0))), (1, .inl (nI (sp_sum (fun p => if ¬ g (67 + 2 * p) = 1 ∧ (sp_bst (sp_wr g p) (g 0)).isSome = true then 1 else 0) k))), (2, .inl (nI k))], [.inl (hm (5, 0, 0) (nI (67 + 2 * k)).toNatClampNeg), .inl (nI (sp_sum (fun p => if ¬ g (67 + 2 * p) = 1 ∧ (sp_bst (sp_wr g p) (g 0)).isSome = true then 1 else 0) k))], hm)) (P := vp_in (nI (67 + 2 * k)) 78 ∧ True) rfl ⟨(vp_in_nI (by omega) (by decide)), trivial⟩ ?_
    refine jt_ti (show (hm (5, 0, 0) (nI (67 + 2 * k)).toNatClampNeg) = nI (g (67 + 2 * k)) from jg_get Zm (k := 67 + 2 * k) (nI_clamp (by omega)) (by omega)) ?_
    have bq2 := jw_pas W (c := k) (by omega)
    refine jt_nifne jm_m202 17 (by omega) (tgt := 41) (nxt := 28) rfl rfl rfl (fun c25 => ?_) (fun c25 => ?_)
    · refine jt_go jm_m202 25 2 (f' := (43, [(0, .inr (.inr (4, 0, 0))), (1, .inl (nI (sp_sum (fun p => if ¬ g (67 + 2 * p) = 1 ∧ (sp_bst (sp_wr g p) (g 0)).isSome = true then 1 else 0) k))), (2, .inl (nI k))], [.inl ((nI (sp_sum (fun p => if ¬ g (67 + 2 * p) = 1 ∧ (sp_bst (sp_wr g p) (g 0)).isSome = true then 1 else 0) k)) + (nI 0))], hm)) (P := True) rfl trivial ?_
      refine jt_ti (show ((nI (sp_sum (fun p => if ¬ g (67 + 2 * p) = 1 ∧ (sp_bst (sp_wr g p) (g 0)).isSome = true then 1 else 0) k)) + (nI 0)) = nI (sp_sum (fun p => if ¬ g (67 + 2 * p) = 1 ∧ (sp_bst (sp_wr g p) (g 0)).isSome = true then 1 else 0) k) from Int32.add_zero _) ?_
      refine jt_go jm_m202 27 1 (f' := (44, [(1, .inl (nI (sp_sum (fun p => if ¬ g (67 + 2 * p) = 1 ∧ (sp_bst (sp_wr g p) (g 0)).isSome = true then 1 else 0) k))), (0, .inr (.inr (4, 0, 0))), (2, .inl (nI k))], [], hm)) (P := True) rfl trivial ?_
      refine jt_inc jm_m202 28 (c := k) (L' := [(2, .inl (nI (k + 1))), (1, .inl (nI (sp_sum (fun p => if ¬ g (67 + 2 * p) = 1 ∧ (sp_bst (sp_wr g p) (g 0)).isSome = true then 1 else 0) k))), (0, .inr (.inr (4, 0, 0)))]) rfl rfl rfl rfl ?_
      refine jt_go jm_m202 29 1 (f' := (4, [(2, .inl (nI (k + 1))), (1, .inl (nI (sp_sum (fun p => if ¬ g (67 + 2 * p) = 1 ∧ (sp_bst (sp_wr g p) (g 0)).isSome = true then 1 else 0) k))), (0, .inr (.inr (4, 0, 0)))], [], hm)) (P := True) rfl trivial ?_
      refine jt_pick (L' := [(0, .inr (.inr (4, 0, 0))), (1, .inl (nI (sp_sum (fun p => if ¬ g (67 + 2 * p) = 1 ∧ (sp_bst (sp_wr g p) (g 0)).isSome = true then 1 else 0) k))), (2, .inl (nI (k + 1)))]) [2, 1, 0] rfl ?_
      have e : sp_sum (fun p => if ¬ g (67 + 2 * p) = 1 ∧ (sp_bst (sp_wr g p) (g 0)).isSome = true then 1 else 0) (k + 1) = sp_sum (fun p => if ¬ g (67 + 2 * p) = 1 ∧ (sp_bst (sp_wr g p) (g 0)).isSome = true then 1 else 0) k := by show sp_sum (fun p => if ¬ g (67 + 2 * p) = 1 ∧ (sp_bst (sp_wr g p) (g 0)).isSome = true then 1 else 0) k + (if _ then _ else _) = _; rw [if_neg (fun z => by first | exact absurd z.2 (by assumption) | omega | (have := z.1; omega)), Nat.add_zero]
      have q := nx (by omega) hm Zm Fm
      rw [e] at q
      exact q
    · refine jt_go jm_m202 18 3 (f' := (31, [(0, .inr (.inr (4, 0, 0))), (1, .inl (nI (sp_sum (fun p => if ¬ g (67 + 2 * p) = 1 ∧ (sp_bst (sp_wr g p) (g 0)).isSome = true then 1 else 0) k))), (2, .inl (nI k))], [.inl (nI 0), .inl (nI k), .inr (.inr (4, 0, 0)), .inl (nI (sp_sum (fun p => if ¬ g (67 + 2 * p) = 1 ∧ (sp_bst (sp_wr g p) (g 0)).isSome = true then 1 else 0) k))], hm)) (P := True) rfl trivial ?_
      refine jt_call jm_m202 21 (mi' := 195) (as := [.inr (.inr (4, 0, 0)), .inl (nI k), .inl (nI 0)]) (rest := [.inl (nI (sp_sum (fun p => if ¬ g (67 + 2 * p) = 1 ∧ (sp_bst (sp_wr g p) (g 0)).isSome = true then 1 else 0) k))]) (nxt := 34) rfl rfl jm_m195 rfl rfl (cb_wr Zm W (by omega) (by decide)) ?_
      rintro u h1 ⟨rfl, Fh1⟩
      show jt_T 202 (34, [(0, .inr (.inr (4, 0, 0))), (1, .inl (nI (sp_sum (fun p => if ¬ g (67 + 2 * p) = 1 ∧ (sp_bst (sp_wr g p) (g 0)).isSome = true then 1 else 0) k))), (2, .inl (nI k))], [.inl (jo1 (sp_bst (sp_wr g k) (g 0))), .inl (nI (sp_sum (fun p => if ¬ g (67 + 2 * p) = 1 ∧ (sp_bst (sp_wr g p) (g 0)).isSome = true then 1 else 0) k))], h1) _
      have Zh1 := jg_mov0 Zm Fh1
      have Fh1 := jg_fr_tr Fm Fh1
      rcases eb : sp_bst (sp_wr g k) (g 0) with _ | ⟨b, v⟩
      · show jt_T 202 (34, [(0, .inr (.inr (4, 0, 0))), (1, .inl (nI (sp_sum (fun p => if ¬ g (67 + 2 * p) = 1 ∧ (sp_bst (sp_wr g p) (g 0)).isSome = true then 1 else 0) k))), (2, .inl (nI k))], [.inl ((-4)), .inl (nI (sp_sum (fun p => if ¬ g (67 + 2 * p) = 1 ∧ (sp_bst (sp_wr g p) (g 0)).isSome = true then 1 else 0) k))], h1) _
        have ef : ¬ (sp_bst (sp_wr g k) (g 0)).isSome = true := by rw [eb]; simp
        refine jt_iflt jm_m202 22 (tgt := 41) (nxt := 37) rfl rfl rfl (fun c34 => ?_) (fun c34 => ?_)
        · refine jt_go jm_m202 25 2 (f' := (43, [(0, .inr (.inr (4, 0, 0))), (1, .inl (nI (sp_sum (fun p => if ¬ g (67 + 2 * p) = 1 ∧ (sp_bst (sp_wr g p) (g 0)).isSome = true then 1 else 0) k))), (2, .inl (nI k))], [.inl ((nI (sp_sum (fun p => if ¬ g (67 + 2 * p) = 1 ∧ (sp_bst (sp_wr g p) (g 0)).isSome = true then 1 else 0) k)) + (nI 0))], h1)) (P := True) rfl trivial ?_
          refine jt_ti (show ((nI (sp_sum (fun p => if ¬ g (67 + 2 * p) = 1 ∧ (sp_bst (sp_wr g p) (g 0)).isSome = true then 1 else 0) k)) + (nI 0)) = nI (sp_sum (fun p => if ¬ g (67 + 2 * p) = 1 ∧ (sp_bst (sp_wr g p) (g 0)).isSome = true then 1 else 0) k) from Int32.add_zero _) ?_
          refine jt_go jm_m202 27 1 (f' := (44, [(1, .inl (nI (sp_sum (fun p => if ¬ g (67 + 2 * p) = 1 ∧ (sp_bst (sp_wr g p) (g 0)).isSome = true then 1 else 0) k))), (0, .inr (.inr (4, 0, 0))), (2, .inl (nI k))], [], h1)) (P := True) rfl trivial ?_
          refine jt_inc jm_m202 28 (c := k) (L' := [(2, .inl (nI (k + 1))), (1, .inl (nI (sp_sum (fun p => if ¬ g (67 + 2 * p) = 1 ∧ (sp_bst (sp_wr g p) (g 0)).isSome = true then 1 else 0) k))), (0, .inr (.inr (4, 0, 0)))]) rfl rfl rfl rfl ?_
          refine jt_go jm_m202 29 1 (f' := (4, [(2, .inl (nI (k + 1))), (1, .inl (nI (sp_sum (fun p => if ¬ g (67 + 2 * p) = 1 ∧ (sp_bst (sp_wr g p) (g 0)).isSome = true then 1 else 0) k))), (0, .inr (.inr (4, 0, 0)))], [], h1)) (P := True) rfl trivial ?_
          refine jt_pick (L' := [(0, .inr (.inr (4, 0, 0))), (1, .inl (nI (sp_sum (fun p => if ¬ g (67 + 2 * p) = 1 ∧ (sp_bst (sp_wr g p) (g 0)).isSome = true then 1 else 0) k))), (2, .inl (nI (k + 1)))]) [2, 1, 0] rfl ?_
          have e : sp_sum (fun p => if ¬ g (67 + 2 * p) = 1 ∧ (sp_bst (sp_wr g p) (g 0)).isSome = true then 1 else 0) (k + 1) = sp_sum (fun p => if ¬ g (67 + 2 * p) = 1 ∧ (sp_bst (sp_wr g p) (g 0)).isSome = true then 1 else 0) k := by show sp_sum (fun p => if ¬ g (67 + 2 * p) = 1 ∧ (sp_bst (sp_wr g p) (g 0)).isSome = true then 1 else 0) k + (if _ then _ else _) = _; rw [if_neg (fun z => by first | exact absurd z.2 (by assumption) | omega | (have := z.1; omega)), Nat.add_zero]
          have q := nx (by omega) h1 Zh1 Fh1
          rw [e] at q
          exact q
        · exact absurd c34 (by decide)
      · show jt_T 202 (34, [(0, .inr (.inr (4, 0, 0))), (1, .inl (nI (sp_sum (fun p => if ¬ g (67 + 2 * p) = 1 ∧ (sp_bst (sp_wr g p) (g 0)).isSome = true then 1 else 0) k))), (2, .inl (nI k))], [.inl (nI b), .inl (nI (sp_sum (fun p => if ¬ g (67 + 2 * p) = 1 ∧ (sp_bst (sp_wr g p) (g 0)).isSome = true then 1 else 0) k))], h1) _
        have ef : (sp_bst (sp_wr g k) (g 0)).isSome = true := by rw [eb]; rfl
        have hb := sp_bst_lt (M := 100) (fun i x e => sp_wr_lt e) eb
        have hb1 := hb.1
        refine jt_niflt jm_m202 22 (by omega) rfl rfl rfl (fun _ => ?_)
        refine jt_go jm_m202 23 2 (f' := (42, [(0, .inr (.inr (4, 0, 0))), (1, .inl (nI (sp_sum (fun p => if ¬ g (67 + 2 * p) = 1 ∧ (sp_bst (sp_wr g p) (g 0)).isSome = true then 1 else 0) k))), (2, .inl (nI k))], [.inl (nI 1), .inl (nI (sp_sum (fun p => if ¬ g (67 + 2 * p) = 1 ∧ (sp_bst (sp_wr g p) (g 0)).isSome = true then 1 else 0) k))], h1)) (P := True) rfl trivial ?_
        refine jt_go jm_m202 26 1 (f' := (43, [(0, .inr (.inr (4, 0, 0))), (1, .inl (nI (sp_sum (fun p => if ¬ g (67 + 2 * p) = 1 ∧ (sp_bst (sp_wr g p) (g 0)).isSome = true then 1 else 0) k))), (2, .inl (nI k))], [.inl ((nI (sp_sum (fun p => if ¬ g (67 + 2 * p) = 1 ∧ (sp_bst (sp_wr g p) (g 0)).isSome = true then 1 else 0) k)) + (nI 1))], h1)) (P := True) rfl trivial ?_
        refine jt_ti (show ((nI (sp_sum (fun p => if ¬ g (67 + 2 * p) = 1 ∧ (sp_bst (sp_wr g p) (g 0)).isSome = true then 1 else 0) k)) + (nI 1)) = nI (sp_sum (fun p => if ¬ g (67 + 2 * p) = 1 ∧ (sp_bst (sp_wr g p) (g 0)).isSome = true then 1 else 0) k + 1) from nI_add _ _) ?_
        refine jt_go jm_m202 27 1 (f' := (44, [(1, .inl (nI (sp_sum (fun p => if ¬ g (67 + 2 * p) = 1 ∧ (sp_bst (sp_wr g p) (g 0)).isSome = true then 1 else 0) k + 1))), (0, .inr (.inr (4, 0, 0))), (2, .inl (nI k))], [], h1)) (P := True) rfl trivial ?_
        refine jt_inc jm_m202 28 (c := k) (L' := [(2, .inl (nI (k + 1))), (1, .inl (nI (sp_sum (fun p => if ¬ g (67 + 2 * p) = 1 ∧ (sp_bst (sp_wr g p) (g 0)).isSome = true then 1 else 0) k + 1))), (0, .inr (.inr (4, 0, 0)))]) rfl rfl rfl rfl ?_
        refine jt_go jm_m202 29 1 (f' := (4, [(2, .inl (nI (k + 1))), (1, .inl (nI (sp_sum (fun p => if ¬ g (67 + 2 * p) = 1 ∧ (sp_bst (sp_wr g p) (g 0)).isSome = true then 1 else 0) k + 1))), (0, .inr (.inr (4, 0, 0)))], [], h1)) (P := True) rfl trivial ?_
        refine jt_pick (L' := [(0, .inr (.inr (4, 0, 0))), (1, .inl (nI (sp_sum (fun p => if ¬ g (67 + 2 * p) = 1 ∧ (sp_bst (sp_wr g p) (g 0)).isSome = true then 1 else 0) k + 1))), (2, .inl (nI (k + 1)))]) [2, 1, 0] rfl ?_
        have e : sp_sum (fun p => if ¬ g (67 + 2 * p) = 1 ∧ (sp_bst (sp_wr g p) (g 0)).isSome = true then 1 else 0) (k + 1) = sp_sum (fun p => if ¬ g (67 + 2 * p) = 1 ∧ (sp_bst (sp_wr g p) (g 0)).isSome = true then 1 else 0) k + 1 := by show sp_sum (fun p => if ¬ g (67 + 2 * p) = 1 ∧ (sp_bst (sp_wr g p) (g 0)).isSome = true then 1 else 0) k + (if _ then _ else _) = _; rw [if_pos ⟨by omega, by assumption⟩]
        have q := nx (by omega) h1 Zh1 Fh1
        rw [e] at q
        exact q)
def za_all (g : Nat → Nat) : Int32 := nI (sp_sum (fun p => if ¬ g (67 + 2 * p) = 1 ∧ (sp_bst (sp_wr g p) (g 0)).isSome = true then 1 else 0) (g 1))
set_option maxHeartbeats 4000000 in
set_option maxRecDepth 20000 in
theorem ca_all {h : jm_M} {g : Nat → Nat} (R : jf_rel h 0 g) (W : jw g) : jt_T 97 (0, [(0, .inr (.inr (0, 0, 0)))], [], h) (fun u h' => u = some (.inl (za_all g)) ∧ jf_fr 1 h h') := by
  refine jt_go jm_m97 0 4 (f' := (4, [(2, .inl (nI 0)), (1, .inl (nI 0)), (0, .inr (.inr (0, 0, 0)))], [], h)) (P := True) rfl trivial ?_
  refine jt_pick (L' := [(0, .inr (.inr (0, 0, 0))), (1, .inl (nI 0)), (2, .inl (nI 0))]) [2, 1, 0] rfl ?_
  exact ca_all_l W 0 (Nat.zero_le _) _ R jf_fr_rf
set_option maxHeartbeats 4000000 in
set_option maxRecDepth 20000 in
theorem cb_all {h : jm_M} {g : Nat → Nat} (R : jg_rel h 0 g) (W : jw g) : jt_T 202 (0, [(0, .inr (.inr (4, 0, 0)))], [], h) (fun u h' => u = some (.inl (za_all g)) ∧ jg_fr 1 h h') := by
  refine jt_go jm_m202 0 4 (f' := (4, [(2, .inl (nI 0)), (1, .inl (nI 0)), (0, .inr (.inr (4, 0, 0)))], [], h)) (P := True) rfl trivial ?_
  refine jt_pick (L' := [(0, .inr (.inr (4, 0, 0))), (1, .inl (nI 0)), (2, .inl (nI 0))]) [2, 1, 0] rfl ?_
  exact cb_all_l W 0 (Nat.zero_le _) _ R jg_fr_rf
