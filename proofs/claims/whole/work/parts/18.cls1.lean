/-! CLASS: an hour. -/
theorem sp_ap_lt {a b : Nat} (ha : a < 16) (hb : b < 16) : sp_ap a b < 16 := by unfold sp_ap; split <;> omega
/-- all but the frontier j is as it was, and who crossed last there, too -/
def jf_fc (j : Nat) (h h2 : jm_M) : Prop := jf_fr j h h2 ∧ h2 (2, j, 0) 14 = h (2, j, 0) 14
theorem jf_fc_rf {j : Nat} {h : jm_M} : jf_fc j h h := ⟨jf_fr_rf, rfl⟩
theorem jf_fc_tr {j : Nat} {h h2 h3 : jm_M} (a : jf_fc j h h2) (b : jf_fc j h2 h3) : jf_fc j h h3 := ⟨jf_fr_tr a.1 b.1, b.2.trans a.2⟩
theorem jf_fc_setA {j : Nat} {h h2 : jm_M} (a : jf_fc j h h2) {k : jm_K} {f : Nat → Int32} (hk : (k.1 = 2 ∨ k.1 = 6) ∧ k.2.1 = j) (hne : (2, j, 0) ≠ k) : jf_fc j h (jm_set h2 k f) := ⟨jf_fr_set a.1 hk, by rw [jm_set_ne hne]; exact a.2⟩
theorem jf_fc_setB {j : Nat} {h h2 : jm_M} (a : jf_fc j h h2) {k : Nat} {x : Int32} (hk : 14 ≠ k) : jf_fc j h (jm_set h2 (2, j, 0) (upd (h2 (2, j, 0)) k x)) := ⟨jf_fr_set a.1 ⟨Or.inl rfl, rfl⟩, by rw [jm_set_eq, jx_ne hk]; exact a.2⟩
theorem jx_min {a b : Nat} (ha : a < 2 ^ 31) (hb : b < 2 ^ 31) : (if nI a < nI b then nI a else nI b) = nI (min b a) := by
  by_cases q : a < b
  · rw [if_pos ((nI_ltI ha hb).mpr q), Nat.min_eq_right (Nat.le_of_lt q)]
  · rw [if_neg (fun z => q ((nI_ltI ha hb).mp z)), Nat.min_eq_left (by omega)]
set_option maxHeartbeats 4000000 in
set_option maxRecDepth 20000 in
theorem ta_rich_l {h : jm_M} {j s o fm : Nat} {g : Nat → Nat} (hr : ∀ p, p < 16 → h (6, j, s) p = nI (g (o + p))) (hb : ∀ p, p < 16 → g (o + p) ≤ 9) (hf : fm < 16) : ∀ k, k ≤ 16 → jt_T 32 (5, [(0, .inr (.inr (2, j, 0))), (1, .inr (.inr (6, j, s))), (2, .inl (nI fm)), (3, .inl (nI (sp_rich g o fm k))), (4, .inl (nI k))], [], h) (fun u h' => u = some (.inl (nI (sp_rich g o fm 16))) ∧ h' = h) := jx_up (fun k hk nx => by
  have hs := sp_rich_lt g o fm hf k hk
  refine jt_go jm_m32 4 2 (f' := (9, [(0, .inr (.inr (2, j, 0))), (1, .inr (.inr (6, j, s))), (2, .inl (nI fm)), (3, .inl (nI (sp_rich g o fm k))), (4, .inl (nI k))], [.inl (nI 16), .inl (nI k)], h)) (P := True) rfl trivial ?_
  refine jt_nicge jm_m32 6 (a := k) (b := 16) (by omega) (by omega) (tgt := 57) (nxt := 12) rfl rfl rfl (fun c9 => ?_) (fun c9 => ?_)
  · refine jt_go jm_m32 34 1 (f' := (58, [(0, .inr (.inr (2, j, 0))), (1, .inr (.inr (6, j, s))), (2, .inl (nI fm)), (3, .inl (nI (sp_rich g o fm k))), (4, .inl (nI k))], [.inl (nI (sp_rich g o fm k))], h)) (P := True) rfl trivial ?_
    refine jt_iret jm_m32 35 rfl ?_
    have e : k = 16 := by omega
    subst e
    exact ⟨rfl, rfl⟩
  · refine jt_go jm_m32 7 3 (f' := (16, [(0, .inr (.inr (2, j, 0))), (1, .inr (.inr (6, j, s))), (2, .inl (nI fm)), (3, .inl (nI (sp_rich g o fm k))), (4, .inl (nI k))], [.inl (h (6, j, s) (nI k).toNatClampNeg)], h)) (P := vp_in (nI k) 16 ∧ True) rfl ⟨(vp_in_nI (by omega) (by decide)), trivial⟩ ?_
    refine jt_ti (show (h (6, j, s) (nI k).toNatClampNeg) = nI (g (o + k)) from by rw [nI_clamp (by omega)]; exact hr _ (by omega)) ?_
    have bq1 := hb (k) (by omega)
    refine jt_go jm_m32 10 3 (f' := (19, [(0, .inr (.inr (2, j, 0))), (1, .inr (.inr (6, j, s))), (2, .inl (nI fm)), (3, .inl (nI (sp_rich g o fm k))), (4, .inl (nI k))], [.inl (h (6, j, s) (nI (sp_rich g o fm k)).toNatClampNeg), .inl (nI (g (o + k)))], h)) (P := vp_in (nI (sp_rich g o fm k)) 16 ∧ True) rfl ⟨(vp_in_nI (by omega) (by decide)), trivial⟩ ?_
    refine jt_ti (show (h (6, j, s) (nI (sp_rich g o fm k)).toNatClampNeg) = nI (g (o + (sp_rich g o fm k))) from by rw [nI_clamp (by omega)]; exact hr _ (by omega)) ?_
    have bq2 := hb (sp_rich g o fm k) (by omega)
    refine jt_nicgt jm_m32 13 (a := g (o + k)) (b := g (o + (sp_rich g o fm k))) (by omega) (by omega) (tgt := 48) (nxt := 22) rfl rfl rfl (fun c19 => ?_) (fun c19 => ?_)
    · refine jt_go jm_m32 30 2 (f' := (51, [(3, .inl (nI k)), (0, .inr (.inr (2, j, 0))), (1, .inr (.inr (6, j, s))), (2, .inl (nI fm)), (4, .inl (nI k))], [], h)) (P := True) rfl trivial ?_
      refine jt_inc jm_m32 32 (c := k) (L' := [(4, .inl (nI (k + 1))), (3, .inl (nI k)), (0, .inr (.inr (2, j, 0))), (1, .inr (.inr (6, j, s))), (2, .inl (nI fm))]) rfl rfl rfl rfl ?_
      refine jt_go jm_m32 33 1 (f' := (5, [(4, .inl (nI (k + 1))), (3, .inl (nI k)), (0, .inr (.inr (2, j, 0))), (1, .inr (.inr (6, j, s))), (2, .inl (nI fm))], [], h)) (P := True) rfl trivial ?_
      refine jt_pick (L' := [(0, .inr (.inr (2, j, 0))), (1, .inr (.inr (6, j, s))), (2, .inl (nI fm)), (3, .inl (nI k)), (4, .inl (nI (k + 1)))]) [2, 3, 4, 1, 0] rfl ?_
      have e : sp_rich g o fm (k + 1) = k := if_pos (by omega)
      have q := nx c9
      rw [e] at q
      exact q
    · refine jt_go jm_m32 14 3 (f' := (26, [(0, .inr (.inr (2, j, 0))), (1, .inr (.inr (6, j, s))), (2, .inl (nI fm)), (3, .inl (nI (sp_rich g o fm k))), (4, .inl (nI k))], [.inl (h (6, j, s) (nI k).toNatClampNeg)], h)) (P := vp_in (nI k) 16 ∧ True) rfl ⟨(vp_in_nI (by omega) (by decide)), trivial⟩ ?_
      refine jt_ti (show (h (6, j, s) (nI k).toNatClampNeg) = nI (g (o + k)) from by rw [nI_clamp (by omega)]; exact hr _ (by omega)) ?_
      have bq3 := hb (k) (by omega)
      refine jt_go jm_m32 17 3 (f' := (29, [(0, .inr (.inr (2, j, 0))), (1, .inr (.inr (6, j, s))), (2, .inl (nI fm)), (3, .inl (nI (sp_rich g o fm k))), (4, .inl (nI k))], [.inl (h (6, j, s) (nI (sp_rich g o fm k)).toNatClampNeg), .inl (nI (g (o + k)))], h)) (P := vp_in (nI (sp_rich g o fm k)) 16 ∧ True) rfl ⟨(vp_in_nI (by omega) (by decide)), trivial⟩ ?_
      refine jt_ti (show (h (6, j, s) (nI (sp_rich g o fm k)).toNatClampNeg) = nI (g (o + (sp_rich g o fm k))) from by rw [nI_clamp (by omega)]; exact hr _ (by omega)) ?_
      have bq4 := hb (sp_rich g o fm k) (by omega)
      refine jt_nicne jm_m32 20 (a := g (o + k)) (b := g (o + (sp_rich g o fm k))) (by omega) (by omega) (tgt := 51) (nxt := 32) rfl rfl rfl (fun c29 => ?_) (fun c29 => ?_)
      · refine jt_inc jm_m32 32 (c := k) (L' := [(4, .inl (nI (k + 1))), (0, .inr (.inr (2, j, 0))), (1, .inr (.inr (6, j, s))), (2, .inl (nI fm)), (3, .inl (nI (sp_rich g o fm k)))]) rfl rfl rfl rfl ?_
        refine jt_go jm_m32 33 1 (f' := (5, [(4, .inl (nI (k + 1))), (0, .inr (.inr (2, j, 0))), (1, .inr (.inr (6, j, s))), (2, .inl (nI fm)), (3, .inl (nI (sp_rich g o fm k)))], [], h)) (P := True) rfl trivial ?_
        refine jt_pick (L' := [(0, .inr (.inr (2, j, 0))), (1, .inr (.inr (6, j, s))), (2, .inl (nI fm)), (3, .inl (nI (sp_rich g o fm k))), (4, .inl (nI (k + 1)))]) [1, 2, 3, 4, 0] rfl ?_
        have e : sp_rich g o fm (k + 1) = sp_rich g o fm k := if_neg (by omega)
        have q := nx c9
        rw [e] at q
        exact q
      · refine jt_go jm_m32 21 4 (f' := (39, [(0, .inr (.inr (2, j, 0))), (1, .inr (.inr (6, j, s))), (2, .inl (nI fm)), (3, .inl (nI (sp_rich g o fm k))), (4, .inl (nI k))], [.inl (if 0 ≤ ((nI k) - (nI fm)) then ((nI k) - (nI fm)) else 0 - ((nI k) - (nI fm)))], h)) (P := True) rfl trivial ?_
        refine jt_ti (show (if 0 ≤ ((nI k) - (nI fm)) then ((nI k) - (nI fm)) else 0 - ((nI k) - (nI fm))) = nI (sp_ap k fm) from jx_abs16 _ (by omega) _ (by omega)) ?_
        have bp1 : sp_ap k fm < 16 := sp_ap_lt (by omega) (by omega)
        refine jt_go jm_m32 25 4 (f' := (45, [(0, .inr (.inr (2, j, 0))), (1, .inr (.inr (6, j, s))), (2, .inl (nI fm)), (3, .inl (nI (sp_rich g o fm k))), (4, .inl (nI k))], [.inl (if 0 ≤ ((nI (sp_rich g o fm k)) - (nI fm)) then ((nI (sp_rich g o fm k)) - (nI fm)) else 0 - ((nI (sp_rich g o fm k)) - (nI fm))), .inl (nI (sp_ap k fm))], h)) (P := True) rfl trivial ?_
        refine jt_ti (show (if 0 ≤ ((nI (sp_rich g o fm k)) - (nI fm)) then ((nI (sp_rich g o fm k)) - (nI fm)) else 0 - ((nI (sp_rich g o fm k)) - (nI fm))) = nI (sp_ap (sp_rich g o fm k) fm) from jx_abs16 _ (by omega) _ (by omega)) ?_
        have bp2 : sp_ap (sp_rich g o fm k) fm < 16 := sp_ap_lt (by omega) (by omega)
        refine jt_nicge jm_m32 29 (a := sp_ap k fm) (b := sp_ap (sp_rich g o fm k) fm) (by omega) (by omega) (tgt := 51) (nxt := 48) rfl rfl rfl (fun c45 => ?_) (fun c45 => ?_)
        · refine jt_inc jm_m32 32 (c := k) (L' := [(4, .inl (nI (k + 1))), (0, .inr (.inr (2, j, 0))), (1, .inr (.inr (6, j, s))), (2, .inl (nI fm)), (3, .inl (nI (sp_rich g o fm k)))]) rfl rfl rfl rfl ?_
          refine jt_go jm_m32 33 1 (f' := (5, [(4, .inl (nI (k + 1))), (0, .inr (.inr (2, j, 0))), (1, .inr (.inr (6, j, s))), (2, .inl (nI fm)), (3, .inl (nI (sp_rich g o fm k)))], [], h)) (P := True) rfl trivial ?_
          refine jt_pick (L' := [(0, .inr (.inr (2, j, 0))), (1, .inr (.inr (6, j, s))), (2, .inl (nI fm)), (3, .inl (nI (sp_rich g o fm k))), (4, .inl (nI (k + 1)))]) [1, 2, 3, 4, 0] rfl ?_
          have e : sp_rich g o fm (k + 1) = sp_rich g o fm k := if_neg (by omega)
          have q := nx c9
          rw [e] at q
          exact q
        · refine jt_go jm_m32 30 2 (f' := (51, [(3, .inl (nI k)), (0, .inr (.inr (2, j, 0))), (1, .inr (.inr (6, j, s))), (2, .inl (nI fm)), (4, .inl (nI k))], [], h)) (P := True) rfl trivial ?_
          refine jt_inc jm_m32 32 (c := k) (L' := [(4, .inl (nI (k + 1))), (3, .inl (nI k)), (0, .inr (.inr (2, j, 0))), (1, .inr (.inr (6, j, s))), (2, .inl (nI fm))]) rfl rfl rfl rfl ?_
          refine jt_go jm_m32 33 1 (f' := (5, [(4, .inl (nI (k + 1))), (3, .inl (nI k)), (0, .inr (.inr (2, j, 0))), (1, .inr (.inr (6, j, s))), (2, .inl (nI fm))], [], h)) (P := True) rfl trivial ?_
          refine jt_pick (L' := [(0, .inr (.inr (2, j, 0))), (1, .inr (.inr (6, j, s))), (2, .inl (nI fm)), (3, .inl (nI k)), (4, .inl (nI (k + 1)))]) [2, 3, 4, 1, 0] rfl ?_
          have e : sp_rich g o fm (k + 1) = k := if_pos (by omega)
          have q := nx c9
          rw [e] at q
          exact q)
set_option maxHeartbeats 4000000 in
set_option maxRecDepth 20000 in
theorem ta_rich {h : jm_M} {j s o fm : Nat} {g : Nat → Nat} (hr : ∀ p, p < 16 → h (6, j, s) p = nI (g (o + p))) (hb : ∀ p, p < 16 → g (o + p) ≤ 9) (hf : fm < 16) : jt_Pu 32 [.inr (.inr (2, j, 0)), .inr (.inr (6, j, s)), .inl (nI fm)] h (.inl (nI (sp_rich g o fm 16))) := by
  show jt_T 32 (0, [(0, .inr (.inr (2, j, 0))), (1, .inr (.inr (6, j, s))), (2, .inl (nI fm))], [], h) _
  refine jt_go jm_m32 0 4 (f' := (5, [(4, .inl (nI 0)), (3, .inl (nI fm)), (0, .inr (.inr (2, j, 0))), (1, .inr (.inr (6, j, s))), (2, .inl (nI fm))], [], h)) (P := True) rfl trivial ?_
  refine jt_pick (L' := [(0, .inr (.inr (2, j, 0))), (1, .inr (.inr (6, j, s))), (2, .inl (nI fm)), (3, .inl (nI fm)), (4, .inl (nI 0))]) [2, 3, 4, 1, 0] rfl ?_
  exact ta_rich_l hr hb hf 0 (Nat.zero_le _)
set_option maxHeartbeats 4000000 in
set_option maxRecDepth 20000 in
theorem ta_near_l {h : jm_M} {j : Nat} {g : Nat → Nat} (R : jf_rel h j g) (W : jw g) {c : Nat} (hc : c < g 0) : ∀ k, k ≤ g 0 → jt_T 33 (8, [(0, .inr (.inr (2, j, 0))), (1, .inl (nI c)), (2, .inl (nI ((sp_near g c k).1))), (3, .inl (nI ((sp_near g c k).2))), (4, .inl (nI k))], [], h) (fun u h' => u = some (.inl (nI (g (38 + 5 * (sp_near g c (g 0)).1)))) ∧ h' = h) := jx_up (fun k hk nx => by
  have bn := jw_n W
  have bm := jw_m W
  have bt := jw_t W
  have hs := sp_near_lt g c (g 0) hc k hk
  have hs1 := hs.1
  have hs2 := hs.2
  refine jt_go jm_m33 6 3 (f' := (14, [(0, .inr (.inr (2, j, 0))), (1, .inl (nI c)), (2, .inl (nI ((sp_near g c k).1))), (3, .inl (nI ((sp_near g c k).2))), (4, .inl (nI k))], [.inl (h (2, j, 0) 9), .inl (nI k)], h)) (P := True) rfl trivial ?_
  refine jt_ti (show (h (2, j, 0) 9) = nI (g 0) from jf_cats R) ?_
  have bq1 := jw_n W
  refine jt_nicge jm_m33 9 (a := k) (b := g 0) (by omega) (by omega) (tgt := 60) (nxt := 17) rfl rfl rfl (fun c14 => ?_) (fun c14 => ?_)
  · refine jt_go jm_m33 33 4 (f' := (66, [(0, .inr (.inr (2, j, 0))), (1, .inl (nI c)), (2, .inl (nI ((sp_near g c k).1))), (3, .inl (nI ((sp_near g c k).2))), (4, .inl (nI k))], [.inl (h (2, j, 3) (nI ((sp_near g c k).1)).toNatClampNeg)], h)) (P := vp_in (nI ((sp_near g c k).1)) 6 ∧ True) rfl ⟨(vp_in_nI (by omega) (by decide)), trivial⟩ ?_
    refine jt_ti (show (h (2, j, 3) (nI ((sp_near g c k).1)).toNatClampNeg) = nI (g (38 + 5 * ((sp_near g c k).1))) from jf_at R (c := (sp_near g c k).1) (nI_clamp (by omega)) (by omega)) ?_
    have bq2 := jw_at W (c := (sp_near g c k).1) (by omega)
    refine jt_iret jm_m33 37 rfl ?_
    have e : k = g 0 := by omega
    subst e
    exact ⟨rfl, rfl⟩
  · refine jt_go jm_m33 10 4 (f' := (24, [(0, .inr (.inr (2, j, 0))), (1, .inl (nI c)), (2, .inl (nI ((sp_near g c k).1))), (3, .inl (nI ((sp_near g c k).2))), (4, .inl (nI k))], [.inl (h (2, j, 3) (nI k).toNatClampNeg)], h)) (P := vp_in (nI k) 6 ∧ True) rfl ⟨(vp_in_nI (by omega) (by decide)), trivial⟩ ?_
    refine jt_ti (show (h (2, j, 3) (nI k).toNatClampNeg) = nI (g (38 + 5 * k)) from jf_at R (c := k) (nI_clamp (by omega)) (by omega)) ?_
    have bq3 := jw_at W (c := k) (by omega)
    refine jt_go jm_m33 14 4 (f' := (30, [(0, .inr (.inr (2, j, 0))), (1, .inl (nI c)), (2, .inl (nI ((sp_near g c k).1))), (3, .inl (nI ((sp_near g c k).2))), (4, .inl (nI k))], [.inl (h (2, j, 3) (nI c).toNatClampNeg), .inl (nI (g (38 + 5 * k)))], h)) (P := vp_in (nI c) 6 ∧ True) rfl ⟨(vp_in_nI (by omega) (by decide)), trivial⟩ ?_
    refine jt_ti (show (h (2, j, 3) (nI c).toNatClampNeg) = nI (g (38 + 5 * c)) from jf_at R (c := c) (nI_clamp (by omega)) (by omega)) ?_
    have bq4 := jw_at W (c := c) (by omega)
    refine jt_go jm_m33 18 2 (f' := (34, [(0, .inr (.inr (2, j, 0))), (1, .inl (nI c)), (2, .inl (nI ((sp_near g c k).1))), (3, .inl (nI ((sp_near g c k).2))), (4, .inl (nI k))], [.inl (if 0 ≤ ((nI (g (38 + 5 * k))) - (nI (g (38 + 5 * c)))) then ((nI (g (38 + 5 * k))) - (nI (g (38 + 5 * c)))) else 0 - ((nI (g (38 + 5 * k))) - (nI (g (38 + 5 * c)))))], h)) (P := True) rfl trivial ?_
    refine jt_ti (show (if 0 ≤ ((nI (g (38 + 5 * k))) - (nI (g (38 + 5 * c)))) then ((nI (g (38 + 5 * k))) - (nI (g (38 + 5 * c)))) else 0 - ((nI (g (38 + 5 * k))) - (nI (g (38 + 5 * c))))) = nI (sp_ap (g (38 + 5 * k)) (g (38 + 5 * c))) from jx_abs16 _ (by omega) _ (by omega)) ?_
    have bap : sp_ap (g (38 + 5 * k)) (g (38 + 5 * c)) < 16 := by unfold sp_ap; split <;> omega
    refine jt_go jm_m33 20 3 (f' := (39, [(5, .inl (nI (sp_ap (g (38 + 5 * k)) (g (38 + 5 * c))))), (0, .inr (.inr (2, j, 0))), (1, .inl (nI c)), (2, .inl (nI ((sp_near g c k).1))), (3, .inl (nI ((sp_near g c k).2))), (4, .inl (nI k))], [.inl (nI c), .inl (nI k)], h)) (P := True) rfl trivial ?_
    refine jt_niceq jm_m33 23 (a := k) (b := c) (by omega) (by omega) (tgt := 54) (nxt := 42) rfl rfl rfl (fun c39 => ?_) (fun c39 => ?_)
    · refine jt_inc jm_m33 31 (c := k) (L' := [(4, .inl (nI (k + 1))), (5, .inl (nI (sp_ap (g (38 + 5 * k)) (g (38 + 5 * c))))), (0, .inr (.inr (2, j, 0))), (1, .inl (nI c)), (2, .inl (nI ((sp_near g c k).1))), (3, .inl (nI ((sp_near g c k).2)))]) rfl rfl rfl rfl ?_
      refine jt_go jm_m33 32 1 (f' := (8, [(4, .inl (nI (k + 1))), (5, .inl (nI (sp_ap (g (38 + 5 * k)) (g (38 + 5 * c))))), (0, .inr (.inr (2, j, 0))), (1, .inl (nI c)), (2, .inl (nI ((sp_near g c k).1))), (3, .inl (nI ((sp_near g c k).2)))], [], h)) (P := True) rfl trivial ?_
      refine jt_pick (L' := [(0, .inr (.inr (2, j, 0))), (1, .inl (nI c)), (2, .inl (nI ((sp_near g c k).1))), (3, .inl (nI ((sp_near g c k).2))), (4, .inl (nI (k + 1)))]) [2, 3, 4, 5, 0] rfl ?_
      have e : sp_near g c (k + 1) = sp_near g c k := if_neg (by omega)
      have q := nx c14
      rw [e] at q
      exact q
    · refine jt_go jm_m33 24 2 (f' := (45, [(5, .inl (nI (sp_ap (g (38 + 5 * k)) (g (38 + 5 * c))))), (0, .inr (.inr (2, j, 0))), (1, .inl (nI c)), (2, .inl (nI ((sp_near g c k).1))), (3, .inl (nI ((sp_near g c k).2))), (4, .inl (nI k))], [.inl (nI ((sp_near g c k).2)), .inl (nI (sp_ap (g (38 + 5 * k)) (g (38 + 5 * c))))], h)) (P := True) rfl trivial ?_
      refine jt_nicge jm_m33 26 (a := sp_ap (g (38 + 5 * k)) (g (38 + 5 * c))) (b := (sp_near g c k).2) (by omega) (by omega) (tgt := 54) (nxt := 48) rfl rfl rfl (fun c45 => ?_) (fun c45 => ?_)
      · refine jt_inc jm_m33 31 (c := k) (L' := [(4, .inl (nI (k + 1))), (5, .inl (nI (sp_ap (g (38 + 5 * k)) (g (38 + 5 * c))))), (0, .inr (.inr (2, j, 0))), (1, .inl (nI c)), (2, .inl (nI ((sp_near g c k).1))), (3, .inl (nI ((sp_near g c k).2)))]) rfl rfl rfl rfl ?_
        refine jt_go jm_m33 32 1 (f' := (8, [(4, .inl (nI (k + 1))), (5, .inl (nI (sp_ap (g (38 + 5 * k)) (g (38 + 5 * c))))), (0, .inr (.inr (2, j, 0))), (1, .inl (nI c)), (2, .inl (nI ((sp_near g c k).1))), (3, .inl (nI ((sp_near g c k).2)))], [], h)) (P := True) rfl trivial ?_
        refine jt_pick (L' := [(0, .inr (.inr (2, j, 0))), (1, .inl (nI c)), (2, .inl (nI ((sp_near g c k).1))), (3, .inl (nI ((sp_near g c k).2))), (4, .inl (nI (k + 1)))]) [2, 3, 4, 5, 0] rfl ?_
        have e : sp_near g c (k + 1) = sp_near g c k := if_neg (by omega)
        have q := nx c14
        rw [e] at q
        exact q
      · refine jt_go jm_m33 27 4 (f' := (54, [(3, .inl (nI (sp_ap (g (38 + 5 * k)) (g (38 + 5 * c))))), (2, .inl (nI k)), (5, .inl (nI (sp_ap (g (38 + 5 * k)) (g (38 + 5 * c))))), (0, .inr (.inr (2, j, 0))), (1, .inl (nI c)), (4, .inl (nI k))], [], h)) (P := True) rfl trivial ?_
        refine jt_inc jm_m33 31 (c := k) (L' := [(4, .inl (nI (k + 1))), (3, .inl (nI (sp_ap (g (38 + 5 * k)) (g (38 + 5 * c))))), (2, .inl (nI k)), (5, .inl (nI (sp_ap (g (38 + 5 * k)) (g (38 + 5 * c))))), (0, .inr (.inr (2, j, 0))), (1, .inl (nI c))]) rfl rfl rfl rfl ?_
        refine jt_go jm_m33 32 1 (f' := (8, [(4, .inl (nI (k + 1))), (3, .inl (nI (sp_ap (g (38 + 5 * k)) (g (38 + 5 * c))))), (2, .inl (nI k)), (5, .inl (nI (sp_ap (g (38 + 5 * k)) (g (38 + 5 * c))))), (0, .inr (.inr (2, j, 0))), (1, .inl (nI c))], [], h)) (P := True) rfl trivial ?_
        refine jt_pick (L' := [(0, .inr (.inr (2, j, 0))), (1, .inl (nI c)), (2, .inl (nI k)), (3, .inl (nI (sp_ap (g (38 + 5 * k)) (g (38 + 5 * c))))), (4, .inl (nI (k + 1)))]) [4, 5, 2, 1, 0] rfl ?_
        have e : sp_near g c (k + 1) = (k, sp_ap (g (38 + 5 * k)) (g (38 + 5 * c))) := if_pos (by omega)
        have q := nx c14
        rw [e] at q
        exact q)
set_option maxHeartbeats 4000000 in
set_option maxRecDepth 20000 in
theorem ta_near {h : jm_M} {j : Nat} {g : Nat → Nat} (R : jf_rel h j g) (W : jw g) {c : Nat} (hc : c < g 0) : jt_Pu 33 [.inr (.inr (2, j, 0)), .inl (nI c)] h (.inl (nI (g (38 + 5 * (sp_near g c (g 0)).1)))) := by
  show jt_T 33 (0, [(0, .inr (.inr (2, j, 0))), (1, .inl (nI c))], [], h) _
  refine jt_go jm_m33 0 6 (f' := (8, [(4, .inl (nI 0)), (3, .inl (nI 16)), (2, .inl (nI c)), (0, .inr (.inr (2, j, 0))), (1, .inl (nI c))], [], h)) (P := True) rfl trivial ?_
  refine jt_pick (L' := [(0, .inr (.inr (2, j, 0))), (1, .inl (nI c)), (2, .inl (nI c)), (3, .inl (nI 16)), (4, .inl (nI 0))]) [3, 4, 2, 1, 0] rfl ?_
  exact ta_near_l R W hc 0 (Nat.zero_le _)
set_option maxHeartbeats 4000000 in
set_option maxRecDepth 20000 in
theorem ta_goal0 {h : jm_M} {j : Nat} {g : Nat → Nat} (R : jf_rel h j g) (W : jw g) {c : Nat} (hc : c < g 0) {k : Nat} : jt_Pu 0 [.inr (.inr (1, k, 0)), .inr (.inr (2, j, 0)), .inl (nI c)] h (.inl (nI (sp_rich g 4 (g (38 + 5 * c)) 16))) := by
  have bn := jw_n W
  have bm := jw_m W
  have bt := jw_t W
  show jt_T 0 (0, [(0, .inr (.inr (1, k, 0))), (1, .inr (.inr (2, j, 0))), (2, .inl (nI c))], [], h) _
  refine jt_go jm_m0 0 7 (f' := (11, [(0, .inr (.inr (1, k, 0))), (1, .inr (.inr (2, j, 0))), (2, .inl (nI c))], [.inl (h (2, j, 3) (nI c).toNatClampNeg), .inr (.inr (6, j, 0)), .inr (.inr (2, j, 0))], h)) (P := vp_in (nI c) 6 ∧ True) rfl ⟨(vp_in_nI (by omega) (by decide)), trivial⟩ ?_
  refine jt_ti (show (h (2, j, 3) (nI c).toNatClampNeg) = nI (g (38 + 5 * c)) from jf_at R (c := c) (nI_clamp (by omega)) (by omega)) ?_
  have bq1 := jw_at W (c := c) (by omega)
  refine jt_callp (w := .inl (nI (sp_rich g 4 (g (38 + 5 * c)) 16))) jm_m0 7 (mi' := 32) (as := [.inr (.inr (2, j, 0)), .inr (.inr (6, j, 0)), .inl (nI (g (38 + 5 * c)))]) (rest := []) (nxt := 14) rfl rfl jm_m32 rfl rfl (ta_rich (fun p hp => R.2.2.2.2.2.1 p hp) (fun p hp => jw_fish W hp) (by omega)) ?_
  refine jt_iret jm_m0 8 rfl ?_
  exact ⟨rfl, rfl⟩
set_option maxHeartbeats 4000000 in
set_option maxRecDepth 20000 in
theorem ta_goal1 {h : jm_M} {j : Nat} {g : Nat → Nat} (R : jf_rel h j g) (W : jw g) {c : Nat} (hc : c < g 0) {k : Nat} : jt_Pu 37 [.inr (.inr (1, k, 0)), .inr (.inr (2, j, 0)), .inl (nI c)] h (.inl (nI (sp_rich g 20 (g (38 + 5 * c)) 16))) := by
  have bn := jw_n W
  have bm := jw_m W
  have bt := jw_t W
  show jt_T 37 (0, [(0, .inr (.inr (1, k, 0))), (1, .inr (.inr (2, j, 0))), (2, .inl (nI c))], [], h) _
  refine jt_go jm_m37 0 7 (f' := (11, [(0, .inr (.inr (1, k, 0))), (1, .inr (.inr (2, j, 0))), (2, .inl (nI c))], [.inl (h (2, j, 3) (nI c).toNatClampNeg), .inr (.inr (6, j, 1)), .inr (.inr (2, j, 0))], h)) (P := vp_in (nI c) 6 ∧ True) rfl ⟨(vp_in_nI (by omega) (by decide)), trivial⟩ ?_
  refine jt_ti (show (h (2, j, 3) (nI c).toNatClampNeg) = nI (g (38 + 5 * c)) from jf_at R (c := c) (nI_clamp (by omega)) (by omega)) ?_
  have bq1 := jw_at W (c := c) (by omega)
  refine jt_callp (w := .inl (nI (sp_rich g 20 (g (38 + 5 * c)) 16))) jm_m37 7 (mi' := 32) (as := [.inr (.inr (2, j, 0)), .inr (.inr (6, j, 1)), .inl (nI (g (38 + 5 * c)))]) (rest := []) (nxt := 14) rfl rfl jm_m32 rfl rfl (ta_rich (fun p hp => R.2.2.2.2.2.2.1 p hp) (fun p hp => jw_mice W hp) (by omega)) ?_
  refine jt_iret jm_m37 8 rfl ?_
  exact ⟨rfl, rfl⟩
set_option maxHeartbeats 4000000 in
set_option maxRecDepth 20000 in
theorem ta_goal2 {h : jm_M} {j : Nat} {g : Nat → Nat} (R : jf_rel h j g) (W : jw g) {c : Nat} (hc : c < g 0) {k : Nat} : jt_Pu 66 [.inr (.inr (1, k, 0)), .inr (.inr (2, j, 0)), .inl (nI c)] h (.inl (nI (g (38 + 5 * (sp_near g c (g 0)).1)))) := by
  have bn := jw_n W
  have bm := jw_m W
  have bt := jw_t W
  show jt_T 66 (0, [(0, .inr (.inr (1, k, 0))), (1, .inr (.inr (2, j, 0))), (2, .inl (nI c))], [], h) _
  refine jt_go jm_m66 0 2 (f' := (2, [(0, .inr (.inr (1, k, 0))), (1, .inr (.inr (2, j, 0))), (2, .inl (nI c))], [.inl (nI c), .inr (.inr (2, j, 0))], h)) (P := True) rfl trivial ?_
  refine jt_callp (w := .inl (nI (g (38 + 5 * (sp_near g c (g 0)).1)))) jm_m66 2 (mi' := 33) (as := [.inr (.inr (2, j, 0)), .inl (nI c)]) (rest := []) (nxt := 5) rfl rfl jm_m33 rfl rfl (ta_near R W hc) ?_
  refine jt_iret jm_m66 3 rfl ?_
  exact ⟨rfl, rfl⟩
set_option maxHeartbeats 4000000 in
set_option maxRecDepth 20000 in
theorem ta_goal3 {h : jm_M} {j : Nat} {g : Nat → Nat} (R : jf_rel h j g) (W : jw g) {c : Nat} (hc : c < g 0) {k : Nat} : jt_Pu 70 [.inr (.inr (1, k, 0)), .inr (.inr (2, j, 0)), .inl (nI c)] h (.inl (nI (g (38 + 5 * c)))) := by
  have bn := jw_n W
  have bm := jw_m W
  have bt := jw_t W
  show jt_T 70 (0, [(0, .inr (.inr (1, k, 0))), (1, .inr (.inr (2, j, 0))), (2, .inl (nI c))], [], h) _
  refine jt_go jm_m70 0 4 (f' := (6, [(0, .inr (.inr (1, k, 0))), (1, .inr (.inr (2, j, 0))), (2, .inl (nI c))], [.inl (h (2, j, 3) (nI c).toNatClampNeg)], h)) (P := vp_in (nI c) 6 ∧ True) rfl ⟨(vp_in_nI (by omega) (by decide)), trivial⟩ ?_
  refine jt_ti (show (h (2, j, 3) (nI c).toNatClampNeg) = nI (g (38 + 5 * c)) from jf_at R (c := c) (nI_clamp (by omega)) (by omega)) ?_
  have bq1 := jw_at W (c := c) (by omega)
  refine jt_iret jm_m70 4 rfl ?_
  exact ⟨rfl, rfl⟩
set_option maxHeartbeats 4000000 in
set_option maxRecDepth 20000 in
theorem ta_goal4 {h : jm_M} {j : Nat} {g : Nat → Nat} (R : jf_rel h j g) (W : jw g) {c : Nat} (hc : c < g 0) {k : Nat} : jt_Pu 34 [.inr (.inr (1, k, 0)), .inr (.inr (2, j, 0)), .inl (nI c)] h (.inl (nI (if g 2 % 2 = 0 then 15 - g (38 + 5 * c) else g (38 + 5 * c)))) := by
  have bn := jw_n W
  have bm := jw_m W
  have bt := jw_t W
  show jt_T 34 (0, [(0, .inr (.inr (1, k, 0))), (1, .inr (.inr (2, j, 0))), (2, .inl (nI c))], [], h) _
  refine jt_go jm_m34 0 2 (f' := (4, [(0, .inr (.inr (1, k, 0))), (1, .inr (.inr (2, j, 0))), (2, .inl (nI c))], [.inl (h (2, j, 0) 11)], h)) (P := True) rfl trivial ?_
  refine jt_ti (show (h (2, j, 0) 11) = nI (g 2) from jf_hour R) ?_
  have bq1 := jw_t W
  refine jt_go jm_m34 2 2 (f' := (6, [(0, .inr (.inr (1, k, 0))), (1, .inr (.inr (2, j, 0))), (2, .inl (nI c))], [.inl ((nI (g 2)) - (nI (g 2)) / (nI 2) * (nI 2))], h)) (P := ¬ (nI 2) = 0 ∧ True) rfl ⟨(by decide), trivial⟩ ?_
  refine jt_ti (show ((nI (g 2)) - (nI (g 2)) / (nI 2) * (nI 2)) = nI (g 2 % 2) from jx_r2 _ bt) ?_
  refine jt_nifne jm_m34 4 (by omega) (tgt := 21) (nxt := 9) rfl rfl rfl (fun c6 => ?_) (fun c6 => ?_)
  · refine jt_go jm_m34 12 4 (f' := (27, [(0, .inr (.inr (1, k, 0))), (1, .inr (.inr (2, j, 0))), (2, .inl (nI c))], [.inl (h (2, j, 3) (nI c).toNatClampNeg)], h)) (P := vp_in (nI c) 6 ∧ True) rfl ⟨(vp_in_nI (by omega) (by decide)), trivial⟩ ?_
    refine jt_ti (show (h (2, j, 3) (nI c).toNatClampNeg) = nI (g (38 + 5 * c)) from jf_at R (c := c) (nI_clamp (by omega)) (by omega)) ?_
    have bq2 := jw_at W (c := c) (by omega)
    refine jt_iret jm_m34 16 rfl ?_
    exact ⟨jt_ln (by rw [if_neg c6]), rfl⟩
  · refine jt_go jm_m34 5 5 (f' := (17, [(0, .inr (.inr (1, k, 0))), (1, .inr (.inr (2, j, 0))), (2, .inl (nI c))], [.inl (h (2, j, 3) (nI c).toNatClampNeg), .inl (nI 15)], h)) (P := vp_in (nI c) 6 ∧ True) rfl ⟨(vp_in_nI (by omega) (by decide)), trivial⟩ ?_
    refine jt_ti (show (h (2, j, 3) (nI c).toNatClampNeg) = nI (g (38 + 5 * c)) from jf_at R (c := c) (nI_clamp (by omega)) (by omega)) ?_
    have bq3 := jw_at W (c := c) (by omega)
    refine jt_go jm_m34 10 1 (f' := (18, [(0, .inr (.inr (1, k, 0))), (1, .inr (.inr (2, j, 0))), (2, .inl (nI c))], [.inl ((nI 15) - (nI (g (38 + 5 * c))))], h)) (P := True) rfl trivial ?_
    refine jt_ti (show ((nI 15) - (nI (g (38 + 5 * c)))) = nI (15 - g (38 + 5 * c)) from nI_subN (by omega)) ?_
    refine jt_go jm_m34 11 1 (f' := (27, [(0, .inr (.inr (1, k, 0))), (1, .inr (.inr (2, j, 0))), (2, .inl (nI c))], [.inl (nI (15 - g (38 + 5 * c)))], h)) (P := True) rfl trivial ?_
    refine jt_iret jm_m34 16 rfl ?_
    exact ⟨jt_ln (by rw [if_pos c6]), rfl⟩
set_option maxHeartbeats 4000000 in
set_option maxRecDepth 20000 in
theorem ta_goal5 {h : jm_M} {j : Nat} {g : Nat → Nat} (R : jf_rel h j g) (W : jw g) {c : Nat} (hc : c < g 0) : jt_Pu 49 [.inr (.inr (1, 5, 0)), .inr (.inr (2, j, 0)), .inl (nI c)] h (.inl (nI (if 20 ≤ g 2 ∨ g 2 ≤ 4 then sp_rich g 4 (g (38 + 5 * c)) 16 else g (38 + 5 * c)))) := by
  have bn := jw_n W
  have bm := jw_m W
  have bt := jw_t W
  show jt_T 49 (0, [(0, .inr (.inr (1, 5, 0))), (1, .inr (.inr (2, j, 0))), (2, .inl (nI c))], [], h) _
  refine jt_go jm_m49 0 2 (f' := (4, [(0, .inr (.inr (1, 5, 0))), (1, .inr (.inr (2, j, 0))), (2, .inl (nI c))], [.inl (h (2, j, 0) 11)], h)) (P := True) rfl trivial ?_
  refine jt_ti (show (h (2, j, 0) 11) = nI (g 2) from jf_hour R) ?_
  have bq1 := jw_t W
  refine jt_go jm_m49 2 1 (f' := (6, [(0, .inr (.inr (1, 5, 0))), (1, .inr (.inr (2, j, 0))), (2, .inl (nI c))], [.inl (nI 20), .inl (nI (g 2))], h)) (P := True) rfl trivial ?_
  refine jt_nicge jm_m49 3 (a := g 2) (b := 20) (by omega) (by omega) (tgt := 17) (nxt := 9) rfl rfl rfl (fun c6 => ?_) (fun c6 => ?_)
  · refine jt_go jm_m49 8 2 (f' := (22, [(0, .inr (.inr (1, 5, 0))), (1, .inr (.inr (2, j, 0))), (2, .inl (nI c))], [.inl (nI 1)], h)) (P := True) rfl trivial ?_
    refine jt_go jm_m49 11 2 (f' := (24, [(3, .inl (nI 1)), (0, .inr (.inr (1, 5, 0))), (1, .inr (.inr (2, j, 0))), (2, .inl (nI c))], [.inl (nI 1)], h)) (P := True) rfl trivial ?_
    refine jt_nifeq jm_m49 13 (by omega) (tgt := 44) (nxt := 27) rfl rfl rfl (fun c24 => ?_) (fun c24 => ?_)
    · exact absurd c24 (by decide)
    · refine jt_go jm_m49 14 7 (f' := (38, [(3, .inl (nI 1)), (0, .inr (.inr (1, 5, 0))), (1, .inr (.inr (2, j, 0))), (2, .inl (nI c))], [.inl (h (2, j, 3) (nI c).toNatClampNeg), .inr (.inr (6, j, 0)), .inr (.inr (2, j, 0))], h)) (P := vp_in (nI c) 6 ∧ True) rfl ⟨(vp_in_nI (by omega) (by decide)), trivial⟩ ?_
      refine jt_ti (show (h (2, j, 3) (nI c).toNatClampNeg) = nI (g (38 + 5 * c)) from jf_at R (c := c) (nI_clamp (by omega)) (by omega)) ?_
      have bq2 := jw_at W (c := c) (by omega)
      refine jt_callp (w := .inl (nI (sp_rich g 4 (g (38 + 5 * c)) 16))) jm_m49 21 (mi' := 32) (as := [.inr (.inr (2, j, 0)), .inr (.inr (6, j, 0)), .inl (nI (g (38 + 5 * c)))]) (rest := []) (nxt := 41) rfl rfl jm_m32 rfl rfl (ta_rich (fun p hp => R.2.2.2.2.2.1 p hp) (fun p hp => jw_fish W hp) (by omega)) ?_
      refine jt_go jm_m49 22 1 (f' := (50, [(3, .inl (nI 1)), (0, .inr (.inr (1, 5, 0))), (1, .inr (.inr (2, j, 0))), (2, .inl (nI c))], [.inl (nI (sp_rich g 4 (g (38 + 5 * c)) 16))], h)) (P := True) rfl trivial ?_
      refine jt_iret jm_m49 27 rfl ?_
      exact ⟨jt_ln (by rw [if_pos (by omega)]), rfl⟩
  · refine jt_go jm_m49 4 2 (f' := (13, [(0, .inr (.inr (1, 5, 0))), (1, .inr (.inr (2, j, 0))), (2, .inl (nI c))], [.inl (h (2, j, 0) 11)], h)) (P := True) rfl trivial ?_
    refine jt_ti (show (h (2, j, 0) 11) = nI (g 2) from jf_hour R) ?_
    have bq3 := jw_t W
    refine jt_go jm_m49 6 1 (f' := (14, [(0, .inr (.inr (1, 5, 0))), (1, .inr (.inr (2, j, 0))), (2, .inl (nI c))], [.inl (nI 4), .inl (nI (g 2))], h)) (P := True) rfl trivial ?_
    refine jt_nicgt jm_m49 7 (a := g 2) (b := 4) (by omega) (by omega) (tgt := 21) (nxt := 17) rfl rfl rfl (fun c14 => ?_) (fun c14 => ?_)
    · refine jt_go jm_m49 10 3 (f' := (24, [(3, .inl (nI 0)), (0, .inr (.inr (1, 5, 0))), (1, .inr (.inr (2, j, 0))), (2, .inl (nI c))], [.inl (nI 0)], h)) (P := True) rfl trivial ?_
      refine jt_nifeq jm_m49 13 (by omega) (tgt := 44) (nxt := 27) rfl rfl rfl (fun c24 => ?_) (fun c24 => ?_)
      · refine jt_go jm_m49 23 3 (f' := (47, [(3, .inl (nI 0)), (0, .inr (.inr (1, 5, 0))), (1, .inr (.inr (2, j, 0))), (2, .inl (nI c))], [.inl (nI c), .inr (.inr (2, j, 0)), .inr (.inr (1, 5, 0))], h)) (P := True) rfl trivial ?_
        refine jt_callp (w := .inl (nI (g (38 + 5 * c)))) jm_m49 26 (mi' := 70) (as := [.inr (.inr (1, 5, 0)), .inr (.inr (2, j, 0)), .inl (nI c)]) (rest := []) (nxt := 50) rfl rfl jm_m70 rfl rfl (ta_goal3 R W hc) ?_
        refine jt_iret jm_m49 27 rfl ?_
        exact ⟨jt_ln (by rw [if_neg (by omega)]), rfl⟩
      · exact absurd c24 (by decide)
    · refine jt_go jm_m49 8 2 (f' := (22, [(0, .inr (.inr (1, 5, 0))), (1, .inr (.inr (2, j, 0))), (2, .inl (nI c))], [.inl (nI 1)], h)) (P := True) rfl trivial ?_
      refine jt_go jm_m49 11 2 (f' := (24, [(3, .inl (nI 1)), (0, .inr (.inr (1, 5, 0))), (1, .inr (.inr (2, j, 0))), (2, .inl (nI c))], [.inl (nI 1)], h)) (P := True) rfl trivial ?_
      refine jt_nifeq jm_m49 13 (by omega) (tgt := 44) (nxt := 27) rfl rfl rfl (fun c24 => ?_) (fun c24 => ?_)
      · exact absurd c24 (by decide)
      · refine jt_go jm_m49 14 7 (f' := (38, [(3, .inl (nI 1)), (0, .inr (.inr (1, 5, 0))), (1, .inr (.inr (2, j, 0))), (2, .inl (nI c))], [.inl (h (2, j, 3) (nI c).toNatClampNeg), .inr (.inr (6, j, 0)), .inr (.inr (2, j, 0))], h)) (P := vp_in (nI c) 6 ∧ True) rfl ⟨(vp_in_nI (by omega) (by decide)), trivial⟩ ?_
        refine jt_ti (show (h (2, j, 3) (nI c).toNatClampNeg) = nI (g (38 + 5 * c)) from jf_at R (c := c) (nI_clamp (by omega)) (by omega)) ?_
        have bq4 := jw_at W (c := c) (by omega)
        refine jt_callp (w := .inl (nI (sp_rich g 4 (g (38 + 5 * c)) 16))) jm_m49 21 (mi' := 32) (as := [.inr (.inr (2, j, 0)), .inr (.inr (6, j, 0)), .inl (nI (g (38 + 5 * c)))]) (rest := []) (nxt := 41) rfl rfl jm_m32 rfl rfl (ta_rich (fun p hp => R.2.2.2.2.2.1 p hp) (fun p hp => jw_fish W hp) (by omega)) ?_
        refine jt_go jm_m49 22 1 (f' := (50, [(3, .inl (nI 1)), (0, .inr (.inr (1, 5, 0))), (1, .inr (.inr (2, j, 0))), (2, .inl (nI c))], [.inl (nI (sp_rich g 4 (g (38 + 5 * c)) 16))], h)) (P := True) rfl trivial ?_
        refine jt_iret jm_m49 27 rfl ?_
        exact ⟨jt_ln (by rw [if_pos (by omega)]), rfl⟩
set_option maxHeartbeats 4000000 in
set_option maxRecDepth 20000 in
theorem ta_goalOf {h : jm_M} {j : Nat} {g : Nat → Nat} (R : jf_rel h j g) (W : jw g) {c : Nat} (hc : c < g 0) : jt_Pu 24 [.inr (.inr (2, j, 0)), .inl (nI c)] h (.inl (nI (sp_goal g c))) := by
  have bn := jw_n W
  have bm := jw_m W
  have bt := jw_t W
  show jt_T 24 (0, [(0, .inr (.inr (2, j, 0))), (1, .inl (nI c))], [], h) _
  refine jt_go jm_m24 0 6 (f' := (10, [(0, .inr (.inr (2, j, 0))), (1, .inl (nI c))], [.inl (h (2, j, 1) (nI c).toNatClampNeg), .inr (.inr (0, 0, 1))], h)) (P := vp_in (nI c) 6 ∧ True) rfl ⟨(vp_in_nI (by omega) (by decide)), trivial⟩ ?_
  refine jt_ti (show (h (2, j, 1) (nI c).toNatClampNeg) = nI (g (36 + 5 * c)) from jf_kind R (c := c) (nI_clamp (by omega)) (by omega)) ?_
  have bq1 := jw_kind W (c := c) (by omega)
  refine jt_go jm_m24 6 1 (f' := (11, [(0, .inr (.inr (2, j, 0))), (1, .inl (nI c))], [.inr (.inr (1, (nI (g (36 + 5 * c))).toNatClampNeg, 0))], h)) (P := vp_in (nI (g (36 + 5 * c))) 8 ∧ True) rfl ⟨(vp_in_nI (by omega) (by decide)), trivial⟩ ?_
  obtain ⟨k1, ek1⟩ : ∃ k : Nat, k = g (36 + 5 * c) := ⟨_, rfl⟩
  refine jt_tr (show ((1, (nI (g (36 + 5 * c))).toNatClampNeg, 0) : jm_K) = (1, k1, 0) by rw [ek1, nI_clamp (by omega)]) ?_
  refine jt_go jm_m24 7 2 (f' := (13, [(0, .inr (.inr (2, j, 0))), (1, .inl (nI c))], [.inl (nI c), .inr (.inr (2, j, 0)), .inr (.inr (1, k1, 0))], h)) (P := True) rfl trivial ?_
  rcases jt_k8 (n := k1) (by omega) with rfl | rfl | rfl | rfl | rfl | rfl | rfl | rfl
  · refine jt_callp (w := .inl (nI (sp_rich g 4 (g (38 + 5 * c)) 16))) jm_m24 9 (mi' := 0) (as := [.inr (.inr (1, 0, 0)), .inr (.inr (2, j, 0)), .inl (nI c)]) (rest := []) (nxt := 16) rfl rfl jm_m0 rfl rfl (ta_goal0 R W hc) ?_
    refine jt_iret jm_m24 10 rfl ?_
    exact ⟨jt_ln (by unfold sp_goal; rw [← ek1]; first | done | rfl), rfl⟩
  · refine jt_callp (w := .inl (nI (sp_rich g 20 (g (38 + 5 * c)) 16))) jm_m24 9 (mi' := 37) (as := [.inr (.inr (1, 1, 0)), .inr (.inr (2, j, 0)), .inl (nI c)]) (rest := []) (nxt := 16) rfl rfl jm_m37 rfl rfl (ta_goal1 R W hc) ?_
    refine jt_iret jm_m24 10 rfl ?_
    exact ⟨jt_ln (by unfold sp_goal; rw [← ek1]; first | done | rfl), rfl⟩
  · refine jt_callp (w := .inl (nI (g (38 + 5 * (sp_near g c (g 0)).1)))) jm_m24 9 (mi' := 66) (as := [.inr (.inr (1, 2, 0)), .inr (.inr (2, j, 0)), .inl (nI c)]) (rest := []) (nxt := 16) rfl rfl jm_m66 rfl rfl (ta_goal2 R W hc) ?_
    refine jt_iret jm_m24 10 rfl ?_
    exact ⟨jt_ln (by unfold sp_goal; rw [← ek1]; first | done | rfl), rfl⟩
  · refine jt_callp (w := .inl (nI (g (38 + 5 * c)))) jm_m24 9 (mi' := 70) (as := [.inr (.inr (1, 3, 0)), .inr (.inr (2, j, 0)), .inl (nI c)]) (rest := []) (nxt := 16) rfl rfl jm_m70 rfl rfl (ta_goal3 R W hc) ?_
    refine jt_iret jm_m24 10 rfl ?_
    exact ⟨jt_ln (by unfold sp_goal; rw [← ek1]; first | done | rfl), rfl⟩
  · refine jt_callp (w := .inl (nI (if g 2 % 2 = 0 then 15 - g (38 + 5 * c) else g (38 + 5 * c)))) jm_m24 9 (mi' := 34) (as := [.inr (.inr (1, 4, 0)), .inr (.inr (2, j, 0)), .inl (nI c)]) (rest := []) (nxt := 16) rfl rfl jm_m34 rfl rfl (ta_goal4 R W hc) ?_
    refine jt_iret jm_m24 10 rfl ?_
    exact ⟨jt_ln (by unfold sp_goal; rw [← ek1]; first | done | rfl), rfl⟩
  · refine jt_callp (w := .inl (nI (if 20 ≤ g 2 ∨ g 2 ≤ 4 then sp_rich g 4 (g (38 + 5 * c)) 16 else g (38 + 5 * c)))) jm_m24 9 (mi' := 49) (as := [.inr (.inr (1, 5, 0)), .inr (.inr (2, j, 0)), .inl (nI c)]) (rest := []) (nxt := 16) rfl rfl jm_m49 rfl rfl (ta_goal5 R W hc) ?_
    refine jt_iret jm_m24 10 rfl ?_
    exact ⟨jt_ln (by unfold sp_goal; rw [← ek1]; first | done | rfl), rfl⟩
  · refine jt_callp (w := .inl (nI (g (38 + 5 * (sp_near g c (g 0)).1)))) jm_m24 9 (mi' := 66) (as := [.inr (.inr (1, 6, 0)), .inr (.inr (2, j, 0)), .inl (nI c)]) (rest := []) (nxt := 16) rfl rfl jm_m66 rfl rfl (ta_goal2 R W hc) ?_
    refine jt_iret jm_m24 10 rfl ?_
    exact ⟨jt_ln (by unfold sp_goal; rw [← ek1]; first | done | rfl), rfl⟩
  · refine jt_callp (w := .inl (nI (sp_rich g 4 (g (38 + 5 * c)) 16))) jm_m24 9 (mi' := 0) (as := [.inr (.inr (1, 7, 0)), .inr (.inr (2, j, 0)), .inl (nI c)]) (rest := []) (nxt := 16) rfl rfl jm_m0 rfl rfl (ta_goal0 R W hc) ?_
    refine jt_iret jm_m24 10 rfl ?_
    exact ⟨jt_ln (by unfold sp_goal; rw [← ek1]; first | done | rfl), rfl⟩
set_option maxHeartbeats 4000000 in
set_option maxRecDepth 20000 in
theorem ta_paceOf {h : jm_M} {j : Nat} {g : Nat → Nat} (R : jf_rel h j g) (W : jw g) {c t : Nat} (hc : c < 6) (ht : t < 24) : jt_Pu 25 [.inr (.inr (2, j, 0)), .inl (nI c), .inl (nI t)] h (.inl (nI (sp_pace (g (36 + 5 * c)) (g (37 + 5 * c)) t))) := by
  show jt_T 25 (0, [(0, .inr (.inr (2, j, 0))), (1, .inl (nI c)), (2, .inl (nI t))], [], h) _
  refine jt_go jm_m25 0 6 (f' := (10, [(0, .inr (.inr (2, j, 0))), (1, .inl (nI c)), (2, .inl (nI t))], [.inl (h (2, j, 1) (nI c).toNatClampNeg), .inr (.inr (0, 0, 1))], h)) (P := vp_in (nI c) 6 ∧ True) rfl ⟨(vp_in_nI (by omega) (by decide)), trivial⟩ ?_
  refine jt_ti (show (h (2, j, 1) (nI c).toNatClampNeg) = nI (g (36 + 5 * c)) from jf_kind R (c := c) (nI_clamp (by omega)) (by omega)) ?_
  have bq1 := jw_kind W (c := c) (by omega)
  refine jt_go jm_m25 6 1 (f' := (11, [(0, .inr (.inr (2, j, 0))), (1, .inl (nI c)), (2, .inl (nI t))], [.inr (.inr (1, (nI (g (36 + 5 * c))).toNatClampNeg, 0))], h)) (P := vp_in (nI (g (36 + 5 * c))) 8 ∧ True) rfl ⟨(vp_in_nI (by omega) (by decide)), trivial⟩ ?_
  obtain ⟨k1, ek1⟩ : ∃ k : Nat, k = g (36 + 5 * c) := ⟨_, rfl⟩
  refine jt_tr (show ((1, (nI (g (36 + 5 * c))).toNatClampNeg, 0) : jm_K) = (1, k1, 0) by rw [ek1, nI_clamp (by omega)]) ?_
  refine jt_go jm_m25 7 4 (f' := (17, [(0, .inr (.inr (2, j, 0))), (1, .inl (nI c)), (2, .inl (nI t))], [.inl (h (2, j, 2) (nI c).toNatClampNeg), .inr (.inr (1, k1, 0))], h)) (P := vp_in (nI c) 6 ∧ True) rfl ⟨(vp_in_nI (by omega) (by decide)), trivial⟩ ?_
  refine jt_ti (show (h (2, j, 2) (nI c).toNatClampNeg) = nI (g (37 + 5 * c)) from jf_fig R (c := c) (nI_clamp (by omega)) (by omega)) ?_
  have bq2 := jw_fig W (c := c) (by omega)
  refine jt_go jm_m25 11 1 (f' := (18, [(0, .inr (.inr (2, j, 0))), (1, .inl (nI c)), (2, .inl (nI t))], [.inl (nI t), .inl (nI (g (37 + 5 * c))), .inr (.inr (1, k1, 0))], h)) (P := True) rfl trivial ?_
  rcases jt_k8 (n := k1) (by omega) with rfl | rfl | rfl | rfl | rfl | rfl | rfl | rfl
  · refine jt_callp (w := .inl (nI (1 + g (37 + 5 * c) / 4))) jm_m25 12 (mi' := 1) (as := [.inr (.inr (1, 0, 0)), .inl (nI (g (37 + 5 * c))), .inl (nI t)]) (rest := []) (nxt := 21) rfl rfl jm_m1 rfl rfl (ta_pace0 (by omega) (by omega)) ?_
    refine jt_iret jm_m25 13 rfl ?_
    exact ⟨jt_ln (by rw [← ek1]; first | done | rfl), rfl⟩
  · refine jt_callp (w := .inl (nI (1 + g (37 + 5 * c) / 4))) jm_m25 12 (mi' := 1) (as := [.inr (.inr (1, 1, 0)), .inl (nI (g (37 + 5 * c))), .inl (nI t)]) (rest := []) (nxt := 21) rfl rfl jm_m1 rfl rfl (ta_pace0 (by omega) (by omega)) ?_
    refine jt_iret jm_m25 13 rfl ?_
    exact ⟨jt_ln (by rw [← ek1]; first | done | rfl), rfl⟩
  · refine jt_callp (w := .inl (nI (1 + g (37 + 5 * c) / 4 + 1))) jm_m25 12 (mi' := 67) (as := [.inr (.inr (1, 2, 0)), .inl (nI (g (37 + 5 * c))), .inl (nI t)]) (rest := []) (nxt := 21) rfl rfl jm_m67 rfl rfl (ta_pace2_2 (by omega) (by omega)) ?_
    refine jt_iret jm_m25 13 rfl ?_
    exact ⟨jt_ln (by rw [← ek1]; first | done | rfl), rfl⟩
  · refine jt_callp (w := .inl (nI (1 + g (37 + 5 * c) / 4))) jm_m25 12 (mi' := 1) (as := [.inr (.inr (1, 3, 0)), .inl (nI (g (37 + 5 * c))), .inl (nI t)]) (rest := []) (nxt := 21) rfl rfl jm_m1 rfl rfl (ta_pace0 (by omega) (by omega)) ?_
    refine jt_iret jm_m25 13 rfl ?_
    exact ⟨jt_ln (by rw [← ek1]; first | done | rfl), rfl⟩
  · refine jt_callp (w := .inl (nI 3)) jm_m25 12 (mi' := 35) (as := [.inr (.inr (1, 4, 0)), .inl (nI (g (37 + 5 * c))), .inl (nI t)]) (rest := []) (nxt := 21) rfl rfl jm_m35 rfl rfl (ta_pace4 (f := g (37 + 5 * c)) (t := t) (by omega) (by omega)) ?_
    refine jt_iret jm_m25 13 rfl ?_
    exact ⟨jt_ln (by rw [← ek1]; first | done | rfl), rfl⟩
  · refine jt_callp (w := .inl (nI (1 + g (37 + 5 * c) / 4))) jm_m25 12 (mi' := 1) (as := [.inr (.inr (1, 5, 0)), .inl (nI (g (37 + 5 * c))), .inl (nI t)]) (rest := []) (nxt := 21) rfl rfl jm_m1 rfl rfl (ta_pace0 (by omega) (by omega)) ?_
    refine jt_iret jm_m25 13 rfl ?_
    exact ⟨jt_ln (by rw [← ek1]; first | done | rfl), rfl⟩
  · refine jt_callp (w := .inl (nI (2 * (1 + g (37 + 5 * c) / 4 + 1)))) jm_m25 12 (mi' := 53) (as := [.inr (.inr (1, 6, 0)), .inl (nI (g (37 + 5 * c))), .inl (nI t)]) (rest := []) (nxt := 21) rfl rfl jm_m53 rfl rfl (ta_pace6 (by omega) (by omega)) ?_
    refine jt_iret jm_m25 13 rfl ?_
    exact ⟨jt_ln (by rw [← ek1]; first | done | rfl), rfl⟩
  · refine jt_callp (w := .inl (nI (if t % 3 = 0 then 1 else 0))) jm_m25 12 (mi' := 39) (as := [.inr (.inr (1, 7, 0)), .inl (nI (g (37 + 5 * c))), .inl (nI t)]) (rest := []) (nxt := 21) rfl rfl jm_m39 rfl rfl (ta_pace7 (f := g (37 + 5 * c)) (t := t) (by omega) (by omega)) ?_
    refine jt_iret jm_m25 13 rfl ?_
    exact ⟨jt_ln (by rw [← ek1]; first | done | rfl), rfl⟩
set_option maxHeartbeats 4000000 in
set_option maxRecDepth 20000 in
theorem ta_read {h : jm_M} {j : Nat} {g : Nat → Nat} (R : jf_rel h j g) (W : jw g) {c : Nat} (hc : c < 6) : jt_Pu 26 [.inr (.inr (2, j, 0)), .inl (nI c)] h (.inl (jm_b (sp_read g c))) := by
  show jt_T 26 (0, [(0, .inr (.inr (2, j, 0))), (1, .inl (nI c))], [], h) _
  refine jt_go jm_m26 0 4 (f' := (6, [(0, .inr (.inr (2, j, 0))), (1, .inl (nI c))], [.inl (h (2, j, 5) (nI c).toNatClampNeg)], h)) (P := vp_in (nI c) 6 ∧ True) rfl ⟨(vp_in_nI (by omega) (by decide)), trivial⟩ ?_
  refine jt_ti (show (h (2, j, 5) (nI c).toNatClampNeg) = nI (g (40 + 5 * c)) from jf_name R (c := c) (nI_clamp (by omega)) (by omega)) ?_
  have bq1 := jw_name W (c := c) (by omega)
  refine jt_go jm_m26 4 1 (f' := (8, [(0, .inr (.inr (2, j, 0))), (1, .inl (nI c))], [.inl (nI 9), .inl (nI (g (40 + 5 * c)))], h)) (P := True) rfl trivial ?_
  refine jt_niceq jm_m26 5 (a := g (40 + 5 * c)) (b := 9) (by omega) (by omega) (tgt := 38) (nxt := 11) rfl rfl rfl (fun c8 => ?_) (fun c8 => ?_)
  · refine jt_go jm_m26 21 1 (f' := (39, [(0, .inr (.inr (2, j, 0))), (1, .inl (nI c))], [.inl (nI 0)], h)) (P := True) rfl trivial ?_
    refine jt_zret jm_m26 22 rfl (Or.inl rfl) ?_
    exact ⟨jt_lb0 (fun z => z.1 c8), rfl⟩
  · refine jt_go jm_m26 6 6 (f' := (21, [(0, .inr (.inr (2, j, 0))), (1, .inl (nI c))], [.inl (h (2, j, 1) (nI c).toNatClampNeg), .inr (.inr (0, 0, 1))], h)) (P := vp_in (nI c) 6 ∧ True) rfl ⟨(vp_in_nI (by omega) (by decide)), trivial⟩ ?_
    refine jt_ti (show (h (2, j, 1) (nI c).toNatClampNeg) = nI (g (36 + 5 * c)) from jf_kind R (c := c) (nI_clamp (by omega)) (by omega)) ?_
    have bq2 := jw_kind W (c := c) (by omega)
    refine jt_go jm_m26 12 1 (f' := (22, [(0, .inr (.inr (2, j, 0))), (1, .inl (nI c))], [.inr (.inr (1, (nI (g (36 + 5 * c))).toNatClampNeg, 0))], h)) (P := vp_in (nI (g (36 + 5 * c))) 8 ∧ True) rfl ⟨(vp_in_nI (by omega) (by decide)), trivial⟩ ?_
    obtain ⟨k1, ek1⟩ : ∃ k : Nat, k = g (36 + 5 * c) := ⟨_, rfl⟩
    refine jt_tr (show ((1, (nI (g (36 + 5 * c))).toNatClampNeg, 0) : jm_K) = (1, k1, 0) by rw [ek1, nI_clamp (by omega)]) ?_
    refine jt_go jm_m26 13 4 (f' := (28, [(0, .inr (.inr (2, j, 0))), (1, .inl (nI c))], [.inl (h (2, j, 4) (nI c).toNatClampNeg), .inr (.inr (1, k1, 0))], h)) (P := vp_in (nI c) 6 ∧ True) rfl ⟨(vp_in_nI (by omega) (by decide)), trivial⟩ ?_
    refine jt_ti (show (h (2, j, 4) (nI c).toNatClampNeg) = nI (g (39 + 5 * c)) from jf_hair R (c := c) (nI_clamp (by omega)) (by omega)) ?_
    have bq3 := jw_hair W (c := c) (by omega)
    rcases jt_k8 (n := k1) (by omega) with rfl | rfl | rfl | rfl | rfl | rfl | rfl | rfl
    · refine jt_callp (w := .inl (jm_b (g (39 + 5 * c) < 48))) jm_m26 17 (mi' := 3) (as := [.inr (.inr (1, 0, 0)), .inl (nI (g (39 + 5 * c)))]) (rest := []) (nxt := 31) rfl rfl jm_m3 rfl rfl (ta_skin0 (by omega)) ?_
      refine jt_ifbeq jm_m26 18 (tgt := 38) (nxt := 34) rfl rfl rfl (fun c31 => ?_) (fun c31 => ?_)
      · refine jt_go jm_m26 21 1 (f' := (39, [(0, .inr (.inr (2, j, 0))), (1, .inl (nI c))], [.inl (nI 0)], h)) (P := True) rfl trivial ?_
        refine jt_zret jm_m26 22 rfl (Or.inl rfl) ?_
        exact ⟨jt_lb0 (by omega), rfl⟩
      · refine jt_go jm_m26 19 2 (f' := (39, [(0, .inr (.inr (2, j, 0))), (1, .inl (nI c))], [.inl (nI 1)], h)) (P := True) rfl trivial ?_
        refine jt_zret jm_m26 22 rfl (Or.inr rfl) ?_
        exact ⟨jt_lb1 (⟨c8, by omega⟩), rfl⟩
    · refine jt_callp (w := .inl (jm_b (g (39 + 5 * c) < 48))) jm_m26 17 (mi' := 3) (as := [.inr (.inr (1, 1, 0)), .inl (nI (g (39 + 5 * c)))]) (rest := []) (nxt := 31) rfl rfl jm_m3 rfl rfl (ta_skin0 (by omega)) ?_
      refine jt_ifbeq jm_m26 18 (tgt := 38) (nxt := 34) rfl rfl rfl (fun c31 => ?_) (fun c31 => ?_)
      · refine jt_go jm_m26 21 1 (f' := (39, [(0, .inr (.inr (2, j, 0))), (1, .inl (nI c))], [.inl (nI 0)], h)) (P := True) rfl trivial ?_
        refine jt_zret jm_m26 22 rfl (Or.inl rfl) ?_
        exact ⟨jt_lb0 (by omega), rfl⟩
      · refine jt_go jm_m26 19 2 (f' := (39, [(0, .inr (.inr (2, j, 0))), (1, .inl (nI c))], [.inl (nI 1)], h)) (P := True) rfl trivial ?_
        refine jt_zret jm_m26 22 rfl (Or.inr rfl) ?_
        exact ⟨jt_lb1 (⟨c8, by omega⟩), rfl⟩
    · refine jt_callp (w := .inl (jm_b (g (39 + 5 * c) < 48))) jm_m26 17 (mi' := 3) (as := [.inr (.inr (1, 2, 0)), .inl (nI (g (39 + 5 * c)))]) (rest := []) (nxt := 31) rfl rfl jm_m3 rfl rfl (ta_skin0 (by omega)) ?_
      refine jt_ifbeq jm_m26 18 (tgt := 38) (nxt := 34) rfl rfl rfl (fun c31 => ?_) (fun c31 => ?_)
      · refine jt_go jm_m26 21 1 (f' := (39, [(0, .inr (.inr (2, j, 0))), (1, .inl (nI c))], [.inl (nI 0)], h)) (P := True) rfl trivial ?_
        refine jt_zret jm_m26 22 rfl (Or.inl rfl) ?_
        exact ⟨jt_lb0 (by omega), rfl⟩
      · refine jt_go jm_m26 19 2 (f' := (39, [(0, .inr (.inr (2, j, 0))), (1, .inl (nI c))], [.inl (nI 1)], h)) (P := True) rfl trivial ?_
        refine jt_zret jm_m26 22 rfl (Or.inr rfl) ?_
        exact ⟨jt_lb1 (⟨c8, by omega⟩), rfl⟩
    · refine jt_callp (w := .inl (jm_b (g (39 + 5 * c) < 48))) jm_m26 17 (mi' := 3) (as := [.inr (.inr (1, 3, 0)), .inl (nI (g (39 + 5 * c)))]) (rest := []) (nxt := 31) rfl rfl jm_m3 rfl rfl (ta_skin0 (by omega)) ?_
      refine jt_ifbeq jm_m26 18 (tgt := 38) (nxt := 34) rfl rfl rfl (fun c31 => ?_) (fun c31 => ?_)
      · refine jt_go jm_m26 21 1 (f' := (39, [(0, .inr (.inr (2, j, 0))), (1, .inl (nI c))], [.inl (nI 0)], h)) (P := True) rfl trivial ?_
        refine jt_zret jm_m26 22 rfl (Or.inl rfl) ?_
        exact ⟨jt_lb0 (by omega), rfl⟩
      · refine jt_go jm_m26 19 2 (f' := (39, [(0, .inr (.inr (2, j, 0))), (1, .inl (nI c))], [.inl (nI 1)], h)) (P := True) rfl trivial ?_
        refine jt_zret jm_m26 22 rfl (Or.inr rfl) ?_
        exact ⟨jt_lb1 (⟨c8, by omega⟩), rfl⟩
    · refine jt_callp (w := .inl (jm_b (g (39 + 5 * c) < 48))) jm_m26 17 (mi' := 3) (as := [.inr (.inr (1, 4, 0)), .inl (nI (g (39 + 5 * c)))]) (rest := []) (nxt := 31) rfl rfl jm_m3 rfl rfl (ta_skin0 (by omega)) ?_
      refine jt_ifbeq jm_m26 18 (tgt := 38) (nxt := 34) rfl rfl rfl (fun c31 => ?_) (fun c31 => ?_)
      · refine jt_go jm_m26 21 1 (f' := (39, [(0, .inr (.inr (2, j, 0))), (1, .inl (nI c))], [.inl (nI 0)], h)) (P := True) rfl trivial ?_
        refine jt_zret jm_m26 22 rfl (Or.inl rfl) ?_
        exact ⟨jt_lb0 (by omega), rfl⟩
      · refine jt_go jm_m26 19 2 (f' := (39, [(0, .inr (.inr (2, j, 0))), (1, .inl (nI c))], [.inl (nI 1)], h)) (P := True) rfl trivial ?_
        refine jt_zret jm_m26 22 rfl (Or.inr rfl) ?_
        exact ⟨jt_lb1 (⟨c8, by omega⟩), rfl⟩
    · refine jt_callp (w := .inl (nI 1)) jm_m26 17 (mi' := 51) (as := [.inr (.inr (1, 5, 0)), .inl (nI (g (39 + 5 * c)))]) (rest := []) (nxt := 31) rfl rfl jm_m51 rfl rfl (ta_skin5) ?_
      refine jt_nifeq jm_m26 18 (by omega) (tgt := 38) (nxt := 34) rfl rfl rfl (fun c31 => ?_) (fun c31 => ?_)
      · exact absurd c31 (by decide)
      · refine jt_go jm_m26 19 2 (f' := (39, [(0, .inr (.inr (2, j, 0))), (1, .inl (nI c))], [.inl (nI 1)], h)) (P := True) rfl trivial ?_
        refine jt_zret jm_m26 22 rfl (Or.inr rfl) ?_
        exact ⟨jt_lb1 (⟨c8, by omega⟩), rfl⟩
    · refine jt_callp (w := .inl (jm_b (g (39 + 5 * c) < 48))) jm_m26 17 (mi' := 3) (as := [.inr (.inr (1, 6, 0)), .inl (nI (g (39 + 5 * c)))]) (rest := []) (nxt := 31) rfl rfl jm_m3 rfl rfl (ta_skin0 (by omega)) ?_
      refine jt_ifbeq jm_m26 18 (tgt := 38) (nxt := 34) rfl rfl rfl (fun c31 => ?_) (fun c31 => ?_)
      · refine jt_go jm_m26 21 1 (f' := (39, [(0, .inr (.inr (2, j, 0))), (1, .inl (nI c))], [.inl (nI 0)], h)) (P := True) rfl trivial ?_
        refine jt_zret jm_m26 22 rfl (Or.inl rfl) ?_
        exact ⟨jt_lb0 (by omega), rfl⟩
      · refine jt_go jm_m26 19 2 (f' := (39, [(0, .inr (.inr (2, j, 0))), (1, .inl (nI c))], [.inl (nI 1)], h)) (P := True) rfl trivial ?_
        refine jt_zret jm_m26 22 rfl (Or.inr rfl) ?_
        exact ⟨jt_lb1 (⟨c8, by omega⟩), rfl⟩
    · refine jt_callp (w := .inl (jm_b (g (39 + 5 * c) < 48))) jm_m26 17 (mi' := 3) (as := [.inr (.inr (1, 7, 0)), .inl (nI (g (39 + 5 * c)))]) (rest := []) (nxt := 31) rfl rfl jm_m3 rfl rfl (ta_skin0 (by omega)) ?_
      refine jt_ifbeq jm_m26 18 (tgt := 38) (nxt := 34) rfl rfl rfl (fun c31 => ?_) (fun c31 => ?_)
      · refine jt_go jm_m26 21 1 (f' := (39, [(0, .inr (.inr (2, j, 0))), (1, .inl (nI c))], [.inl (nI 0)], h)) (P := True) rfl trivial ?_
        refine jt_zret jm_m26 22 rfl (Or.inl rfl) ?_
        exact ⟨jt_lb0 (by omega), rfl⟩
      · refine jt_go jm_m26 19 2 (f' := (39, [(0, .inr (.inr (2, j, 0))), (1, .inl (nI c))], [.inl (nI 1)], h)) (P := True) rfl trivial ?_
        refine jt_zret jm_m26 22 rfl (Or.inr rfl) ?_
        exact ⟨jt_lb1 (⟨c8, by omega⟩), rfl⟩
set_option maxHeartbeats 4000000 in
set_option maxRecDepth 20000 in
theorem ta_grow {h : jm_M} {j : Nat} {g : Nat → Nat} (R : jf_rel h j g) (W : jw g) {c : Nat} (hc : c < 6) : jt_T 21 (0, [(0, .inr (.inr (2, j, 0))), (1, .inl (nI c))], [], h) (fun u h' => u = none ∧ jf_rel h' j (sp_hair g c) ∧ jf_fc j h h') := by
  refine jt_go jm_m21 0 8 (f' := (13, [(0, .inr (.inr (2, j, 0))), (1, .inl (nI c))], [.inl (h (2, j, 4) (nI c).toNatClampNeg), .inl (nI 99), .inl (nI c), .inr (.inr (2, j, 4))], h)) (P := vp_in (nI c) 6 ∧ True) rfl ⟨(vp_in_nI (by omega) (by decide)), trivial⟩ ?_
  refine jt_ti (show (h (2, j, 4) (nI c).toNatClampNeg) = nI (g (39 + 5 * c)) from jf_hair R (c := c) (nI_clamp (by omega)) (by omega)) ?_
  have bq1 := jw_hair W (c := c) (by omega)
  refine jt_go jm_m21 8 6 (f' := (23, [(0, .inr (.inr (2, j, 0))), (1, .inl (nI c))], [.inl (h (2, j, 1) (nI c).toNatClampNeg), .inr (.inr (0, 0, 1)), .inl (nI (g (39 + 5 * c))), .inl (nI 99), .inl (nI c), .inr (.inr (2, j, 4))], h)) (P := vp_in (nI c) 6 ∧ True) rfl ⟨(vp_in_nI (by omega) (by decide)), trivial⟩ ?_
  refine jt_ti (show (h (2, j, 1) (nI c).toNatClampNeg) = nI (g (36 + 5 * c)) from jf_kind R (c := c) (nI_clamp (by omega)) (by omega)) ?_
  have bq2 := jw_kind W (c := c) (by omega)
  refine jt_go jm_m21 14 1 (f' := (24, [(0, .inr (.inr (2, j, 0))), (1, .inl (nI c))], [.inr (.inr (1, (nI (g (36 + 5 * c))).toNatClampNeg, 0)), .inl (nI (g (39 + 5 * c))), .inl (nI 99), .inl (nI c), .inr (.inr (2, j, 4))], h)) (P := vp_in (nI (g (36 + 5 * c))) 8 ∧ True) rfl ⟨(vp_in_nI (by omega) (by decide)), trivial⟩ ?_
  obtain ⟨k1, ek1⟩ : ∃ k : Nat, k = g (36 + 5 * c) := ⟨_, rfl⟩
  refine jt_tr (show ((1, (nI (g (36 + 5 * c))).toNatClampNeg, 0) : jm_K) = (1, k1, 0) by rw [ek1, nI_clamp (by omega)]) ?_
  rcases jt_k8 (n := k1) (by omega) with rfl | rfl | rfl | rfl | rfl | rfl | rfl | rfl
  · refine jt_callp (w := .inl (nI 1)) jm_m21 15 (mi' := 2) (as := [.inr (.inr (1, 0, 0))]) (rest := [.inl (nI (g (39 + 5 * c))), .inl (nI 99), .inl (nI c), .inr (.inr (2, j, 4))]) (nxt := 27) rfl rfl jm_m2 rfl rfl (ta_grow0 (f := 0) (t := 0) (by decide) (by decide)) ?_
    refine jt_go jm_m21 16 1 (f' := (28, [(0, .inr (.inr (2, j, 0))), (1, .inl (nI c))], [.inl ((nI (g (39 + 5 * c))) + (nI 1)), .inl (nI 99), .inl (nI c), .inr (.inr (2, j, 4))], h)) (P := True) rfl trivial ?_
    refine jt_ti (show ((nI (g (39 + 5 * c))) + (nI 1)) = nI (g (39 + 5 * c) + 1) from nI_add _ _) ?_
    refine jt_go jm_m21 17 1 (f' := (31, [(0, .inr (.inr (2, j, 0))), (1, .inl (nI c))], [.inl (if (nI (g (39 + 5 * c) + 1)) < (nI 99) then (nI (g (39 + 5 * c) + 1)) else (nI 99)), .inl (nI c), .inr (.inr (2, j, 4))], h)) (P := True) rfl trivial ?_
    refine jt_ti (show (if (nI (g (39 + 5 * c) + 1)) < (nI 99) then (nI (g (39 + 5 * c) + 1)) else (nI 99)) = nI (min 99 (g (39 + 5 * c) + 1)) from jx_min (by omega) (by omega)) ?_
    refine jt_goM jm_m21 18 1 (pc' := 32) (L' := [(0, .inr (.inr (2, j, 0))), (1, .inl (nI c))]) (st' := []) (m' := jm_set h (2, j, 4) (upd (h (2, j, 4)) (nI c).toNatClampNeg (nI (min 99 (g (39 + 5 * c) + 1))))) (P := vp_in (nI c) 6 ∧ True) rfl ⟨(vp_in_nI (by omega) (by decide)), trivial⟩ (fun h1 eh1 => ?_)
    have Fh1 : jf_fc j h h1 := by rw [eh1]; exact jf_fc_setA jf_fc_rf ⟨Or.inl rfl, rfl⟩ (by simp)
    obtain ⟨gh1, egh1⟩ : ∃ y, y = sp_up g (39 + 5 * c) (min 99 (g (39 + 5 * c) + 1)) := ⟨_, rfl⟩
    have Rh1 : jf_rel h1 j gh1 := by rw [eh1, egh1]; exact jf_set_hair R (c := c) (w := min 99 (g (39 + 5 * c) + 1)) (nI_clamp (by omega)) (by omega) rfl
    refine jt_vret jm_m21 19 rfl ?_
    refine ⟨rfl, ?_, Fh1⟩
    have e : gh1 = sp_hair g c := egh1.trans (by unfold sp_hair; rw [← ek1]; first | done | rfl)
    rw [← e]
    exact Rh1
  · refine jt_callp (w := .inl (nI 1)) jm_m21 15 (mi' := 2) (as := [.inr (.inr (1, 1, 0))]) (rest := [.inl (nI (g (39 + 5 * c))), .inl (nI 99), .inl (nI c), .inr (.inr (2, j, 4))]) (nxt := 27) rfl rfl jm_m2 rfl rfl (ta_grow0 (f := 0) (t := 0) (by decide) (by decide)) ?_
    refine jt_go jm_m21 16 1 (f' := (28, [(0, .inr (.inr (2, j, 0))), (1, .inl (nI c))], [.inl ((nI (g (39 + 5 * c))) + (nI 1)), .inl (nI 99), .inl (nI c), .inr (.inr (2, j, 4))], h)) (P := True) rfl trivial ?_
    refine jt_ti (show ((nI (g (39 + 5 * c))) + (nI 1)) = nI (g (39 + 5 * c) + 1) from nI_add _ _) ?_
    refine jt_go jm_m21 17 1 (f' := (31, [(0, .inr (.inr (2, j, 0))), (1, .inl (nI c))], [.inl (if (nI (g (39 + 5 * c) + 1)) < (nI 99) then (nI (g (39 + 5 * c) + 1)) else (nI 99)), .inl (nI c), .inr (.inr (2, j, 4))], h)) (P := True) rfl trivial ?_
    refine jt_ti (show (if (nI (g (39 + 5 * c) + 1)) < (nI 99) then (nI (g (39 + 5 * c) + 1)) else (nI 99)) = nI (min 99 (g (39 + 5 * c) + 1)) from jx_min (by omega) (by omega)) ?_
    refine jt_goM jm_m21 18 1 (pc' := 32) (L' := [(0, .inr (.inr (2, j, 0))), (1, .inl (nI c))]) (st' := []) (m' := jm_set h (2, j, 4) (upd (h (2, j, 4)) (nI c).toNatClampNeg (nI (min 99 (g (39 + 5 * c) + 1))))) (P := vp_in (nI c) 6 ∧ True) rfl ⟨(vp_in_nI (by omega) (by decide)), trivial⟩ (fun h2 eh2 => ?_)
    have Fh2 : jf_fc j h h2 := by rw [eh2]; exact jf_fc_setA jf_fc_rf ⟨Or.inl rfl, rfl⟩ (by simp)
    obtain ⟨gh2, egh2⟩ : ∃ y, y = sp_up g (39 + 5 * c) (min 99 (g (39 + 5 * c) + 1)) := ⟨_, rfl⟩
    have Rh2 : jf_rel h2 j gh2 := by rw [eh2, egh2]; exact jf_set_hair R (c := c) (w := min 99 (g (39 + 5 * c) + 1)) (nI_clamp (by omega)) (by omega) rfl
    refine jt_vret jm_m21 19 rfl ?_
    refine ⟨rfl, ?_, Fh2⟩
    have e : gh2 = sp_hair g c := egh2.trans (by unfold sp_hair; rw [← ek1]; first | done | rfl)
    rw [← e]
    exact Rh2
  · refine jt_callp (w := .inl (nI 1)) jm_m21 15 (mi' := 2) (as := [.inr (.inr (1, 2, 0))]) (rest := [.inl (nI (g (39 + 5 * c))), .inl (nI 99), .inl (nI c), .inr (.inr (2, j, 4))]) (nxt := 27) rfl rfl jm_m2 rfl rfl (ta_grow0 (f := 0) (t := 0) (by decide) (by decide)) ?_
    refine jt_go jm_m21 16 1 (f' := (28, [(0, .inr (.inr (2, j, 0))), (1, .inl (nI c))], [.inl ((nI (g (39 + 5 * c))) + (nI 1)), .inl (nI 99), .inl (nI c), .inr (.inr (2, j, 4))], h)) (P := True) rfl trivial ?_
    refine jt_ti (show ((nI (g (39 + 5 * c))) + (nI 1)) = nI (g (39 + 5 * c) + 1) from nI_add _ _) ?_
    refine jt_go jm_m21 17 1 (f' := (31, [(0, .inr (.inr (2, j, 0))), (1, .inl (nI c))], [.inl (if (nI (g (39 + 5 * c) + 1)) < (nI 99) then (nI (g (39 + 5 * c) + 1)) else (nI 99)), .inl (nI c), .inr (.inr (2, j, 4))], h)) (P := True) rfl trivial ?_
    refine jt_ti (show (if (nI (g (39 + 5 * c) + 1)) < (nI 99) then (nI (g (39 + 5 * c) + 1)) else (nI 99)) = nI (min 99 (g (39 + 5 * c) + 1)) from jx_min (by omega) (by omega)) ?_
    refine jt_goM jm_m21 18 1 (pc' := 32) (L' := [(0, .inr (.inr (2, j, 0))), (1, .inl (nI c))]) (st' := []) (m' := jm_set h (2, j, 4) (upd (h (2, j, 4)) (nI c).toNatClampNeg (nI (min 99 (g (39 + 5 * c) + 1))))) (P := vp_in (nI c) 6 ∧ True) rfl ⟨(vp_in_nI (by omega) (by decide)), trivial⟩ (fun h3 eh3 => ?_)
    have Fh3 : jf_fc j h h3 := by rw [eh3]; exact jf_fc_setA jf_fc_rf ⟨Or.inl rfl, rfl⟩ (by simp)
    obtain ⟨gh3, egh3⟩ : ∃ y, y = sp_up g (39 + 5 * c) (min 99 (g (39 + 5 * c) + 1)) := ⟨_, rfl⟩
    have Rh3 : jf_rel h3 j gh3 := by rw [eh3, egh3]; exact jf_set_hair R (c := c) (w := min 99 (g (39 + 5 * c) + 1)) (nI_clamp (by omega)) (by omega) rfl
    refine jt_vret jm_m21 19 rfl ?_
    refine ⟨rfl, ?_, Fh3⟩
    have e : gh3 = sp_hair g c := egh3.trans (by unfold sp_hair; rw [← ek1]; first | done | rfl)
    rw [← e]
    exact Rh3
  · refine jt_callp (w := .inl (nI 2)) jm_m21 15 (mi' := 71) (as := [.inr (.inr (1, 3, 0))]) (rest := [.inl (nI (g (39 + 5 * c))), .inl (nI 99), .inl (nI c), .inr (.inr (2, j, 4))]) (nxt := 27) rfl rfl jm_m71 rfl rfl (ta_grow3 (f := 0) (t := 0) (by decide) (by decide)) ?_
    refine jt_go jm_m21 16 1 (f' := (28, [(0, .inr (.inr (2, j, 0))), (1, .inl (nI c))], [.inl ((nI (g (39 + 5 * c))) + (nI 2)), .inl (nI 99), .inl (nI c), .inr (.inr (2, j, 4))], h)) (P := True) rfl trivial ?_
    refine jt_ti (show ((nI (g (39 + 5 * c))) + (nI 2)) = nI (g (39 + 5 * c) + 2) from nI_add _ _) ?_
    refine jt_go jm_m21 17 1 (f' := (31, [(0, .inr (.inr (2, j, 0))), (1, .inl (nI c))], [.inl (if (nI (g (39 + 5 * c) + 2)) < (nI 99) then (nI (g (39 + 5 * c) + 2)) else (nI 99)), .inl (nI c), .inr (.inr (2, j, 4))], h)) (P := True) rfl trivial ?_
    refine jt_ti (show (if (nI (g (39 + 5 * c) + 2)) < (nI 99) then (nI (g (39 + 5 * c) + 2)) else (nI 99)) = nI (min 99 (g (39 + 5 * c) + 2)) from jx_min (by omega) (by omega)) ?_
    refine jt_goM jm_m21 18 1 (pc' := 32) (L' := [(0, .inr (.inr (2, j, 0))), (1, .inl (nI c))]) (st' := []) (m' := jm_set h (2, j, 4) (upd (h (2, j, 4)) (nI c).toNatClampNeg (nI (min 99 (g (39 + 5 * c) + 2))))) (P := vp_in (nI c) 6 ∧ True) rfl ⟨(vp_in_nI (by omega) (by decide)), trivial⟩ (fun h4 eh4 => ?_)
    have Fh4 : jf_fc j h h4 := by rw [eh4]; exact jf_fc_setA jf_fc_rf ⟨Or.inl rfl, rfl⟩ (by simp)
    obtain ⟨gh4, egh4⟩ : ∃ y, y = sp_up g (39 + 5 * c) (min 99 (g (39 + 5 * c) + 2)) := ⟨_, rfl⟩
    have Rh4 : jf_rel h4 j gh4 := by rw [eh4, egh4]; exact jf_set_hair R (c := c) (w := min 99 (g (39 + 5 * c) + 2)) (nI_clamp (by omega)) (by omega) rfl
    refine jt_vret jm_m21 19 rfl ?_
    refine ⟨rfl, ?_, Fh4⟩
    have e : gh4 = sp_hair g c := egh4.trans (by unfold sp_hair; rw [← ek1]; first | done | rfl)
    rw [← e]
    exact Rh4
  · refine jt_callp (w := .inl (nI 1)) jm_m21 15 (mi' := 2) (as := [.inr (.inr (1, 4, 0))]) (rest := [.inl (nI (g (39 + 5 * c))), .inl (nI 99), .inl (nI c), .inr (.inr (2, j, 4))]) (nxt := 27) rfl rfl jm_m2 rfl rfl (ta_grow0 (f := 0) (t := 0) (by decide) (by decide)) ?_
    refine jt_go jm_m21 16 1 (f' := (28, [(0, .inr (.inr (2, j, 0))), (1, .inl (nI c))], [.inl ((nI (g (39 + 5 * c))) + (nI 1)), .inl (nI 99), .inl (nI c), .inr (.inr (2, j, 4))], h)) (P := True) rfl trivial ?_
    refine jt_ti (show ((nI (g (39 + 5 * c))) + (nI 1)) = nI (g (39 + 5 * c) + 1) from nI_add _ _) ?_
    refine jt_go jm_m21 17 1 (f' := (31, [(0, .inr (.inr (2, j, 0))), (1, .inl (nI c))], [.inl (if (nI (g (39 + 5 * c) + 1)) < (nI 99) then (nI (g (39 + 5 * c) + 1)) else (nI 99)), .inl (nI c), .inr (.inr (2, j, 4))], h)) (P := True) rfl trivial ?_
    refine jt_ti (show (if (nI (g (39 + 5 * c) + 1)) < (nI 99) then (nI (g (39 + 5 * c) + 1)) else (nI 99)) = nI (min 99 (g (39 + 5 * c) + 1)) from jx_min (by omega) (by omega)) ?_
    refine jt_goM jm_m21 18 1 (pc' := 32) (L' := [(0, .inr (.inr (2, j, 0))), (1, .inl (nI c))]) (st' := []) (m' := jm_set h (2, j, 4) (upd (h (2, j, 4)) (nI c).toNatClampNeg (nI (min 99 (g (39 + 5 * c) + 1))))) (P := vp_in (nI c) 6 ∧ True) rfl ⟨(vp_in_nI (by omega) (by decide)), trivial⟩ (fun h5 eh5 => ?_)
    have Fh5 : jf_fc j h h5 := by rw [eh5]; exact jf_fc_setA jf_fc_rf ⟨Or.inl rfl, rfl⟩ (by simp)
    obtain ⟨gh5, egh5⟩ : ∃ y, y = sp_up g (39 + 5 * c) (min 99 (g (39 + 5 * c) + 1)) := ⟨_, rfl⟩
    have Rh5 : jf_rel h5 j gh5 := by rw [eh5, egh5]; exact jf_set_hair R (c := c) (w := min 99 (g (39 + 5 * c) + 1)) (nI_clamp (by omega)) (by omega) rfl
    refine jt_vret jm_m21 19 rfl ?_
    refine ⟨rfl, ?_, Fh5⟩
    have e : gh5 = sp_hair g c := egh5.trans (by unfold sp_hair; rw [← ek1]; first | done | rfl)
    rw [← e]
    exact Rh5
  · refine jt_callp (w := .inl (nI 0)) jm_m21 15 (mi' := 50) (as := [.inr (.inr (1, 5, 0))]) (rest := [.inl (nI (g (39 + 5 * c))), .inl (nI 99), .inl (nI c), .inr (.inr (2, j, 4))]) (nxt := 27) rfl rfl jm_m50 rfl rfl (ta_grow5 (f := 0) (t := 0) (by decide) (by decide)) ?_
    refine jt_go jm_m21 16 1 (f' := (28, [(0, .inr (.inr (2, j, 0))), (1, .inl (nI c))], [.inl ((nI (g (39 + 5 * c))) + (nI 0)), .inl (nI 99), .inl (nI c), .inr (.inr (2, j, 4))], h)) (P := True) rfl trivial ?_
    refine jt_ti (show ((nI (g (39 + 5 * c))) + (nI 0)) = nI (g (39 + 5 * c)) from Int32.add_zero _) ?_
    refine jt_go jm_m21 17 1 (f' := (31, [(0, .inr (.inr (2, j, 0))), (1, .inl (nI c))], [.inl (if (nI (g (39 + 5 * c))) < (nI 99) then (nI (g (39 + 5 * c))) else (nI 99)), .inl (nI c), .inr (.inr (2, j, 4))], h)) (P := True) rfl trivial ?_
    refine jt_ti (show (if (nI (g (39 + 5 * c))) < (nI 99) then (nI (g (39 + 5 * c))) else (nI 99)) = nI (min 99 (g (39 + 5 * c))) from jx_min (by omega) (by omega)) ?_
    refine jt_goM jm_m21 18 1 (pc' := 32) (L' := [(0, .inr (.inr (2, j, 0))), (1, .inl (nI c))]) (st' := []) (m' := jm_set h (2, j, 4) (upd (h (2, j, 4)) (nI c).toNatClampNeg (nI (min 99 (g (39 + 5 * c)))))) (P := vp_in (nI c) 6 ∧ True) rfl ⟨(vp_in_nI (by omega) (by decide)), trivial⟩ (fun h6 eh6 => ?_)
    have Fh6 : jf_fc j h h6 := by rw [eh6]; exact jf_fc_setA jf_fc_rf ⟨Or.inl rfl, rfl⟩ (by simp)
    obtain ⟨gh6, egh6⟩ : ∃ y, y = sp_up g (39 + 5 * c) (min 99 (g (39 + 5 * c))) := ⟨_, rfl⟩
    have Rh6 : jf_rel h6 j gh6 := by rw [eh6, egh6]; exact jf_set_hair R (c := c) (w := min 99 (g (39 + 5 * c))) (nI_clamp (by omega)) (by omega) rfl
    refine jt_vret jm_m21 19 rfl ?_
    refine ⟨rfl, ?_, Fh6⟩
    have e : gh6 = sp_hair g c := egh6.trans (by unfold sp_hair; rw [← ek1]; first | done | rfl)
    rw [← e]
    exact Rh6
  · refine jt_callp (w := .inl (nI 1)) jm_m21 15 (mi' := 2) (as := [.inr (.inr (1, 6, 0))]) (rest := [.inl (nI (g (39 + 5 * c))), .inl (nI 99), .inl (nI c), .inr (.inr (2, j, 4))]) (nxt := 27) rfl rfl jm_m2 rfl rfl (ta_grow0 (f := 0) (t := 0) (by decide) (by decide)) ?_
    refine jt_go jm_m21 16 1 (f' := (28, [(0, .inr (.inr (2, j, 0))), (1, .inl (nI c))], [.inl ((nI (g (39 + 5 * c))) + (nI 1)), .inl (nI 99), .inl (nI c), .inr (.inr (2, j, 4))], h)) (P := True) rfl trivial ?_
    refine jt_ti (show ((nI (g (39 + 5 * c))) + (nI 1)) = nI (g (39 + 5 * c) + 1) from nI_add _ _) ?_
    refine jt_go jm_m21 17 1 (f' := (31, [(0, .inr (.inr (2, j, 0))), (1, .inl (nI c))], [.inl (if (nI (g (39 + 5 * c) + 1)) < (nI 99) then (nI (g (39 + 5 * c) + 1)) else (nI 99)), .inl (nI c), .inr (.inr (2, j, 4))], h)) (P := True) rfl trivial ?_
    refine jt_ti (show (if (nI (g (39 + 5 * c) + 1)) < (nI 99) then (nI (g (39 + 5 * c) + 1)) else (nI 99)) = nI (min 99 (g (39 + 5 * c) + 1)) from jx_min (by omega) (by omega)) ?_
    refine jt_goM jm_m21 18 1 (pc' := 32) (L' := [(0, .inr (.inr (2, j, 0))), (1, .inl (nI c))]) (st' := []) (m' := jm_set h (2, j, 4) (upd (h (2, j, 4)) (nI c).toNatClampNeg (nI (min 99 (g (39 + 5 * c) + 1))))) (P := vp_in (nI c) 6 ∧ True) rfl ⟨(vp_in_nI (by omega) (by decide)), trivial⟩ (fun h7 eh7 => ?_)
    have Fh7 : jf_fc j h h7 := by rw [eh7]; exact jf_fc_setA jf_fc_rf ⟨Or.inl rfl, rfl⟩ (by simp)
    obtain ⟨gh7, egh7⟩ : ∃ y, y = sp_up g (39 + 5 * c) (min 99 (g (39 + 5 * c) + 1)) := ⟨_, rfl⟩
    have Rh7 : jf_rel h7 j gh7 := by rw [eh7, egh7]; exact jf_set_hair R (c := c) (w := min 99 (g (39 + 5 * c) + 1)) (nI_clamp (by omega)) (by omega) rfl
    refine jt_vret jm_m21 19 rfl ?_
    refine ⟨rfl, ?_, Fh7⟩
    have e : gh7 = sp_hair g c := egh7.trans (by unfold sp_hair; rw [← ek1]; first | done | rfl)
    rw [← e]
    exact Rh7
  · refine jt_callp (w := .inl (nI 1)) jm_m21 15 (mi' := 2) (as := [.inr (.inr (1, 7, 0))]) (rest := [.inl (nI (g (39 + 5 * c))), .inl (nI 99), .inl (nI c), .inr (.inr (2, j, 4))]) (nxt := 27) rfl rfl jm_m2 rfl rfl (ta_grow0 (f := 0) (t := 0) (by decide) (by decide)) ?_
    refine jt_go jm_m21 16 1 (f' := (28, [(0, .inr (.inr (2, j, 0))), (1, .inl (nI c))], [.inl ((nI (g (39 + 5 * c))) + (nI 1)), .inl (nI 99), .inl (nI c), .inr (.inr (2, j, 4))], h)) (P := True) rfl trivial ?_
    refine jt_ti (show ((nI (g (39 + 5 * c))) + (nI 1)) = nI (g (39 + 5 * c) + 1) from nI_add _ _) ?_
    refine jt_go jm_m21 17 1 (f' := (31, [(0, .inr (.inr (2, j, 0))), (1, .inl (nI c))], [.inl (if (nI (g (39 + 5 * c) + 1)) < (nI 99) then (nI (g (39 + 5 * c) + 1)) else (nI 99)), .inl (nI c), .inr (.inr (2, j, 4))], h)) (P := True) rfl trivial ?_
    refine jt_ti (show (if (nI (g (39 + 5 * c) + 1)) < (nI 99) then (nI (g (39 + 5 * c) + 1)) else (nI 99)) = nI (min 99 (g (39 + 5 * c) + 1)) from jx_min (by omega) (by omega)) ?_
    refine jt_goM jm_m21 18 1 (pc' := 32) (L' := [(0, .inr (.inr (2, j, 0))), (1, .inl (nI c))]) (st' := []) (m' := jm_set h (2, j, 4) (upd (h (2, j, 4)) (nI c).toNatClampNeg (nI (min 99 (g (39 + 5 * c) + 1))))) (P := vp_in (nI c) 6 ∧ True) rfl ⟨(vp_in_nI (by omega) (by decide)), trivial⟩ (fun h8 eh8 => ?_)
    have Fh8 : jf_fc j h h8 := by rw [eh8]; exact jf_fc_setA jf_fc_rf ⟨Or.inl rfl, rfl⟩ (by simp)
    obtain ⟨gh8, egh8⟩ : ∃ y, y = sp_up g (39 + 5 * c) (min 99 (g (39 + 5 * c) + 1)) := ⟨_, rfl⟩
    have Rh8 : jf_rel h8 j gh8 := by rw [eh8, egh8]; exact jf_set_hair R (c := c) (w := min 99 (g (39 + 5 * c) + 1)) (nI_clamp (by omega)) (by omega) rfl
    refine jt_vret jm_m21 19 rfl ?_
    refine ⟨rfl, ?_, Fh8⟩
    have e : gh8 = sp_hair g c := egh8.trans (by unfold sp_hair; rw [← ek1]; first | done | rfl)
    rw [← e]
    exact Rh8
theorem jt_cut {mi : Nat} {f f2 : jm_F} {Q : Option jm_V → jm_M → Prop} (ha : jt_T mi f2 Q → jt_T mi f Q) (hb : jt_T mi f2 Q) : jt_T mi f Q := ha hb
set_option maxHeartbeats 4000000 in
set_option maxRecDepth 20000 in
theorem ta_hour_b {h : jm_M} {j : Nat} {g : Nat → Nat} (R : jf_rel h j g) (W : jw g) {c : Nat} (hc : c < g 0) {Q : Option jm_V → jm_M → Prop} (nx : ∀ h1, jf_rel h1 j (sp_move g c) → jf_fc j h h1 → jt_T 18 (112, [(0, .inr (.inr (2, j, 0))), (1, .inl (nI c)), (3, .inl (nI (g (38 + 5 * c)))), (6, .inl (nI (sp_toc g c)))], [], h1) Q) : jt_T 18 (15, [(0, .inr (.inr (2, j, 0))), (1, .inl (nI c))], [], h) (Q) := by
  have bn := jw_n W
  have bm := jw_m W
  have bt := jw_t W
  have bs := sp_toc_lt W hc
  have bg : sp_goal g c < 16 := sp_goalK_lt W hc _
  have bp : sp_pace (g (36 + 5 * c)) (g (37 + 5 * c)) (g 2) ≤ 8 := sp_pace_le (jw_fig W (by omega))
  have ba := jw_at W (c := c) (by omega)
  refine jt_go jm_m18 9 6 (f' := (25, [(0, .inr (.inr (2, j, 0))), (1, .inl (nI c))], [.inl (h (2, j, 1) (nI c).toNatClampNeg), .inr (.inr (0, 0, 1))], h)) (P := vp_in (nI c) 6 ∧ True) rfl ⟨(vp_in_nI (by omega) (by decide)), trivial⟩ ?_
  refine jt_ti (show (h (2, j, 1) (nI c).toNatClampNeg) = nI (g (36 + 5 * c)) from jf_kind R (c := c) (nI_clamp (by omega)) (by omega)) ?_
  have bq1 := jw_kind W (c := c) (by omega)
  refine jt_go jm_m18 15 1 (f' := (26, [(0, .inr (.inr (2, j, 0))), (1, .inl (nI c))], [.inr (.inr (1, (nI (g (36 + 5 * c))).toNatClampNeg, 0))], h)) (P := vp_in (nI (g (36 + 5 * c))) 8 ∧ True) rfl ⟨(vp_in_nI (by omega) (by decide)), trivial⟩ ?_
  obtain ⟨k1, ek1⟩ : ∃ k : Nat, k = g (36 + 5 * c) := ⟨_, rfl⟩
  refine jt_tr (show ((1, (nI (g (36 + 5 * c))).toNatClampNeg, 0) : jm_K) = (1, k1, 0) by rw [ek1, nI_clamp (by omega)]) ?_
  refine jt_go jm_m18 16 5 (f' := (33, [(2, .inr (.inr (1, k1, 0))), (0, .inr (.inr (2, j, 0))), (1, .inl (nI c))], [.inl (h (2, j, 3) (nI c).toNatClampNeg)], h)) (P := vp_in (nI c) 6 ∧ True) rfl ⟨(vp_in_nI (by omega) (by decide)), trivial⟩ ?_
  refine jt_ti (show (h (2, j, 3) (nI c).toNatClampNeg) = nI (g (38 + 5 * c)) from jf_at R (c := c) (nI_clamp (by omega)) (by omega)) ?_
  have bq2 := jw_at W (c := c) (by omega)
  refine jt_go jm_m18 21 6 (f' := (41, [(3, .inl (nI (g (38 + 5 * c)))), (2, .inr (.inr (1, k1, 0))), (0, .inr (.inr (2, j, 0))), (1, .inl (nI c))], [.inl (h (2, j, 2) (nI c).toNatClampNeg), .inr (.inr (1, k1, 0))], h)) (P := vp_in (nI c) 6 ∧ True) rfl ⟨(vp_in_nI (by omega) (by decide)), trivial⟩ ?_
  refine jt_ti (show (h (2, j, 2) (nI c).toNatClampNeg) = nI (g (37 + 5 * c)) from jf_fig R (c := c) (nI_clamp (by omega)) (by omega)) ?_
  have bq3 := jw_fig W (c := c) (by omega)
  refine jt_go jm_m18 27 2 (f' := (45, [(3, .inl (nI (g (38 + 5 * c)))), (2, .inr (.inr (1, k1, 0))), (0, .inr (.inr (2, j, 0))), (1, .inl (nI c))], [.inl (h (2, j, 0) 11), .inl (nI (g (37 + 5 * c))), .inr (.inr (1, k1, 0))], h)) (P := True) rfl trivial ?_
  refine jt_ti (show (h (2, j, 0) 11) = nI (g 2) from jf_hour R) ?_
  have bq4 := jw_t W
  refine jt_cut (f2 := (48, [(3, .inl (nI (g (38 + 5 * c)))), (2, .inr (.inr (1, k1, 0))), (0, .inr (.inr (2, j, 0))), (1, .inl (nI c))], [.inl (nI (sp_pace (g (36 + 5 * c)) (g (37 + 5 * c)) (g 2)))], h)) (fun kk => ?_) ?_
  · rcases jt_k8 (n := k1) (by omega) with rfl | rfl | rfl | rfl | rfl | rfl | rfl | rfl
    · refine jt_callp (w := .inl (nI (1 + g (37 + 5 * c) / 4))) jm_m18 29 (mi' := 1) (as := [.inr (.inr (1, 0, 0)), .inl (nI (g (37 + 5 * c))), .inl (nI (g 2))]) (rest := []) (nxt := 48) rfl rfl jm_m1 rfl rfl (ta_pace0 (by omega) (by omega)) ?_
      refine jt_ti (show nI (1 + g (37 + 5 * c) / 4) = nI (sp_pace (g (36 + 5 * c)) (g (37 + 5 * c)) (g 2)) from by rw [← ek1]; first | done | rfl) ?_
      exact kk
    · refine jt_callp (w := .inl (nI (1 + g (37 + 5 * c) / 4))) jm_m18 29 (mi' := 1) (as := [.inr (.inr (1, 1, 0)), .inl (nI (g (37 + 5 * c))), .inl (nI (g 2))]) (rest := []) (nxt := 48) rfl rfl jm_m1 rfl rfl (ta_pace0 (by omega) (by omega)) ?_
      refine jt_ti (show nI (1 + g (37 + 5 * c) / 4) = nI (sp_pace (g (36 + 5 * c)) (g (37 + 5 * c)) (g 2)) from by rw [← ek1]; first | done | rfl) ?_
      exact kk
    · refine jt_callp (w := .inl (nI (1 + g (37 + 5 * c) / 4 + 1))) jm_m18 29 (mi' := 67) (as := [.inr (.inr (1, 2, 0)), .inl (nI (g (37 + 5 * c))), .inl (nI (g 2))]) (rest := []) (nxt := 48) rfl rfl jm_m67 rfl rfl (ta_pace2_2 (by omega) (by omega)) ?_
      refine jt_ti (show nI (1 + g (37 + 5 * c) / 4 + 1) = nI (sp_pace (g (36 + 5 * c)) (g (37 + 5 * c)) (g 2)) from by rw [← ek1]; first | done | rfl) ?_
      exact kk
    · refine jt_callp (w := .inl (nI (1 + g (37 + 5 * c) / 4))) jm_m18 29 (mi' := 1) (as := [.inr (.inr (1, 3, 0)), .inl (nI (g (37 + 5 * c))), .inl (nI (g 2))]) (rest := []) (nxt := 48) rfl rfl jm_m1 rfl rfl (ta_pace0 (by omega) (by omega)) ?_
      refine jt_ti (show nI (1 + g (37 + 5 * c) / 4) = nI (sp_pace (g (36 + 5 * c)) (g (37 + 5 * c)) (g 2)) from by rw [← ek1]; first | done | rfl) ?_
      exact kk
    · refine jt_callp (w := .inl (nI 3)) jm_m18 29 (mi' := 35) (as := [.inr (.inr (1, 4, 0)), .inl (nI (g (37 + 5 * c))), .inl (nI (g 2))]) (rest := []) (nxt := 48) rfl rfl jm_m35 rfl rfl (ta_pace4 (f := g (37 + 5 * c)) (t := g 2) (by omega) (by omega)) ?_
      refine jt_ti (show nI 3 = nI (sp_pace (g (36 + 5 * c)) (g (37 + 5 * c)) (g 2)) from by rw [← ek1]; first | done | rfl) ?_
      exact kk
    · refine jt_callp (w := .inl (nI (1 + g (37 + 5 * c) / 4))) jm_m18 29 (mi' := 1) (as := [.inr (.inr (1, 5, 0)), .inl (nI (g (37 + 5 * c))), .inl (nI (g 2))]) (rest := []) (nxt := 48) rfl rfl jm_m1 rfl rfl (ta_pace0 (by omega) (by omega)) ?_
      refine jt_ti (show nI (1 + g (37 + 5 * c) / 4) = nI (sp_pace (g (36 + 5 * c)) (g (37 + 5 * c)) (g 2)) from by rw [← ek1]; first | done | rfl) ?_
      exact kk
    · refine jt_callp (w := .inl (nI (2 * (1 + g (37 + 5 * c) / 4 + 1)))) jm_m18 29 (mi' := 53) (as := [.inr (.inr (1, 6, 0)), .inl (nI (g (37 + 5 * c))), .inl (nI (g 2))]) (rest := []) (nxt := 48) rfl rfl jm_m53 rfl rfl (ta_pace6 (by omega) (by omega)) ?_
      refine jt_ti (show nI (2 * (1 + g (37 + 5 * c) / 4 + 1)) = nI (sp_pace (g (36 + 5 * c)) (g (37 + 5 * c)) (g 2)) from by rw [← ek1]; first | done | rfl) ?_
      exact kk
    · refine jt_callp (w := .inl (nI (if g 2 % 3 = 0 then 1 else 0))) jm_m18 29 (mi' := 39) (as := [.inr (.inr (1, 7, 0)), .inl (nI (g (37 + 5 * c))), .inl (nI (g 2))]) (rest := []) (nxt := 48) rfl rfl jm_m39 rfl rfl (ta_pace7 (f := g (37 + 5 * c)) (t := g 2) (by omega) (by omega)) ?_
      refine jt_ti (show nI (if g 2 % 3 = 0 then 1 else 0) = nI (sp_pace (g (36 + 5 * c)) (g (37 + 5 * c)) (g 2)) from by rw [← ek1]; first | done | rfl) ?_
      exact kk
  refine jt_go jm_m18 30 4 (f' := (53, [(4, .inl (nI (sp_pace (g (36 + 5 * c)) (g (37 + 5 * c)) (g 2)))), (3, .inl (nI (g (38 + 5 * c)))), (2, .inr (.inr (1, k1, 0))), (0, .inr (.inr (2, j, 0))), (1, .inl (nI c))], [.inl (nI c), .inr (.inr (2, j, 0)), .inr (.inr (1, k1, 0))], h)) (P := True) rfl trivial ?_
  refine jt_cut (f2 := (56, [(4, .inl (nI (sp_pace (g (36 + 5 * c)) (g (37 + 5 * c)) (g 2)))), (3, .inl (nI (g (38 + 5 * c)))), (2, .inr (.inr (1, k1, 0))), (0, .inr (.inr (2, j, 0))), (1, .inl (nI c))], [.inl (nI (sp_goal g c))], h)) (fun kk => ?_) ?_
  · rcases jt_k8 (n := k1) (by omega) with rfl | rfl | rfl | rfl | rfl | rfl | rfl | rfl
    · refine jt_callp (w := .inl (nI (sp_rich g 4 (g (38 + 5 * c)) 16))) jm_m18 34 (mi' := 0) (as := [.inr (.inr (1, 0, 0)), .inr (.inr (2, j, 0)), .inl (nI c)]) (rest := []) (nxt := 56) rfl rfl jm_m0 rfl rfl (ta_goal0 R W hc) ?_
      refine jt_ti (show nI (sp_rich g 4 (g (38 + 5 * c)) 16) = nI (sp_goal g c) from by unfold sp_goal; rw [← ek1]; first | done | rfl) ?_
      exact kk
    · refine jt_callp (w := .inl (nI (sp_rich g 20 (g (38 + 5 * c)) 16))) jm_m18 34 (mi' := 37) (as := [.inr (.inr (1, 1, 0)), .inr (.inr (2, j, 0)), .inl (nI c)]) (rest := []) (nxt := 56) rfl rfl jm_m37 rfl rfl (ta_goal1 R W hc) ?_
      refine jt_ti (show nI (sp_rich g 20 (g (38 + 5 * c)) 16) = nI (sp_goal g c) from by unfold sp_goal; rw [← ek1]; first | done | rfl) ?_
      exact kk
    · refine jt_callp (w := .inl (nI (g (38 + 5 * (sp_near g c (g 0)).1)))) jm_m18 34 (mi' := 66) (as := [.inr (.inr (1, 2, 0)), .inr (.inr (2, j, 0)), .inl (nI c)]) (rest := []) (nxt := 56) rfl rfl jm_m66 rfl rfl (ta_goal2 R W hc) ?_
      refine jt_ti (show nI (g (38 + 5 * (sp_near g c (g 0)).1)) = nI (sp_goal g c) from by unfold sp_goal; rw [← ek1]; first | done | rfl) ?_
      exact kk
    · refine jt_callp (w := .inl (nI (g (38 + 5 * c)))) jm_m18 34 (mi' := 70) (as := [.inr (.inr (1, 3, 0)), .inr (.inr (2, j, 0)), .inl (nI c)]) (rest := []) (nxt := 56) rfl rfl jm_m70 rfl rfl (ta_goal3 R W hc) ?_
      refine jt_ti (show nI (g (38 + 5 * c)) = nI (sp_goal g c) from by unfold sp_goal; rw [← ek1]; first | done | rfl) ?_
      exact kk
    · refine jt_callp (w := .inl (nI (if g 2 % 2 = 0 then 15 - g (38 + 5 * c) else g (38 + 5 * c)))) jm_m18 34 (mi' := 34) (as := [.inr (.inr (1, 4, 0)), .inr (.inr (2, j, 0)), .inl (nI c)]) (rest := []) (nxt := 56) rfl rfl jm_m34 rfl rfl (ta_goal4 R W hc) ?_
      refine jt_ti (show nI (if g 2 % 2 = 0 then 15 - g (38 + 5 * c) else g (38 + 5 * c)) = nI (sp_goal g c) from by unfold sp_goal; rw [← ek1]; first | done | rfl) ?_
      exact kk
    · refine jt_callp (w := .inl (nI (if 20 ≤ g 2 ∨ g 2 ≤ 4 then sp_rich g 4 (g (38 + 5 * c)) 16 else g (38 + 5 * c)))) jm_m18 34 (mi' := 49) (as := [.inr (.inr (1, 5, 0)), .inr (.inr (2, j, 0)), .inl (nI c)]) (rest := []) (nxt := 56) rfl rfl jm_m49 rfl rfl (ta_goal5 R W hc) ?_
      refine jt_ti (show nI (if 20 ≤ g 2 ∨ g 2 ≤ 4 then sp_rich g 4 (g (38 + 5 * c)) 16 else g (38 + 5 * c)) = nI (sp_goal g c) from by unfold sp_goal; rw [← ek1]; first | done | rfl) ?_
      exact kk
    · refine jt_callp (w := .inl (nI (g (38 + 5 * (sp_near g c (g 0)).1)))) jm_m18 34 (mi' := 66) (as := [.inr (.inr (1, 6, 0)), .inr (.inr (2, j, 0)), .inl (nI c)]) (rest := []) (nxt := 56) rfl rfl jm_m66 rfl rfl (ta_goal2 R W hc) ?_
      refine jt_ti (show nI (g (38 + 5 * (sp_near g c (g 0)).1)) = nI (sp_goal g c) from by unfold sp_goal; rw [← ek1]; first | done | rfl) ?_
      exact kk
    · refine jt_callp (w := .inl (nI (sp_rich g 4 (g (38 + 5 * c)) 16))) jm_m18 34 (mi' := 0) (as := [.inr (.inr (1, 7, 0)), .inr (.inr (2, j, 0)), .inl (nI c)]) (rest := []) (nxt := 56) rfl rfl jm_m0 rfl rfl (ta_goal0 R W hc) ?_
      refine jt_ti (show nI (sp_rich g 4 (g (38 + 5 * c)) 16) = nI (sp_goal g c) from by unfold sp_goal; rw [← ek1]; first | done | rfl) ?_
      exact kk
  refine jt_go jm_m18 35 11 (f' := (75, [(5, .inl ((nI (sp_goal g c)) - (nI (g (38 + 5 * c))))), (4, .inl (nI (sp_pace (g (36 + 5 * c)) (g (37 + 5 * c)) (g 2)))), (3, .inl (nI (g (38 + 5 * c)))), (2, .inr (.inr (1, k1, 0))), (0, .inr (.inr (2, j, 0))), (1, .inl (nI c))], [.inl ((nI (g (38 + 5 * c))) + (if (-(nI (sp_pace (g (36 + 5 * c)) (g (37 + 5 * c)) (g 2)))) < (if ((nI (sp_goal g c)) - (nI (g (38 + 5 * c)))) < (nI (sp_pace (g (36 + 5 * c)) (g (37 + 5 * c)) (g 2))) then ((nI (sp_goal g c)) - (nI (g (38 + 5 * c)))) else (nI (sp_pace (g (36 + 5 * c)) (g (37 + 5 * c)) (g 2)))) then (if ((nI (sp_goal g c)) - (nI (g (38 + 5 * c)))) < (nI (sp_pace (g (36 + 5 * c)) (g (37 + 5 * c)) (g 2))) then ((nI (sp_goal g c)) - (nI (g (38 + 5 * c)))) else (nI (sp_pace (g (36 + 5 * c)) (g (37 + 5 * c)) (g 2)))) else (-(nI (sp_pace (g (36 + 5 * c)) (g (37 + 5 * c)) (g 2))))))], h)) (P := True) rfl trivial ?_
  refine jt_ti (show ((nI (g (38 + 5 * c))) + (if (-(nI (sp_pace (g (36 + 5 * c)) (g (37 + 5 * c)) (g 2)))) < (if ((nI (sp_goal g c)) - (nI (g (38 + 5 * c)))) < (nI (sp_pace (g (36 + 5 * c)) (g (37 + 5 * c)) (g 2))) then ((nI (sp_goal g c)) - (nI (g (38 + 5 * c)))) else (nI (sp_pace (g (36 + 5 * c)) (g (37 + 5 * c)) (g 2)))) then (if ((nI (sp_goal g c)) - (nI (g (38 + 5 * c)))) < (nI (sp_pace (g (36 + 5 * c)) (g (37 + 5 * c)) (g 2))) then ((nI (sp_goal g c)) - (nI (g (38 + 5 * c)))) else (nI (sp_pace (g (36 + 5 * c)) (g (37 + 5 * c)) (g 2)))) else (-(nI (sp_pace (g (36 + 5 * c)) (g (37 + 5 * c)) (g 2)))))) = nI (sp_toc g c) from jx_to16 _ (by omega) _ (by omega) _ (by omega)) ?_
  refine jt_goM jm_m18 46 6 (pc' := 85) (L' := [(6, .inl (nI (sp_toc g c))), (5, .inl ((nI (sp_goal g c)) - (nI (g (38 + 5 * c))))), (4, .inl (nI (sp_pace (g (36 + 5 * c)) (g (37 + 5 * c)) (g 2)))), (3, .inl (nI (g (38 + 5 * c)))), (2, .inr (.inr (1, k1, 0))), (0, .inr (.inr (2, j, 0))), (1, .inl (nI c))]) (st' := []) (m' := jm_set h (2, j, 3) (upd (h (2, j, 3)) (nI c).toNatClampNeg (nI (sp_toc g c)))) (P := vp_in (nI c) 6 ∧ True) rfl ⟨(vp_in_nI (by omega) (by decide)), trivial⟩ (fun h1 eh1 => ?_)
  have Fh1 : jf_fc j h h1 := by rw [eh1]; exact jf_fc_setA jf_fc_rf ⟨Or.inl rfl, rfl⟩ (by simp)
  obtain ⟨gh1, egh1⟩ : ∃ y, y = sp_up g (38 + 5 * c) (sp_toc g c) := ⟨_, rfl⟩
  have Rh1 : jf_rel h1 j gh1 := by rw [eh1, egh1]; exact jf_set_at R (c := c) (w := sp_toc g c) (nI_clamp (by omega)) (by omega) rfl
  refine jt_go jm_m18 52 2 (f' := (88, [(6, .inl (nI (sp_toc g c))), (5, .inl ((nI (sp_goal g c)) - (nI (g (38 + 5 * c))))), (4, .inl (nI (sp_pace (g (36 + 5 * c)) (g (37 + 5 * c)) (g 2)))), (3, .inl (nI (g (38 + 5 * c)))), (2, .inr (.inr (1, k1, 0))), (0, .inr (.inr (2, j, 0))), (1, .inl (nI c))], [.inl (nI (g (38 + 5 * c))), .inl (nI (sp_toc g c))], h1)) (P := True) rfl trivial ?_
  refine jt_niceq jm_m18 54 (a := sp_toc g c) (b := g (38 + 5 * c)) (by omega) (by omega) (tgt := 112) (nxt := 91) rfl rfl rfl (fun c88 => ?_) (fun c88 => ?_)
  · refine jt_pick (L' := [(0, .inr (.inr (2, j, 0))), (1, .inl (nI c)), (3, .inl (nI (g (38 + 5 * c)))), (6, .inl (nI (sp_toc g c)))]) [5, 6, 3, 0] rfl ?_
    have e : gh1 = sp_move g c := by rw [egh1]; unfold sp_move; rw [if_pos c88]; exact sp_up_self c88
    exact nx h1 (by rw [← e]; exact Rh1) Fh1
  · refine jt_go jm_m18 55 4 (f' := (98, [(6, .inl (nI (sp_toc g c))), (5, .inl ((nI (sp_goal g c)) - (nI (g (38 + 5 * c))))), (4, .inl (nI (sp_pace (g (36 + 5 * c)) (g (37 + 5 * c)) (g 2)))), (3, .inl (nI (g (38 + 5 * c)))), (2, .inr (.inr (1, k1, 0))), (0, .inr (.inr (2, j, 0))), (1, .inl (nI c))], [.inl (h1 (6, j, 0) (nI (sp_toc g c)).toNatClampNeg)], h1)) (P := vp_in (nI (sp_toc g c)) 16 ∧ True) rfl ⟨(vp_in_nI (by omega) (by decide)), trivial⟩ ?_
    refine jt_ti (show (h1 (6, j, 0) (nI (sp_toc g c)).toNatClampNeg) = nI (gh1 (4 + (sp_toc g c))) from jf_fish Rh1 (c := sp_toc g c) (nI_clamp (by omega)) (by omega)) ?_
    have bf : gh1 (4 + sp_toc g c) ≤ 9 := by rw [egh1, sp_up_ne (by omega)]; exact jw_fish W bs
    refine jt_nifle jm_m18 59 (by omega) (tgt := 112) (nxt := 101) rfl rfl rfl (fun c98 => ?_) (fun c98 => ?_)
    · refine jt_pick (L' := [(0, .inr (.inr (2, j, 0))), (1, .inl (nI c)), (3, .inl (nI (g (38 + 5 * c)))), (6, .inl (nI (sp_toc g c)))]) [5, 6, 3, 0] rfl ?_
      have e : gh1 = sp_move g c := by rw [egh1]; unfold sp_move; rw [if_neg c88]; unfold sp_eat; rw [← egh1, if_neg (by omega)]
      exact nx h1 (by rw [← e]; exact Rh1) Fh1
    · refine jt_go jm_m18 60 5 (f' := (109, [(6, .inl (nI (sp_toc g c))), (5, .inl ((nI (sp_goal g c)) - (nI (g (38 + 5 * c))))), (4, .inl (nI (sp_pace (g (36 + 5 * c)) (g (37 + 5 * c)) (g 2)))), (3, .inl (nI (g (38 + 5 * c)))), (2, .inr (.inr (1, k1, 0))), (0, .inr (.inr (2, j, 0))), (1, .inl (nI c))], [.inl (h1 (6, j, 0) (nI (sp_toc g c)).toNatClampNeg), .inl (nI (sp_toc g c)), .inr (.inr (6, j, 0))], h1)) (P := vp_in (nI (sp_toc g c)) 16 ∧ True) rfl ⟨(vp_in_nI (by omega) (by decide)), trivial⟩ ?_
      refine jt_ti (show (h1 (6, j, 0) (nI (sp_toc g c)).toNatClampNeg) = nI (gh1 (4 + (sp_toc g c))) from jf_fish Rh1 (c := sp_toc g c) (nI_clamp (by omega)) (by omega)) ?_
      refine jt_go jm_m18 65 2 (f' := (111, [(6, .inl (nI (sp_toc g c))), (5, .inl ((nI (sp_goal g c)) - (nI (g (38 + 5 * c))))), (4, .inl (nI (sp_pace (g (36 + 5 * c)) (g (37 + 5 * c)) (g 2)))), (3, .inl (nI (g (38 + 5 * c)))), (2, .inr (.inr (1, k1, 0))), (0, .inr (.inr (2, j, 0))), (1, .inl (nI c))], [.inl ((nI (gh1 (4 + (sp_toc g c)))) - (nI 1)), .inl (nI (sp_toc g c)), .inr (.inr (6, j, 0))], h1)) (P := True) rfl trivial ?_
      refine jt_ti (show ((nI (gh1 (4 + (sp_toc g c)))) - (nI 1)) = nI (gh1 (4 + sp_toc g c) - 1) from nI_subN (by omega)) ?_
      refine jt_goM jm_m18 67 1 (pc' := 112) (L' := [(6, .inl (nI (sp_toc g c))), (5, .inl ((nI (sp_goal g c)) - (nI (g (38 + 5 * c))))), (4, .inl (nI (sp_pace (g (36 + 5 * c)) (g (37 + 5 * c)) (g 2)))), (3, .inl (nI (g (38 + 5 * c)))), (2, .inr (.inr (1, k1, 0))), (0, .inr (.inr (2, j, 0))), (1, .inl (nI c))]) (st' := []) (m' := jm_set h1 (6, j, 0) (upd (h1 (6, j, 0)) (nI (sp_toc g c)).toNatClampNeg (nI (gh1 (4 + sp_toc g c) - 1)))) (P := vp_in (nI (sp_toc g c)) 16 ∧ True) rfl ⟨(vp_in_nI (by omega) (by decide)), trivial⟩ (fun h2 eh2 => ?_)
      have Fh2 : jf_fc j h h2 := by rw [eh2]; exact jf_fc_setA Fh1 ⟨Or.inr rfl, rfl⟩ (by simp)
      obtain ⟨gh2, egh2⟩ : ∃ y, y = sp_up gh1 (4 + (sp_toc g c)) (gh1 (4 + sp_toc g c) - 1) := ⟨_, rfl⟩
      have Rh2 : jf_rel h2 j gh2 := by rw [eh2, egh2]; exact jf_set_fish Rh1 (c := sp_toc g c) (w := gh1 (4 + sp_toc g c) - 1) (nI_clamp (by omega)) (by omega) rfl
      refine jt_pick (L' := [(0, .inr (.inr (2, j, 0))), (1, .inl (nI c)), (3, .inl (nI (g (38 + 5 * c)))), (6, .inl (nI (sp_toc g c)))]) [5, 6, 3, 0] rfl ?_
      have e : gh2 = sp_move g c := by rw [egh2]; unfold sp_move; rw [if_neg c88]; unfold sp_eat; rw [← egh1, if_pos c98]
      exact nx h2 (by rw [← e]; exact Rh2) Fh2
set_option maxHeartbeats 4000000 in
set_option maxRecDepth 20000 in
theorem ta_letPass {h : jm_M} {j : Nat} {g : Nat → Nat} (R : jf_rel h j g) (W : jw g) {c : Nat} (hc : c < g 0) {fm : Nat} (hf : fm ≤ 1) : jt_T 22 (0, [(0, .inr (.inr (2, j, 0))), (1, .inl (nI c)), (2, .inl (nI fm))], [], h) (fun u h' => u = none ∧ jf_rel h' j (sp_pass g c fm) ∧ jf_fc j h h') := by
  have bn := jw_n W
  have bm := jw_m W
  have bt := jw_t W
  have bq := jw_nm W hc
  have bb := jw_pb W
  refine jt_go jm_m22 0 4 (f' := (6, [(0, .inr (.inr (2, j, 0))), (1, .inl (nI c)), (2, .inl (nI fm))], [.inl (h (2, j, 5) (nI c).toNatClampNeg)], h)) (P := vp_in (nI c) 6 ∧ True) rfl ⟨(vp_in_nI (by omega) (by decide)), trivial⟩ ?_
  refine jt_ti (show (h (2, j, 5) (nI c).toNatClampNeg) = nI (g (40 + 5 * c)) from jf_name R (c := c) (nI_clamp (by omega)) (by omega)) ?_
  have bq1 := jw_name W (c := c) (by omega)
  refine jt_go jm_m22 4 3 (f' := (9, [(3, .inl (nI (g (40 + 5 * c)))), (0, .inr (.inr (2, j, 0))), (1, .inl (nI c)), (2, .inl (nI fm))], [.inl (nI c), .inr (.inr (2, j, 0))], h)) (P := True) rfl trivial ?_
  refine jt_callp (w := .inl (jm_b (sp_read g c))) jm_m22 7 (mi' := 26) (as := [.inr (.inr (2, j, 0)), .inl (nI c)]) (rest := []) (nxt := 12) rfl rfl jm_m26 rfl rfl (ta_read R W (by omega)) ?_
  refine jt_ifbeq jm_m22 8 (tgt := 62) (nxt := 15) rfl rfl rfl (fun c12 => ?_) (fun c12 => ?_)
  · refine jt_vret jm_m22 38 rfl ?_
    refine ⟨rfl, ?_, jf_fc_rf⟩
    unfold sp_pass
    rw [if_neg (fun z => c12 z.1)]
    exact R
  · refine jt_go jm_m22 9 2 (f' := (17, [(3, .inl (nI (g (40 + 5 * c)))), (0, .inr (.inr (2, j, 0))), (1, .inl (nI c)), (2, .inl (nI fm))], [.inl (nI (g (40 + 5 * c))), .inr (.inr (2, j, 0))], h)) (P := True) rfl trivial ?_
    refine jt_callp (w := .inl (jm_b (nI 0 ≤ nI (g (40 + 5 * c)) ∧ nI (g (40 + 5 * c)) < nI (g 1)))) jm_m22 11 (mi' := 8) (as := [.inr (.inr (2, j, 0)), .inl (nI (g (40 + 5 * c)))]) (rest := []) (nxt := 20) rfl rfl jm_m8 rfl rfl (ta_hasMan R W) ?_
    refine jt_ifbeq jm_m22 12 (tgt := 62) (nxt := 23) rfl rfl rfl (fun c20 => ?_) (fun c20 => ?_)
    · exact absurd ⟨nI_pos' (by omega), (nI_ltI (by omega) (by omega)).mpr (bq.resolve_left c12.1)⟩ c20
    · have c20 := (nI_ltI (by omega) (by omega)).mp c20.2
      have bv := jw_pas W (c := g (40 + 5 * c)) (by omega)
      refine jt_go jm_m22 13 4 (f' := (29, [(3, .inl (nI (g (40 + 5 * c)))), (0, .inr (.inr (2, j, 0))), (1, .inl (nI c)), (2, .inl (nI fm))], [.inl (h (2, j, 6) (nI (g (40 + 5 * c))).toNatClampNeg)], h)) (P := vp_in (nI (g (40 + 5 * c))) 6 ∧ True) rfl ⟨(vp_in_nI (by omega) (by decide)), trivial⟩ ?_
      refine jt_ti (show (h (2, j, 6) (nI (g (40 + 5 * c))).toNatClampNeg) = nI (g (66 + 2 * (g (40 + 5 * c)))) from jf_side R (c := g (40 + 5 * c)) (nI_clamp (by omega)) (by omega)) ?_
      have bq2 := jw_side W (c := g (40 + 5 * c)) (by omega)
      refine jt_go jm_m22 17 1 (f' := (30, [(3, .inl (nI (g (40 + 5 * c)))), (0, .inr (.inr (2, j, 0))), (1, .inl (nI c)), (2, .inl (nI fm))], [.inl (nI fm), .inl (nI (g (66 + 2 * (g (40 + 5 * c)))))], h)) (P := True) rfl trivial ?_
      refine jt_nicne jm_m22 18 (a := g (66 + 2 * (g (40 + 5 * c)))) (b := fm) (by omega) (by omega) (tgt := 62) (nxt := 33) rfl rfl rfl (fun c30 => ?_) (fun c30 => ?_)
      · refine jt_vret jm_m22 38 rfl ?_
        refine ⟨rfl, ?_, jf_fc_rf⟩
        unfold sp_pass
        rw [if_neg (fun z => c30 z.2.1)]
        exact R
      · refine jt_go jm_m22 19 2 (f' := (35, [(3, .inl (nI (g (40 + 5 * c)))), (0, .inr (.inr (2, j, 0))), (1, .inl (nI c)), (2, .inl (nI fm))], [.inl (nI (g (40 + 5 * c))), .inr (.inr (2, j, 0))], h)) (P := True) rfl trivial ?_
        refine jt_callp (w := .inl (jm_b (g (67 + 2 * g (40 + 5 * c)) = 1))) jm_m22 21 (mi' := 10) (as := [.inr (.inr (2, j, 0)), .inl (nI (g (40 + 5 * c)))]) (rest := []) (nxt := 38) rfl rfl jm_m10 rfl rfl (ta_hasPassed R W (by omega)) ?_
        refine jt_ifbne jm_m22 22 (tgt := 62) (nxt := 41) rfl rfl rfl (fun c38 => ?_) (fun c38 => ?_)
        · refine jt_vret jm_m22 38 rfl ?_
          refine ⟨rfl, ?_, jf_fc_rf⟩
          unfold sp_pass
          rw [if_neg (fun z => absurd (c38.symm.trans z.2.2) (by decide))]
          exact R
        · refine jt_go jm_m22 23 3 (f' := (46, [(3, .inl (nI (g (40 + 5 * c)))), (0, .inr (.inr (2, j, 0))), (1, .inl (nI c)), (2, .inl (nI fm))], [.inl (h (2, j, 0) 13), .inr (.inr (2, j, 0))], h)) (P := True) rfl trivial ?_
          refine jt_ti (show (h (2, j, 0) 13) = nI (sp_pb g) from jf_pass R) ?_
          have bq3 := jw_pb W
          refine jt_go jm_m22 26 4 (f' := (50, [(3, .inl (nI (g (40 + 5 * c)))), (0, .inr (.inr (2, j, 0))), (1, .inl (nI c)), (2, .inl (nI fm))], [.inl ((nI (sp_pb g)) ||| ((nI 1) <<< ((nI (g (40 + 5 * c))) &&& 31))), .inr (.inr (2, j, 0))], h)) (P := True) rfl trivial ?_
          refine jt_ti (show ((nI (sp_pb g)) ||| ((nI 1) <<< ((nI (g (40 + 5 * c))) &&& 31))) = nI (sp_pb g + 2 ^ g (40 + 5 * c)) from jx_orb _ bb _ (by omega) (by rw [jx_pbit W (by omega)]; omega)) ?_
          refine jt_goM jm_m22 30 1 (pc' := 53) (L' := [(3, .inl (nI (g (40 + 5 * c)))), (0, .inr (.inr (2, j, 0))), (1, .inl (nI c)), (2, .inl (nI fm))]) (st' := []) (m' := jm_set h (2, j, 0) (upd (h (2, j, 0)) 13 (nI (sp_pb g + 2 ^ g (40 + 5 * c))))) (P := True) rfl trivial (fun h1 eh1 => ?_)
          have Fh1 : jf_fc j h h1 := by rw [eh1]; exact jf_fc_setB jf_fc_rf (by decide)
          obtain ⟨gh1, egh1⟩ : ∃ y, y = sp_up g (67 + 2 * g (40 + 5 * c)) (1) := ⟨_, rfl⟩
          have Rh1 : jf_rel h1 j gh1 := by rw [eh1, egh1]; exact jf_set_pass R rfl (c := g (40 + 5 * c)) (w := 1) (by omega) (jx_pbup (by omega) (by omega))
          refine jt_go jm_m22 31 6 (f' := (61, [(3, .inl (nI (g (40 + 5 * c)))), (0, .inr (.inr (2, j, 0))), (1, .inl (nI c)), (2, .inl (nI fm))], [.inl ((nI 1) - (nI fm)), .inl (nI (g (40 + 5 * c))), .inr (.inr (2, j, 6))], h1)) (P := True) rfl trivial ?_
          refine jt_ti (show ((nI 1) - (nI fm)) = nI (1 - fm) from nI_subN (by omega)) ?_
          refine jt_goM jm_m22 37 1 (pc' := 62) (L' := [(3, .inl (nI (g (40 + 5 * c)))), (0, .inr (.inr (2, j, 0))), (1, .inl (nI c)), (2, .inl (nI fm))]) (st' := []) (m' := jm_set h1 (2, j, 6) (upd (h1 (2, j, 6)) (nI (g (40 + 5 * c))).toNatClampNeg (nI (1 - fm)))) (P := vp_in (nI (g (40 + 5 * c))) 6 ∧ True) rfl ⟨(vp_in_nI (by omega) (by decide)), trivial⟩ (fun h2 eh2 => ?_)
          have Fh2 : jf_fc j h h2 := by rw [eh2]; exact jf_fc_setA Fh1 ⟨Or.inl rfl, rfl⟩ (by simp)
          obtain ⟨gh2, egh2⟩ : ∃ y, y = sp_up gh1 (66 + 2 * (g (40 + 5 * c))) (1 - fm) := ⟨_, rfl⟩
          have Rh2 : jf_rel h2 j gh2 := by rw [eh2, egh2]; exact jf_set_side Rh1 (c := g (40 + 5 * c)) (w := 1 - fm) (nI_clamp (by omega)) (by omega) rfl
          refine jt_vret jm_m22 38 rfl ?_
          refine ⟨rfl, ?_, Fh2⟩
          unfold sp_pass
          rw [if_pos ⟨c12, c30, by omega⟩, ← egh1, ← egh2]
          exact Rh2
set_option maxHeartbeats 4000000 in
set_option maxRecDepth 20000 in
theorem ta_clock {h : jm_M} {j : Nat} {g : Nat → Nat} (R : jf_rel h j g) (W : jw g)  : jt_T 23 (0, [(0, .inr (.inr (2, j, 0)))], [], h) (fun u h' => u = none ∧ jf_rel h' j (sp_clock g) ∧ jf_fc j h h') := by
  have bn := jw_n W
  have bm := jw_m W
  have bt := jw_t W
  refine jt_go jm_m23 0 3 (f' := (5, [(0, .inr (.inr (2, j, 0)))], [.inl (h (2, j, 0) 11), .inr (.inr (2, j, 0))], h)) (P := True) rfl trivial ?_
  refine jt_ti (show (h (2, j, 0) 11) = nI (g 2) from jf_hour R) ?_
  have bq1 := jw_t W
  refine jt_go jm_m23 3 2 (f' := (7, [(0, .inr (.inr (2, j, 0)))], [.inl ((nI (g 2)) + (nI 1)), .inr (.inr (2, j, 0))], h)) (P := True) rfl trivial ?_
  refine jt_ti (show ((nI (g 2)) + (nI 1)) = nI (g 2 + 1) from nI_add _ _) ?_
  refine jt_goM jm_m23 5 1 (pc' := 10) (L' := [(0, .inr (.inr (2, j, 0)))]) (st' := []) (m' := jm_set h (2, j, 0) (upd (h (2, j, 0)) 11 (nI (g 2 + 1)))) (P := True) rfl trivial (fun h1 eh1 => ?_)
  have Fh1 : jf_fc j h h1 := by rw [eh1]; exact jf_fc_setB jf_fc_rf (by decide)
  obtain ⟨gh1, egh1⟩ : ∃ y, y = sp_up g (2) (g 2 + 1) := ⟨_, rfl⟩
  have Rh1 : jf_rel h1 j gh1 := by rw [eh1, egh1]; exact jf_set_hour R (w := g 2 + 1) rfl
  refine jt_go jm_m23 6 2 (f' := (14, [(0, .inr (.inr (2, j, 0)))], [.inl (h1 (2, j, 0) 11)], h1)) (P := True) rfl trivial ?_
  refine jt_ti (show (h1 (2, j, 0) 11) = nI (gh1 2) from jf_hour Rh1) ?_
  have ec : gh1 2 = g 2 + 1 := by rw [egh1]; exact sp_up_eq rfl
  refine jt_go jm_m23 8 1 (f' := (16, [(0, .inr (.inr (2, j, 0)))], [.inl (nI 24), .inl (nI (gh1 2))], h1)) (P := True) rfl trivial ?_
  refine jt_nicne jm_m23 9 (a := gh1 2) (b := 24) (by omega) (by omega) (tgt := 34) (nxt := 19) rfl rfl rfl (fun c16 => ?_) (fun c16 => ?_)
  · refine jt_vret jm_m23 19 rfl ?_
    refine ⟨rfl, ?_, Fh1⟩
    have e : gh1 = sp_clock g := by rw [egh1]; unfold sp_clock; rw [if_neg (by omega)]
    rw [← e]
    exact Rh1
  · refine jt_goM jm_m23 10 3 (pc' := 24) (L' := [(0, .inr (.inr (2, j, 0)))]) (st' := []) (m' := jm_set h1 (2, j, 0) (upd (h1 (2, j, 0)) 11 (nI 0))) (P := True) rfl trivial (fun h2 eh2 => ?_)
    have Fh2 : jf_fc j h h2 := by rw [eh2]; exact jf_fc_setB Fh1 (by decide)
    obtain ⟨gh2, egh2⟩ : ∃ y, y = sp_up gh1 (2) (0) := ⟨_, rfl⟩
    have Rh2 : jf_rel h2 j gh2 := by rw [eh2, egh2]; exact jf_set_hour Rh1 (w := 0) rfl
    refine jt_go jm_m23 13 3 (f' := (29, [(0, .inr (.inr (2, j, 0)))], [.inl (h2 (2, j, 0) 12), .inr (.inr (2, j, 0))], h2)) (P := True) rfl trivial ?_
    refine jt_ti (show (h2 (2, j, 0) 12) = nI (gh2 3) from jf_day Rh2) ?_
    refine jt_go jm_m23 16 2 (f' := (31, [(0, .inr (.inr (2, j, 0)))], [.inl ((nI (gh2 3)) + (nI 1)), .inr (.inr (2, j, 0))], h2)) (P := True) rfl trivial ?_
    refine jt_ti (show ((nI (gh2 3)) + (nI 1)) = nI (gh2 3 + 1) from nI_add _ _) ?_
    refine jt_goM jm_m23 18 1 (pc' := 34) (L' := [(0, .inr (.inr (2, j, 0)))]) (st' := []) (m' := jm_set h2 (2, j, 0) (upd (h2 (2, j, 0)) 12 (nI (gh2 3 + 1)))) (P := True) rfl trivial (fun h3 eh3 => ?_)
    have Fh3 : jf_fc j h h3 := by rw [eh3]; exact jf_fc_setB Fh2 (by decide)
    obtain ⟨gh3, egh3⟩ : ∃ y, y = sp_up gh2 (3) (gh2 3 + 1) := ⟨_, rfl⟩
    have Rh3 : jf_rel h3 j gh3 := by rw [eh3, egh3]; exact jf_set_day Rh2 (w := gh2 3 + 1) rfl
    refine jt_vret jm_m23 19 rfl ?_
    refine ⟨rfl, ?_, Fh3⟩
    have e : gh3 = sp_clock g := by rw [egh3, egh2, egh1]; unfold sp_clock; rw [if_pos (by omega), sp_up_ne (by decide), sp_up_ne (by decide)]; congr 1; funext i; by_cases e : i = 2 <;> simp [sp_up, e]
    rw [← e]
    exact Rh3
