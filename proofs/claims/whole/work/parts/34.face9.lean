/-! THE FACE: dogs of the reference; nights. -/
set_option maxHeartbeats 4000000 in
set_option maxRecDepth 20000 in
theorem cb_dogh_i {h : jm_M} {g : Nat → Nat} {Q : Option jm_V → jm_M → Prop} (W : jw g) {A B c d n t w S : Nat} (hS : S < 128) (hnn : n ≤ 7) (ht : t ≤ 20) (ht2 : 2 ≤ t) (hend : ∀ h2, jg_rel h2 1 (sp_dg g S n) → jg_fr 1 h h2 → jt_T 217 (161, [(0, .inr (.inr (4, 0, 0))), (1, .inl (nI c)), (2, .inl (nI d)), (3, .inl (nI n)), (4, .inl (nI t)), (5, .inl (nI w)), (6, .inr (.inl (lN A))), (8, .inr (.inl (lN B))), (10, .inl (nI S)), (11, .inr (.inl (lN (sp_wt S (t - 1) n)))), (13, .inl (nI n))], [], h2) Q) : ∀ k, k ≤ n → ∀ hm : jm_M, jg_rel hm 1 (sp_dg g S k) → jg_fr 1 h hm → jt_T 217 (109, [(0, .inr (.inr (4, 0, 0))), (1, .inl (nI c)), (2, .inl (nI d)), (3, .inl (nI n)), (4, .inl (nI t)), (5, .inl (nI w)), (6, .inr (.inl (lN A))), (8, .inr (.inl (lN B))), (10, .inl (nI S)), (11, .inr (.inl (lN (sp_wt S (t - 1) k)))), (13, .inl (nI k))], [], hm) Q := jx_up (P := fun k => ∀ hm : jm_M, jg_rel hm 1 (sp_dg g S k) → jg_fr 1 h hm → jt_T 217 (109, [(0, .inr (.inr (4, 0, 0))), (1, .inl (nI c)), (2, .inl (nI d)), (3, .inl (nI n)), (4, .inl (nI t)), (5, .inl (nI w)), (6, .inr (.inl (lN A))), (8, .inr (.inl (lN B))), (10, .inl (nI S)), (11, .inr (.inl (lN (sp_wt S (t - 1) k)))), (13, .inl (nI k))], [], hm) Q) (fun k hk nx hm Rm Fm => by
  have Wk := (jw_dg W S k).1
  refine jt_go jm_m217 58 2 (f' := (112, [(0, .inr (.inr (4, 0, 0))), (1, .inl (nI c)), (2, .inl (nI d)), (3, .inl (nI n)), (4, .inl (nI t)), (5, .inl (nI w)), (6, .inr (.inl (lN A))), (8, .inr (.inl (lN B))), (10, .inl (nI S)), (11, .inr (.inl (lN (sp_wt S (t - 1) k)))), (13, .inl (nI k))], [.inl (nI n), .inl (nI k)], hm)) (P := True) rfl trivial ?_
  refine jt_nicge jm_m217 60 (a := k) (b := n) (by omega) (by omega) (tgt := 161) (nxt := 115) rfl rfl rfl (fun c112 => ?_) (fun c112 => ?_)
  · refine jt_pick (L' := [(0, .inr (.inr (4, 0, 0))), (1, .inl (nI c)), (2, .inl (nI d)), (3, .inl (nI n)), (4, .inl (nI t)), (5, .inl (nI w)), (6, .inr (.inl (lN A))), (8, .inr (.inl (lN B))), (10, .inl (nI S)), (11, .inr (.inl (lN (sp_wt S (t - 1) k)))), (13, .inl (nI k))]) [0, 1, 2, 3, 4, 5, 6, 7, 8, 9, 10] rfl ?_
    have e : k = n := by omega
    subst e
    exact hend hm Rm Fm
  · refine jt_go jm_m217 61 3 (f' := (121, [(0, .inr (.inr (4, 0, 0))), (1, .inl (nI c)), (2, .inl (nI d)), (3, .inl (nI n)), (4, .inl (nI t)), (5, .inl (nI w)), (6, .inr (.inl (lN A))), (8, .inr (.inl (lN B))), (10, .inl (nI S)), (11, .inr (.inl (lN (sp_wt S (t - 1) k)))), (13, .inl (nI k))], [.inl (nI k), .inl (nI S), .inr (.inl (lN (sp_wt S (t - 1) k)))], hm)) (P := True) rfl trivial ?_
    refine jt_callp (w := .inl (jm_b (S / 2 ^ k % 2 = 1))) jm_m217 64 (mi' := 152) (as := [.inl (nI S), .inl (nI k)]) (rest := [.inr (.inl (lN (sp_wt S (t - 1) k)))]) (nxt := 124) rfl rfl jm_m152 rfl rfl (tb_has (by omega) (by omega)) ?_
    by_cases hb : S / 2 ^ k % 2 = 1
    · rw [jm_b_pos hb]
      show jt_T 217 (124, [(0, .inr (.inr (4, 0, 0))), (1, .inl (nI c)), (2, .inl (nI d)), (3, .inl (nI n)), (4, .inl (nI t)), (5, .inl (nI w)), (6, .inr (.inl (lN A))), (8, .inr (.inl (lN B))), (10, .inl (nI S)), (11, .inr (.inl (lN (sp_wt S (t - 1) k)))), (13, .inl (nI k))], [.inl (nI 1), .inr (.inl (lN (sp_wt S (t - 1) k)))], hm) _
      refine jt_nifeq jm_m217 65 (by omega) (tgt := 131) (nxt := 127) rfl rfl rfl (fun c124 => ?_) (fun c124 => ?_)
      · exact absurd c124 (by decide)
      · refine jt_go jm_m217 66 2 (f' := (136, [(0, .inr (.inr (4, 0, 0))), (1, .inl (nI c)), (2, .inl (nI d)), (3, .inl (nI n)), (4, .inl (nI t)), (5, .inl (nI w)), (6, .inr (.inl (lN A))), (8, .inr (.inl (lN B))), (10, .inl (nI S)), (11, .inr (.inl (lN (sp_wt S (t - 1) k)))), (13, .inl (nI k))], [.inr (.inl (lN 1)), .inr (.inl (lN (sp_wt S (t - 1) k)))], hm)) (P := True) rfl trivial ?_
        refine jt_go jm_m217 72 1 (f' := (137, [(0, .inr (.inr (4, 0, 0))), (1, .inl (nI c)), (2, .inl (nI d)), (3, .inl (nI n)), (4, .inl (nI t)), (5, .inl (nI w)), (6, .inr (.inl (lN A))), (8, .inr (.inl (lN B))), (10, .inl (nI S)), (11, .inr (.inl (lN (sp_wt S (t - 1) k)))), (13, .inl (nI k))], [.inr (.inl ((lN (sp_wt S (t - 1) k)) * (lN 1)))], hm)) (P := True) rfl trivial ?_
        refine jt_tl (show ((lN (sp_wt S (t - 1) k)) * (lN 1)) = lN (sp_wt S (t - 1) k) from Int64.mul_one _) ?_
        refine jt_go jm_m217 73 5 (f' := (147, [(11, .inr (.inl (lN (sp_wt S (t - 1) k)))), (0, .inr (.inr (4, 0, 0))), (1, .inl (nI c)), (2, .inl (nI d)), (3, .inl (nI n)), (4, .inl (nI t)), (5, .inl (nI w)), (6, .inr (.inl (lN A))), (8, .inr (.inl (lN B))), (10, .inl (nI S)), (13, .inl (nI k))], [.inl (nI k), .inl (nI S), .inr (.inr (5, 1, 0))], hm)) (P := True) rfl trivial ?_
        refine jt_callp (w := .inl (jm_b (S / 2 ^ k % 2 = 1))) jm_m217 78 (mi' := 152) (as := [.inl (nI S), .inl (nI k)]) (rest := [.inr (.inr (5, 1, 0))]) (nxt := 150) rfl rfl jm_m152 rfl rfl (tb_has (by omega) (by omega)) ?_
        rw [jm_b_pos hb]
        · skip
          show jt_T 217 (150, [(11, .inr (.inl (lN (sp_wt S (t - 1) k)))), (0, .inr (.inr (4, 0, 0))), (1, .inl (nI c)), (2, .inl (nI d)), (3, .inl (nI n)), (4, .inl (nI t)), (5, .inl (nI w)), (6, .inr (.inl (lN A))), (8, .inr (.inl (lN B))), (10, .inl (nI S)), (13, .inl (nI k))], [.inl (nI 1), .inr (.inr (5, 1, 0))], hm) _
          refine jt_call jm_m217 79 (mi' := 163) (as := [.inr (.inr (5, 1, 0)), .inl (nI 1)]) (rest := []) (nxt := 153) rfl rfl jm_m163 rfl rfl (tb_hour1 Rm Wk) ?_
          rintro u h1 ⟨rfl, Rh1, Fh1⟩
          show jt_T 217 (153, [(11, .inr (.inl (lN (sp_wt S (t - 1) k)))), (0, .inr (.inr (4, 0, 0))), (1, .inl (nI c)), (2, .inl (nI d)), (3, .inl (nI n)), (4, .inl (nI t)), (5, .inl (nI w)), (6, .inr (.inl (lN A))), (8, .inr (.inl (lN B))), (10, .inl (nI S)), (13, .inl (nI k))], [.inl (nI (sp_set (sp_dg g S k) true))], h1) _
          have Fh1 := jg_fr_tr Fm Fh1
          have us := sp_set_lt Wk (kept := true)
          have ed : sp_dg g S (k + 1) = sp_hour (sp_dg g S k) true := if_pos hb
          have ew : sp_wt S (t - 1) (k + 1) = sp_wt S (t - 1) k := by show sp_wt S (t - 1) k * _ = _; rw [if_pos hb, Nat.mul_one]
          refine jt_go jm_m217 80 1 (f' := (155, [(14, .inl (nI (sp_set (sp_dg g S k) true))), (11, .inr (.inl (lN (sp_wt S (t - 1) k)))), (0, .inr (.inr (4, 0, 0))), (1, .inl (nI c)), (2, .inl (nI d)), (3, .inl (nI n)), (4, .inl (nI t)), (5, .inl (nI w)), (6, .inr (.inl (lN A))), (8, .inr (.inl (lN B))), (10, .inl (nI S)), (13, .inl (nI k))], [], h1)) (P := True) rfl trivial ?_
          refine jt_inc jm_m217 81 (c := k) (L' := [(13, .inl (nI (k + 1))), (14, .inl (nI (sp_set (sp_dg g S k) true))), (11, .inr (.inl (lN (sp_wt S (t - 1) k)))), (0, .inr (.inr (4, 0, 0))), (1, .inl (nI c)), (2, .inl (nI d)), (3, .inl (nI n)), (4, .inl (nI t)), (5, .inl (nI w)), (6, .inr (.inl (lN A))), (8, .inr (.inl (lN B))), (10, .inl (nI S))]) rfl rfl rfl rfl ?_
          refine jt_go jm_m217 82 1 (f' := (109, [(13, .inl (nI (k + 1))), (14, .inl (nI (sp_set (sp_dg g S k) true))), (11, .inr (.inl (lN (sp_wt S (t - 1) k)))), (0, .inr (.inr (4, 0, 0))), (1, .inl (nI c)), (2, .inl (nI d)), (3, .inl (nI n)), (4, .inl (nI t)), (5, .inl (nI w)), (6, .inr (.inl (lN A))), (8, .inr (.inl (lN B))), (10, .inl (nI S))], [], h1)) (P := True) rfl trivial ?_
          refine jt_pick (L' := [(0, .inr (.inr (4, 0, 0))), (1, .inl (nI c)), (2, .inl (nI d)), (3, .inl (nI n)), (4, .inl (nI t)), (5, .inl (nI w)), (6, .inr (.inl (lN A))), (8, .inr (.inl (lN B))), (10, .inl (nI S)), (11, .inr (.inl (lN (sp_wt S (t - 1) k)))), (13, .inl (nI (k + 1)))]) [3, 4, 5, 6, 7, 8, 9, 10, 11, 2, 0] rfl ?_
          have q := nx (by omega) h1 (by rw [ed]; exact Rh1) Fh1
          rw [ew] at q
          exact q
    · rw [jm_b_neg hb]
      show jt_T 217 (124, [(0, .inr (.inr (4, 0, 0))), (1, .inl (nI c)), (2, .inl (nI d)), (3, .inl (nI n)), (4, .inl (nI t)), (5, .inl (nI w)), (6, .inr (.inl (lN A))), (8, .inr (.inl (lN B))), (10, .inl (nI S)), (11, .inr (.inl (lN (sp_wt S (t - 1) k)))), (13, .inl (nI k))], [.inl (nI 0), .inr (.inl (lN (sp_wt S (t - 1) k)))], hm) _
      refine jt_nifeq jm_m217 65 (by omega) (tgt := 131) (nxt := 127) rfl rfl rfl (fun c124 => ?_) (fun c124 => ?_)
      · refine jt_go jm_m217 68 3 (f' := (135, [(0, .inr (.inr (4, 0, 0))), (1, .inl (nI c)), (2, .inl (nI d)), (3, .inl (nI n)), (4, .inl (nI t)), (5, .inl (nI w)), (6, .inr (.inl (lN A))), (8, .inr (.inl (lN B))), (10, .inl (nI S)), (11, .inr (.inl (lN (sp_wt S (t - 1) k)))), (13, .inl (nI k))], [.inl ((nI t) - (nI 1)), .inr (.inl (lN (sp_wt S (t - 1) k)))], hm)) (P := True) rfl trivial ?_
        refine jt_ti (show ((nI t) - (nI 1)) = nI (t - 1) from nI_subN (by omega)) ?_
        refine jt_go jm_m217 71 1 (f' := (136, [(0, .inr (.inr (4, 0, 0))), (1, .inl (nI c)), (2, .inl (nI d)), (3, .inl (nI n)), (4, .inl (nI t)), (5, .inl (nI w)), (6, .inr (.inl (lN A))), (8, .inr (.inl (lN B))), (10, .inl (nI S)), (11, .inr (.inl (lN (sp_wt S (t - 1) k)))), (13, .inl (nI k))], [.inr (.inl ((nI (t - 1)).toInt64)), .inr (.inl (lN (sp_wt S (t - 1) k)))], hm)) (P := True) rfl trivial ?_
        refine jt_tl (show ((nI (t - 1)).toInt64) = lN (t - 1) from nI_l (by omega)) ?_
        refine jt_go jm_m217 72 1 (f' := (137, [(0, .inr (.inr (4, 0, 0))), (1, .inl (nI c)), (2, .inl (nI d)), (3, .inl (nI n)), (4, .inl (nI t)), (5, .inl (nI w)), (6, .inr (.inl (lN A))), (8, .inr (.inl (lN B))), (10, .inl (nI S)), (11, .inr (.inl (lN (sp_wt S (t - 1) k)))), (13, .inl (nI k))], [.inr (.inl ((lN (sp_wt S (t - 1) k)) * (lN (t - 1))))], hm)) (P := True) rfl trivial ?_
        refine jt_tl (show ((lN (sp_wt S (t - 1) k)) * (lN (t - 1))) = lN ((sp_wt S (t - 1) k) * (t - 1)) from lN_mul _ _) ?_
        refine jt_go jm_m217 73 5 (f' := (147, [(11, .inr (.inl (lN ((sp_wt S (t - 1) k) * (t - 1))))), (0, .inr (.inr (4, 0, 0))), (1, .inl (nI c)), (2, .inl (nI d)), (3, .inl (nI n)), (4, .inl (nI t)), (5, .inl (nI w)), (6, .inr (.inl (lN A))), (8, .inr (.inl (lN B))), (10, .inl (nI S)), (13, .inl (nI k))], [.inl (nI k), .inl (nI S), .inr (.inr (5, 1, 0))], hm)) (P := True) rfl trivial ?_
        refine jt_callp (w := .inl (jm_b (S / 2 ^ k % 2 = 1))) jm_m217 78 (mi' := 152) (as := [.inl (nI S), .inl (nI k)]) (rest := [.inr (.inr (5, 1, 0))]) (nxt := 150) rfl rfl jm_m152 rfl rfl (tb_has (by omega) (by omega)) ?_
        rw [jm_b_neg hb]
        · skip
          show jt_T 217 (150, [(11, .inr (.inl (lN ((sp_wt S (t - 1) k) * (t - 1))))), (0, .inr (.inr (4, 0, 0))), (1, .inl (nI c)), (2, .inl (nI d)), (3, .inl (nI n)), (4, .inl (nI t)), (5, .inl (nI w)), (6, .inr (.inl (lN A))), (8, .inr (.inl (lN B))), (10, .inl (nI S)), (13, .inl (nI k))], [.inl (nI 0), .inr (.inr (5, 1, 0))], hm) _
          refine jt_call jm_m217 79 (mi' := 163) (as := [.inr (.inr (5, 1, 0)), .inl (nI 0)]) (rest := []) (nxt := 153) rfl rfl jm_m163 rfl rfl (tb_hour0 Rm Wk) ?_
          rintro u h1 ⟨rfl, Rh1, Fh1⟩
          show jt_T 217 (153, [(11, .inr (.inl (lN ((sp_wt S (t - 1) k) * (t - 1))))), (0, .inr (.inr (4, 0, 0))), (1, .inl (nI c)), (2, .inl (nI d)), (3, .inl (nI n)), (4, .inl (nI t)), (5, .inl (nI w)), (6, .inr (.inl (lN A))), (8, .inr (.inl (lN B))), (10, .inl (nI S)), (13, .inl (nI k))], [.inl (nI (sp_set (sp_dg g S k) false))], h1) _
          have Fh1 := jg_fr_tr Fm Fh1
          have us := sp_set_lt Wk (kept := false)
          have ed : sp_dg g S (k + 1) = sp_hour (sp_dg g S k) false := if_neg hb
          have ew : sp_wt S (t - 1) (k + 1) = sp_wt S (t - 1) k * (t - 1) := by show sp_wt S (t - 1) k * _ = _; rw [if_neg hb]
          refine jt_go jm_m217 80 1 (f' := (155, [(14, .inl (nI (sp_set (sp_dg g S k) false))), (11, .inr (.inl (lN ((sp_wt S (t - 1) k) * (t - 1))))), (0, .inr (.inr (4, 0, 0))), (1, .inl (nI c)), (2, .inl (nI d)), (3, .inl (nI n)), (4, .inl (nI t)), (5, .inl (nI w)), (6, .inr (.inl (lN A))), (8, .inr (.inl (lN B))), (10, .inl (nI S)), (13, .inl (nI k))], [], h1)) (P := True) rfl trivial ?_
          refine jt_inc jm_m217 81 (c := k) (L' := [(13, .inl (nI (k + 1))), (14, .inl (nI (sp_set (sp_dg g S k) false))), (11, .inr (.inl (lN ((sp_wt S (t - 1) k) * (t - 1))))), (0, .inr (.inr (4, 0, 0))), (1, .inl (nI c)), (2, .inl (nI d)), (3, .inl (nI n)), (4, .inl (nI t)), (5, .inl (nI w)), (6, .inr (.inl (lN A))), (8, .inr (.inl (lN B))), (10, .inl (nI S))]) rfl rfl rfl rfl ?_
          refine jt_go jm_m217 82 1 (f' := (109, [(13, .inl (nI (k + 1))), (14, .inl (nI (sp_set (sp_dg g S k) false))), (11, .inr (.inl (lN ((sp_wt S (t - 1) k) * (t - 1))))), (0, .inr (.inr (4, 0, 0))), (1, .inl (nI c)), (2, .inl (nI d)), (3, .inl (nI n)), (4, .inl (nI t)), (5, .inl (nI w)), (6, .inr (.inl (lN A))), (8, .inr (.inl (lN B))), (10, .inl (nI S))], [], h1)) (P := True) rfl trivial ?_
          refine jt_pick (L' := [(0, .inr (.inr (4, 0, 0))), (1, .inl (nI c)), (2, .inl (nI d)), (3, .inl (nI n)), (4, .inl (nI t)), (5, .inl (nI w)), (6, .inr (.inl (lN A))), (8, .inr (.inl (lN B))), (10, .inl (nI S)), (11, .inr (.inl (lN ((sp_wt S (t - 1) k) * (t - 1))))), (13, .inl (nI (k + 1)))]) [3, 4, 5, 6, 7, 8, 9, 10, 11, 2, 0] rfl ?_
          have q := nx (by omega) h1 (by rw [ed]; exact Rh1) Fh1
          rw [ew] at q
          exact q
      · exact absurd c124 (by decide))
set_option maxHeartbeats 4000000 in
set_option maxRecDepth 20000 in
theorem cb_below_i {h : jm_M} {Q : Option jm_V → jm_M → Prop} {A c d n t w : Nat} (hnn : n ≤ 7) (ht : t ≤ 20) (hend : jt_T 217 (81, [(0, .inr (.inr (4, 0, 0))), (1, .inl (nI c)), (2, .inl (nI d)), (3, .inl (nI n)), (4, .inl (nI t)), (5, .inl (nI w)), (6, .inr (.inl (lN A))), (8, .inr (.inl (lN (t ^ n)))), (10, .inl (nI n))], [], h) Q) : ∀ k, k ≤ n → jt_T 217 (61, [(0, .inr (.inr (4, 0, 0))), (1, .inl (nI c)), (2, .inl (nI d)), (3, .inl (nI n)), (4, .inl (nI t)), (5, .inl (nI w)), (6, .inr (.inl (lN A))), (8, .inr (.inl (lN (t ^ k)))), (10, .inl (nI k))], [], h) Q := jx_up (P := fun k => jt_T 217 (61, [(0, .inr (.inr (4, 0, 0))), (1, .inl (nI c)), (2, .inl (nI d)), (3, .inl (nI n)), (4, .inl (nI t)), (5, .inl (nI w)), (6, .inr (.inl (lN A))), (8, .inr (.inl (lN (t ^ k)))), (10, .inl (nI k))], [], h) Q) (fun k hk nx => by
  refine jt_go jm_m217 32 2 (f' := (64, [(0, .inr (.inr (4, 0, 0))), (1, .inl (nI c)), (2, .inl (nI d)), (3, .inl (nI n)), (4, .inl (nI t)), (5, .inl (nI w)), (6, .inr (.inl (lN A))), (8, .inr (.inl (lN (t ^ k)))), (10, .inl (nI k))], [.inl (nI n), .inl (nI k)], h)) (P := True) rfl trivial ?_
  refine jt_nicge jm_m217 34 (a := k) (b := n) (by omega) (by omega) (tgt := 81) (nxt := 67) rfl rfl rfl (fun c64 => ?_) (fun c64 => ?_)
  · refine jt_pick (L' := [(0, .inr (.inr (4, 0, 0))), (1, .inl (nI c)), (2, .inl (nI d)), (3, .inl (nI n)), (4, .inl (nI t)), (5, .inl (nI w)), (6, .inr (.inl (lN A))), (8, .inr (.inl (lN (t ^ k)))), (10, .inl (nI k))]) [0, 1, 2, 3, 4, 5, 6, 7, 8] rfl ?_
    have e : k = n := by omega
    subst e
    exact hend
  · refine jt_go jm_m217 35 3 (f' := (72, [(0, .inr (.inr (4, 0, 0))), (1, .inl (nI c)), (2, .inl (nI d)), (3, .inl (nI n)), (4, .inl (nI t)), (5, .inl (nI w)), (6, .inr (.inl (lN A))), (8, .inr (.inl (lN (t ^ k)))), (10, .inl (nI k))], [.inr (.inl ((nI t).toInt64)), .inr (.inl (lN (t ^ k)))], h)) (P := True) rfl trivial ?_
    refine jt_tl (show ((nI t).toInt64) = lN t from nI_l (by omega)) ?_
    refine jt_go jm_m217 38 1 (f' := (73, [(0, .inr (.inr (4, 0, 0))), (1, .inl (nI c)), (2, .inl (nI d)), (3, .inl (nI n)), (4, .inl (nI t)), (5, .inl (nI w)), (6, .inr (.inl (lN A))), (8, .inr (.inl (lN (t ^ k)))), (10, .inl (nI k))], [.inr (.inl ((lN (t ^ k)) * (lN t)))], h)) (P := True) rfl trivial ?_
    refine jt_tl (show ((lN (t ^ k)) * (lN t)) = lN ((t ^ k) * t) from lN_mul _ _) ?_
    refine jt_go jm_m217 39 1 (f' := (75, [(8, .inr (.inl (lN ((t ^ k) * t)))), (0, .inr (.inr (4, 0, 0))), (1, .inl (nI c)), (2, .inl (nI d)), (3, .inl (nI n)), (4, .inl (nI t)), (5, .inl (nI w)), (6, .inr (.inl (lN A))), (10, .inl (nI k))], [], h)) (P := True) rfl trivial ?_
    refine jt_inc jm_m217 40 (c := k) (L' := [(10, .inl (nI (k + 1))), (8, .inr (.inl (lN ((t ^ k) * t)))), (0, .inr (.inr (4, 0, 0))), (1, .inl (nI c)), (2, .inl (nI d)), (3, .inl (nI n)), (4, .inl (nI t)), (5, .inl (nI w)), (6, .inr (.inl (lN A)))]) rfl rfl rfl rfl ?_
    refine jt_go jm_m217 41 1 (f' := (61, [(10, .inl (nI (k + 1))), (8, .inr (.inl (lN ((t ^ k) * t)))), (0, .inr (.inr (4, 0, 0))), (1, .inl (nI c)), (2, .inl (nI d)), (3, .inl (nI n)), (4, .inl (nI t)), (5, .inl (nI w)), (6, .inr (.inl (lN A)))], [], h)) (P := True) rfl trivial ?_
    refine jt_pick (L' := [(0, .inr (.inr (4, 0, 0))), (1, .inl (nI c)), (2, .inl (nI d)), (3, .inl (nI n)), (4, .inl (nI t)), (5, .inl (nI w)), (6, .inr (.inl (lN A))), (8, .inr (.inl (lN ((t ^ k) * t)))), (10, .inl (nI (k + 1)))]) [2, 3, 4, 5, 6, 7, 8, 1, 0] rfl ?_
    have q := nx (by omega)
    rw [Nat.pow_succ] at q
    exact q)
set_option maxHeartbeats 4000000 in
set_option maxRecDepth 20000 in
theorem cb_dogs_l {h : jm_M} {g : Nat → Nat} (W : jw g) {c d n t w : Nat} (hc : c < g 0) (hd : d ≤ 1) (hnn : n ≤ 7) (ht : t ≤ 20) (ht2 : 2 ≤ t) (hw : w ≤ 1) : ∀ S, S ≤ 2 ^ n → ∀ hm : jm_M, (jg_rel hm 0 g) → (jg_fr 1 h hm) → jt_T 217 (84, [(0, .inr (.inr (4, 0, 0))), (1, .inl (nI c)), (2, .inl (nI d)), (3, .inl (nI n)), (4, .inl (nI t)), (5, .inl (nI w)), (6, .inr (.inl (lN (sp_ds g c d n t S)))), (8, .inr (.inl (lN (t ^ n)))), (10, .inl (nI S))], [], hm) (fun u h' => u = some (.inr (.inl (zb_dogs g c d n t w))) ∧ jg_fr 1 h h') := jx_up (P := fun S => ∀ hm : jm_M, (jg_rel hm 0 g) → (jg_fr 1 h hm) → jt_T 217 (84, [(0, .inr (.inr (4, 0, 0))), (1, .inl (nI c)), (2, .inl (nI d)), (3, .inl (nI n)), (4, .inl (nI t)), (5, .inl (nI w)), (6, .inr (.inl (lN (sp_ds g c d n t S)))), (8, .inr (.inl (lN (t ^ n)))), (10, .inl (nI S))], [], hm) (fun u h' => u = some (.inr (.inl (zb_dogs g c d n t w))) ∧ jg_fr 1 h h')) (fun S hk nx hm Zm Fm => by
  have bn := jw_n W
  have bm := jw_m W
  have bt := jw_t W
  have p1 := sp_p7 hnn
  have p2 := sp_ds_le g c d n t S ht hnn (by omega)
  have p3 : 0 < 2 ^ n := Nat.two_pow_pos n
  have p4 := sp_pw_lt ht hnn
  have p5 : 0 < t ^ n := Nat.pow_pos (by omega)
  refine jt_go jm_m217 44 4 (f' := (89, [(0, .inr (.inr (4, 0, 0))), (1, .inl (nI c)), (2, .inl (nI d)), (3, .inl (nI n)), (4, .inl (nI t)), (5, .inl (nI w)), (6, .inr (.inl (lN (sp_ds g c d n t S)))), (8, .inr (.inl (lN (t ^ n)))), (10, .inl (nI S))], [.inl ((nI 1) <<< ((nI n) &&& 31)), .inl (nI S)], hm)) (P := True) rfl trivial ?_
  refine jt_ti (show ((nI 1) <<< ((nI n) &&& 31)) = nI (2 ^ n) from jx_shl _ (by omega)) ?_
  refine jt_nicge jm_m217 48 (a := S) (b := 2 ^ n) (by omega) (by omega) (tgt := 195) (nxt := 92) rfl rfl rfl (fun c89 => ?_) (fun c89 => ?_)
  · refine jt_go jm_m217 100 3 (f' := (201, [(0, .inr (.inr (4, 0, 0))), (1, .inl (nI c)), (2, .inl (nI d)), (3, .inl (nI n)), (4, .inl (nI t)), (5, .inl (nI w)), (6, .inr (.inl (lN (sp_ds g c d n t S)))), (8, .inr (.inl (lN (t ^ n)))), (10, .inl (nI S))], [.inl (nI w), .inr (.inl (lN (t ^ n))), .inr (.inl (lN (sp_ds g c d n t S)))], hm)) (P := True) rfl trivial ?_
    refine jt_callp (w := .inr (.inl (lN (sp_frac (sp_ds g c d n t S) (t ^ n) w)))) jm_m217 103 (mi' := 216) (as := [.inr (.inl (lN (sp_ds g c d n t S))), .inr (.inl (lN (t ^ n))), .inl (nI w)]) (rest := []) (nxt := 204) rfl rfl jm_m216 rfl rfl (cb_frac (by omega) (by omega) (by omega) (by omega)) ?_
    refine jt_lret jm_m217 104 rfl ?_
    have e : S = 2 ^ n := by omega
    subst e
    exact ⟨rfl, Fm⟩
  · refine jt_go jm_m217 49 6 (f' := (103, [(11, .inr (.inl (lN 1))), (0, .inr (.inr (4, 0, 0))), (1, .inl (nI c)), (2, .inl (nI d)), (3, .inl (nI n)), (4, .inl (nI t)), (5, .inl (nI w)), (6, .inr (.inl (lN (sp_ds g c d n t S)))), (8, .inr (.inl (lN (t ^ n)))), (10, .inl (nI S))], [.inr (.inr (5, 1, 0)), .inr (.inr (5, 0, 0))], hm)) (P := True) rfl trivial ?_
    refine jt_call jm_m217 55 (mi' := 146) (as := [.inr (.inr (5, 0, 0)), .inr (.inr (5, 1, 0))]) (rest := []) (nxt := 106) rfl rfl jm_m146 rfl rfl (tb_copies Zm (by decide)) ?_
    rintro u h1 ⟨rfl, Rh1, Fh1⟩
    show jt_T 217 (106, [(11, .inr (.inl (lN 1))), (0, .inr (.inr (4, 0, 0))), (1, .inl (nI c)), (2, .inl (nI d)), (3, .inl (nI n)), (4, .inl (nI t)), (5, .inl (nI w)), (6, .inr (.inl (lN (sp_ds g c d n t S)))), (8, .inr (.inl (lN (t ^ n)))), (10, .inl (nI S))], [], h1) _
    have Rh1 : jg_rel h1 1 g := Rh1
    have Wh1 : jw (g) := W
    have Zh1 := jg_mov0 Zm Fh1
    have Fh1 := jg_fr_tr Fm Fh1
    refine jt_go jm_m217 56 2 (f' := (109, [(13, .inl (nI 0)), (11, .inr (.inl (lN 1))), (0, .inr (.inr (4, 0, 0))), (1, .inl (nI c)), (2, .inl (nI d)), (3, .inl (nI n)), (4, .inl (nI t)), (5, .inl (nI w)), (6, .inr (.inl (lN (sp_ds g c d n t S)))), (8, .inr (.inl (lN (t ^ n)))), (10, .inl (nI S))], [], h1)) (P := True) rfl trivial ?_
    refine jt_pick (L' := [(0, .inr (.inr (4, 0, 0))), (1, .inl (nI c)), (2, .inl (nI d)), (3, .inl (nI n)), (4, .inl (nI t)), (5, .inl (nI w)), (6, .inr (.inl (lN (sp_ds g c d n t S)))), (8, .inr (.inl (lN (t ^ n)))), (10, .inl (nI S)), (11, .inr (.inl (lN 1))), (13, .inl (nI 0))]) [2, 3, 4, 5, 6, 7, 8, 9, 10, 1, 0] rfl ?_
    refine cb_dogh_i (A := sp_ds g c d n t S) (B := t ^ n) (c := c) (d := d) (w := w) W (by omega) hnn ht ht2 (fun h9 Rh9 Gh9 => ?_) 0 (Nat.zero_le _) h1 Rh1 jg_fr_rf
    have Zh9 := jg_mov0 Zh1 Gh9
    have Fh9 := jg_fr_tr Fh1 Gh9
    have Wh9 := (jw_dg W S n).1
    have bw := sp_wt_lt (S := S) ht hnn
    show jt_T 217 (161, [(0, .inr (.inr (4, 0, 0))), (1, .inl (nI c)), (2, .inl (nI d)), (3, .inl (nI n)), (4, .inl (nI t)), (5, .inl (nI w)), (6, .inr (.inl (lN (sp_ds g c d n t S)))), (8, .inr (.inl (lN (t ^ n)))), (10, .inl (nI S)), (11, .inr (.inl (lN (sp_wt S (t - 1) n)))), (13, .inl (nI n))], [], h9) _
    refine jt_go jm_m217 83 5 (f' := (169, [(0, .inr (.inr (4, 0, 0))), (1, .inl (nI c)), (2, .inl (nI d)), (3, .inl (nI n)), (4, .inl (nI t)), (5, .inl (nI w)), (6, .inr (.inl (lN (sp_ds g c d n t S)))), (8, .inr (.inl (lN (t ^ n)))), (10, .inl (nI S)), (11, .inr (.inl (lN (sp_wt S (t - 1) n)))), (13, .inl (nI n))], [.inl (nI 2), .inl (nI c), .inr (.inr (5, 1, 0)), .inr (.inl (lN (sp_ds g c d n t S)))], h9)) (P := True) rfl trivial ?_
    refine jt_callp (w := .inl (nI (38 + 5 * c))) jm_m217 88 (mi' := 147) (as := [.inl (nI c), .inl (nI 2)]) (rest := [.inr (.inr (5, 1, 0)), .inr (.inl (lN (sp_ds g c d n t S)))]) (nxt := 172) rfl rfl jm_m147 rfl rfl (tb_ofC (k := 38 + 5 * c) (by omega)) ?_
    refine jt_go jm_m217 89 1 (f' := (173, [(0, .inr (.inr (4, 0, 0))), (1, .inl (nI c)), (2, .inl (nI d)), (3, .inl (nI n)), (4, .inl (nI t)), (5, .inl (nI w)), (6, .inr (.inl (lN (sp_ds g c d n t S)))), (8, .inr (.inl (lN (t ^ n)))), (10, .inl (nI S)), (11, .inr (.inl (lN (sp_wt S (t - 1) n)))), (13, .inl (nI n))], [.inl (h9 (5, 1, 0) (nI (38 + 5 * c)).toNatClampNeg), .inr (.inl (lN (sp_ds g c d n t S)))], h9)) (P := vp_in (nI (38 + 5 * c)) 78 ∧ True) rfl ⟨(vp_in_nI (by omega) (by decide)), trivial⟩ ?_
    refine jt_ti (show (h9 (5, 1, 0) (nI (38 + 5 * c)).toNatClampNeg) = nI ((sp_dg g S n) (38 + 5 * c)) from jg_get Rh9 (k := 38 + 5 * c) (nI_clamp (by omega)) (by omega)) ?_
    have bq1 := jw_at Wh9 (c := c) (by omega)
    refine jt_callp (w := .inl (nI (sp_sd ((sp_dg g S n) (38 + 5 * c))))) jm_m217 90 (mi' := 154) (as := [.inl (nI ((sp_dg g S n) (38 + 5 * c)))]) (rest := [.inr (.inl (lN (sp_ds g c d n t S)))]) (nxt := 176) rfl rfl jm_m154 rfl rfl (tb_sideOf (by omega)) ?_
    have bq2 := sp_sd_le ((sp_dg g S n) (38 + 5 * c))
    refine jt_go jm_m217 91 1 (f' := (177, [(0, .inr (.inr (4, 0, 0))), (1, .inl (nI c)), (2, .inl (nI d)), (3, .inl (nI n)), (4, .inl (nI t)), (5, .inl (nI w)), (6, .inr (.inl (lN (sp_ds g c d n t S)))), (8, .inr (.inl (lN (t ^ n)))), (10, .inl (nI S)), (11, .inr (.inl (lN (sp_wt S (t - 1) n)))), (13, .inl (nI n))], [.inl (nI d), .inl (nI (sp_sd ((sp_dg g S n) (38 + 5 * c)))), .inr (.inl (lN (sp_ds g c d n t S)))], h9)) (P := True) rfl trivial ?_
    refine jt_nicne jm_m217 92 (a := sp_sd ((sp_dg g S n) (38 + 5 * c))) (b := d) (by omega) (by omega) (tgt := 185) (nxt := 180) rfl rfl rfl (fun c177 => ?_) (fun c177 => ?_)
    · refine jt_go jm_m217 95 2 (f' := (187, [(0, .inr (.inr (4, 0, 0))), (1, .inl (nI c)), (2, .inl (nI d)), (3, .inl (nI n)), (4, .inl (nI t)), (5, .inl (nI w)), (6, .inr (.inl (lN (sp_ds g c d n t S)))), (8, .inr (.inl (lN (t ^ n)))), (10, .inl (nI S)), (11, .inr (.inl (lN (sp_wt S (t - 1) n)))), (13, .inl (nI n))], [.inr (.inl ((lN (sp_ds g c d n t S)) + (lN 0)))], h9)) (P := True) rfl trivial ?_
      refine jt_tl (show ((lN (sp_ds g c d n t S)) + (lN 0)) = lN (sp_ds g c d n t S) from Int64.add_zero _) ?_
      refine jt_go jm_m217 97 1 (f' := (189, [(6, .inr (.inl (lN (sp_ds g c d n t S)))), (0, .inr (.inr (4, 0, 0))), (1, .inl (nI c)), (2, .inl (nI d)), (3, .inl (nI n)), (4, .inl (nI t)), (5, .inl (nI w)), (8, .inr (.inl (lN (t ^ n)))), (10, .inl (nI S)), (11, .inr (.inl (lN (sp_wt S (t - 1) n)))), (13, .inl (nI n))], [], h9)) (P := True) rfl trivial ?_
      refine jt_inc jm_m217 98 (c := S) (L' := [(10, .inl (nI (S + 1))), (6, .inr (.inl (lN (sp_ds g c d n t S)))), (0, .inr (.inr (4, 0, 0))), (1, .inl (nI c)), (2, .inl (nI d)), (3, .inl (nI n)), (4, .inl (nI t)), (5, .inl (nI w)), (8, .inr (.inl (lN (t ^ n)))), (11, .inr (.inl (lN (sp_wt S (t - 1) n)))), (13, .inl (nI n))]) rfl rfl rfl rfl ?_
      refine jt_go jm_m217 99 1 (f' := (84, [(10, .inl (nI (S + 1))), (6, .inr (.inl (lN (sp_ds g c d n t S)))), (0, .inr (.inr (4, 0, 0))), (1, .inl (nI c)), (2, .inl (nI d)), (3, .inl (nI n)), (4, .inl (nI t)), (5, .inl (nI w)), (8, .inr (.inl (lN (t ^ n)))), (11, .inr (.inl (lN (sp_wt S (t - 1) n)))), (13, .inl (nI n))], [], h9)) (P := True) rfl trivial ?_
      refine jt_pick (L' := [(0, .inr (.inr (4, 0, 0))), (1, .inl (nI c)), (2, .inl (nI d)), (3, .inl (nI n)), (4, .inl (nI t)), (5, .inl (nI w)), (6, .inr (.inl (lN (sp_ds g c d n t S)))), (8, .inr (.inl (lN (t ^ n)))), (10, .inl (nI (S + 1)))]) [2, 3, 4, 5, 6, 7, 1, 8, 0] rfl ?_
      have e : sp_ds g c d n t (S + 1) = sp_ds g c d n t S := by show sp_ds g c d n t S + (if _ then _ else _) = _; rw [if_neg c177, Nat.add_zero]
      have q := nx (by omega) h9 Zh9 Fh9
      rw [e] at q
      exact q
    · refine jt_go jm_m217 93 2 (f' := (186, [(0, .inr (.inr (4, 0, 0))), (1, .inl (nI c)), (2, .inl (nI d)), (3, .inl (nI n)), (4, .inl (nI t)), (5, .inl (nI w)), (6, .inr (.inl (lN (sp_ds g c d n t S)))), (8, .inr (.inl (lN (t ^ n)))), (10, .inl (nI S)), (11, .inr (.inl (lN (sp_wt S (t - 1) n)))), (13, .inl (nI n))], [.inr (.inl (lN (sp_wt S (t - 1) n))), .inr (.inl (lN (sp_ds g c d n t S)))], h9)) (P := True) rfl trivial ?_
      refine jt_go jm_m217 96 1 (f' := (187, [(0, .inr (.inr (4, 0, 0))), (1, .inl (nI c)), (2, .inl (nI d)), (3, .inl (nI n)), (4, .inl (nI t)), (5, .inl (nI w)), (6, .inr (.inl (lN (sp_ds g c d n t S)))), (8, .inr (.inl (lN (t ^ n)))), (10, .inl (nI S)), (11, .inr (.inl (lN (sp_wt S (t - 1) n)))), (13, .inl (nI n))], [.inr (.inl ((lN (sp_ds g c d n t S)) + (lN (sp_wt S (t - 1) n))))], h9)) (P := True) rfl trivial ?_
      refine jt_tl (show ((lN (sp_ds g c d n t S)) + (lN (sp_wt S (t - 1) n))) = lN (sp_ds g c d n t S + (sp_wt S (t - 1) n)) from lN_add _ _) ?_
      refine jt_go jm_m217 97 1 (f' := (189, [(6, .inr (.inl (lN (sp_ds g c d n t S + (sp_wt S (t - 1) n))))), (0, .inr (.inr (4, 0, 0))), (1, .inl (nI c)), (2, .inl (nI d)), (3, .inl (nI n)), (4, .inl (nI t)), (5, .inl (nI w)), (8, .inr (.inl (lN (t ^ n)))), (10, .inl (nI S)), (11, .inr (.inl (lN (sp_wt S (t - 1) n)))), (13, .inl (nI n))], [], h9)) (P := True) rfl trivial ?_
      refine jt_inc jm_m217 98 (c := S) (L' := [(10, .inl (nI (S + 1))), (6, .inr (.inl (lN (sp_ds g c d n t S + (sp_wt S (t - 1) n))))), (0, .inr (.inr (4, 0, 0))), (1, .inl (nI c)), (2, .inl (nI d)), (3, .inl (nI n)), (4, .inl (nI t)), (5, .inl (nI w)), (8, .inr (.inl (lN (t ^ n)))), (11, .inr (.inl (lN (sp_wt S (t - 1) n)))), (13, .inl (nI n))]) rfl rfl rfl rfl ?_
      refine jt_go jm_m217 99 1 (f' := (84, [(10, .inl (nI (S + 1))), (6, .inr (.inl (lN (sp_ds g c d n t S + (sp_wt S (t - 1) n))))), (0, .inr (.inr (4, 0, 0))), (1, .inl (nI c)), (2, .inl (nI d)), (3, .inl (nI n)), (4, .inl (nI t)), (5, .inl (nI w)), (8, .inr (.inl (lN (t ^ n)))), (11, .inr (.inl (lN (sp_wt S (t - 1) n)))), (13, .inl (nI n))], [], h9)) (P := True) rfl trivial ?_
      refine jt_pick (L' := [(0, .inr (.inr (4, 0, 0))), (1, .inl (nI c)), (2, .inl (nI d)), (3, .inl (nI n)), (4, .inl (nI t)), (5, .inl (nI w)), (6, .inr (.inl (lN (sp_ds g c d n t S + (sp_wt S (t - 1) n))))), (8, .inr (.inl (lN (t ^ n)))), (10, .inl (nI (S + 1)))]) [2, 3, 4, 5, 6, 7, 1, 8, 0] rfl ?_
      have e : sp_ds g c d n t (S + 1) = sp_ds g c d n t S + (sp_wt S (t - 1) n) := by show sp_ds g c d n t S + (if _ then _ else _) = _; rw [if_pos c177]
      have q := nx (by omega) h9 Zh9 Fh9
      rw [e] at q
      exact q)
set_option maxHeartbeats 4000000 in
set_option maxRecDepth 20000 in
theorem cb_dogs {h : jm_M} {g : Nat → Nat} (R : jg_rel h 0 g) (W : jw g) {x y z v q : Int32} : jt_T 217 (0, [(0, .inr (.inr (4, 0, 0))), (1, .inl (x)), (2, .inl (y)), (3, .inl (z)), (4, .inl (v)), (5, .inl (q))], [], h) (fun u h' => u = some (.inr (.inl (za_dogs g x y z v q))) ∧ jg_fr 1 h h') := by
  have bn := jw_n W
  have bm := jw_m W
  have bt := jw_t W
  refine jt_go jm_m217 0 2 (f' := (2, [(0, .inr (.inr (4, 0, 0))), (1, .inl (x)), (2, .inl (y)), (3, .inl (z)), (4, .inl (v)), (5, .inl (q))], [.inl (x), .inr (.inr (4, 0, 0))], h)) (P := True) rfl trivial ?_
  refine jt_callp (w := .inl (jm_b (nI 0 ≤ x ∧ x < nI (g 0)))) jm_m217 2 (mi' := 149) (as := [.inr (.inr (4, 0, 0)), .inl (x)]) (rest := []) (nxt := 5) rfl rfl jm_m149 rfl rfl (tb_isCat R W) ?_
  refine jt_ifbeq jm_m217 3 (tgt := 48) (nxt := 8) rfl rfl rfl (fun c5 => ?_) (fun c5 => ?_)
  · refine jt_go jm_m217 24 1 (f' := (51, [(0, .inr (.inr (4, 0, 0))), (1, .inl (x)), (2, .inl (y)), (3, .inl (z)), (4, .inl (v)), (5, .inl (q))], [.inr (.inl (lN 1000000001))], h)) (P := True) rfl trivial ?_
    refine jt_lret jm_m217 25 rfl ?_
    exact ⟨jl_rt (if_neg (fun z => c5 z.1)).symm, jg_fr_rf⟩
  · obtain ⟨c, hbc, rfl⟩ := jx_cat (by omega) c5
    refine jt_go jm_m217 4 3 (f' := (11, [(0, .inr (.inr (4, 0, 0))), (1, .inl (nI c)), (2, .inl (y)), (3, .inl (z)), (4, .inl (v)), (5, .inl (q))], [.inl (nI 1), .inl (nI 0), .inl (y)], h)) (P := True) rfl trivial ?_
    refine jt_callp (w := .inl (jm_b (nI 0 ≤ y ∧ y ≤ nI 1))) jm_m217 7 (mi' := 143) (as := [.inl (y), .inl (nI 0), .inl (nI 1)]) (rest := []) (nxt := 14) rfl rfl jm_m143 rfl rfl (tb_isIn) ?_
    refine jt_ifbeq jm_m217 8 (tgt := 48) (nxt := 17) rfl rfl rfl (fun c14 => ?_) (fun c14 => ?_)
    · refine jt_go jm_m217 24 1 (f' := (51, [(0, .inr (.inr (4, 0, 0))), (1, .inl (nI c)), (2, .inl (y)), (3, .inl (z)), (4, .inl (v)), (5, .inl (q))], [.inr (.inl (lN 1000000001))], h)) (P := True) rfl trivial ?_
      refine jt_lret jm_m217 25 rfl ?_
      exact ⟨jl_rt (if_neg (fun z => c14 z.2.1)).symm, jg_fr_rf⟩
    · obtain ⟨d, hbd, rfl⟩ := jx_win (by decide) c14
      refine jt_go jm_m217 9 3 (f' := (21, [(0, .inr (.inr (4, 0, 0))), (1, .inl (nI c)), (2, .inl (nI d)), (3, .inl (z)), (4, .inl (v)), (5, .inl (q))], [.inl (nI 7), .inl (nI 0), .inl (z)], h)) (P := True) rfl trivial ?_
      refine jt_callp (w := .inl (jm_b (nI 0 ≤ z ∧ z ≤ nI 7))) jm_m217 12 (mi' := 143) (as := [.inl (z), .inl (nI 0), .inl (nI 7)]) (rest := []) (nxt := 24) rfl rfl jm_m143 rfl rfl (tb_isIn) ?_
      refine jt_ifbeq jm_m217 13 (tgt := 48) (nxt := 27) rfl rfl rfl (fun c24 => ?_) (fun c24 => ?_)
      · refine jt_go jm_m217 24 1 (f' := (51, [(0, .inr (.inr (4, 0, 0))), (1, .inl (nI c)), (2, .inl (nI d)), (3, .inl (z)), (4, .inl (v)), (5, .inl (q))], [.inr (.inl (lN 1000000001))], h)) (P := True) rfl trivial ?_
        refine jt_lret jm_m217 25 rfl ?_
        exact ⟨jl_rt (if_neg (fun z => c24 z.2.2.1)).symm, jg_fr_rf⟩
      · obtain ⟨n, hbn, rfl⟩ := jx_win (by decide) c24
        refine jt_go jm_m217 14 3 (f' := (32, [(0, .inr (.inr (4, 0, 0))), (1, .inl (nI c)), (2, .inl (nI d)), (3, .inl (nI n)), (4, .inl (v)), (5, .inl (q))], [.inl (nI 20), .inl (nI 2), .inl (v)], h)) (P := True) rfl trivial ?_
        refine jt_callp (w := .inl (jm_b (nI 2 ≤ v ∧ v ≤ nI 20))) jm_m217 17 (mi' := 143) (as := [.inl (v), .inl (nI 2), .inl (nI 20)]) (rest := []) (nxt := 35) rfl rfl jm_m143 rfl rfl (tb_isIn) ?_
        refine jt_ifbeq jm_m217 18 (tgt := 48) (nxt := 38) rfl rfl rfl (fun c35 => ?_) (fun c35 => ?_)
        · refine jt_go jm_m217 24 1 (f' := (51, [(0, .inr (.inr (4, 0, 0))), (1, .inl (nI c)), (2, .inl (nI d)), (3, .inl (nI n)), (4, .inl (v)), (5, .inl (q))], [.inr (.inl (lN 1000000001))], h)) (P := True) rfl trivial ?_
          refine jt_lret jm_m217 25 rfl ?_
          exact ⟨jl_rt (if_neg (fun z => c35 z.2.2.2.1)).symm, jg_fr_rf⟩
        · obtain ⟨t, gt, hbt, rfl⟩ := jx_win2 (by decide) (by decide) c35
          refine jt_go jm_m217 19 3 (f' := (42, [(0, .inr (.inr (4, 0, 0))), (1, .inl (nI c)), (2, .inl (nI d)), (3, .inl (nI n)), (4, .inl (nI t)), (5, .inl (q))], [.inl (nI 1), .inl (nI 0), .inl (q)], h)) (P := True) rfl trivial ?_
          refine jt_callp (w := .inl (jm_b (nI 0 ≤ q ∧ q ≤ nI 1))) jm_m217 22 (mi' := 143) (as := [.inl (q), .inl (nI 0), .inl (nI 1)]) (rest := []) (nxt := 45) rfl rfl jm_m143 rfl rfl (tb_isIn) ?_
          refine jt_ifbne jm_m217 23 (tgt := 52) (nxt := 48) rfl rfl rfl (fun c45 => ?_) (fun c45 => ?_)
          · obtain ⟨w, hbw, rfl⟩ := jx_win (by decide) c45
            refine jt_go jm_m217 26 6 (f' := (61, [(10, .inl (nI 0)), (8, .inr (.inl (lN 1))), (6, .inr (.inl (lN 0))), (0, .inr (.inr (4, 0, 0))), (1, .inl (nI c)), (2, .inl (nI d)), (3, .inl (nI n)), (4, .inl (nI t)), (5, .inl (nI w))], [], h)) (P := True) rfl trivial ?_
            refine jt_pick (L' := [(0, .inr (.inr (4, 0, 0))), (1, .inl (nI c)), (2, .inl (nI d)), (3, .inl (nI n)), (4, .inl (nI t)), (5, .inl (nI w)), (6, .inr (.inl (lN 0))), (8, .inr (.inl (lN 1))), (10, .inl (nI 0))]) [3, 4, 5, 6, 7, 8, 2, 1, 0] rfl ?_
            refine cb_below_i (A := 0) (c := c) (d := d) (n := n) (t := t) (w := w) hbn hbt ?_ 0 (Nat.zero_le _)
            refine jt_go jm_m217 42 2 (f' := (84, [(10, .inl (nI 0)), (0, .inr (.inr (4, 0, 0))), (1, .inl (nI c)), (2, .inl (nI d)), (3, .inl (nI n)), (4, .inl (nI t)), (5, .inl (nI w)), (6, .inr (.inl (lN 0))), (8, .inr (.inl (lN (t ^ n))))], [], h)) (P := True) rfl trivial ?_
            refine jt_pick (L' := [(0, .inr (.inr (4, 0, 0))), (1, .inl (nI c)), (2, .inl (nI d)), (3, .inl (nI n)), (4, .inl (nI t)), (5, .inl (nI w)), (6, .inr (.inl (lN 0))), (8, .inr (.inl (lN (t ^ n)))), (10, .inl (nI 0))]) [1, 2, 3, 4, 5, 6, 7, 8, 0] rfl ?_
            refine jt_mono (cb_dogs_l W hbc hbd hbn hbt (by omega) hbw 0 (Nat.zero_le _) _ R jg_fr_rf) (fun u h2 zz => ⟨zz.1.trans (jl_rt ?_), zz.2⟩)
            unfold za_dogs
            refine Eq.trans ?_ (if_pos ⟨c5, c14, c24, c35, c45⟩).symm
            rw [nI_clamp (n := c) (by omega), nI_clamp (n := d) (by omega), nI_clamp (n := n) (by omega), nI_clamp (n := t) (by omega), nI_clamp (n := w) (by omega)]
          · refine jt_go jm_m217 24 1 (f' := (51, [(0, .inr (.inr (4, 0, 0))), (1, .inl (nI c)), (2, .inl (nI d)), (3, .inl (nI n)), (4, .inl (nI t)), (5, .inl (q))], [.inr (.inl (lN 1000000001))], h)) (P := True) rfl trivial ?_
            refine jt_lret jm_m217 25 rfl ?_
            exact ⟨jl_rt (if_neg (fun z => c45 z.2.2.2.2)).symm, jg_fr_rf⟩
