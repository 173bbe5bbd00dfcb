/-! TEXT: one statement. -/
set_option maxHeartbeats 4000000 in
set_option maxRecDepth 20000 in
theorem tk_bad_s {h : jm_M} {s : Nat → Nat → Nat} {e : Nat → Nat → Int32} (K : jk_rel h s e) (Y : kw s) (B : ke s e) {d : Nat} (hd : d ≤ 7) (qa : s d 0 = 2) (q3 : s d 3 = 0) {p : Nat} (hp : p ≤ 100) {Q : Option jm_V → jm_M → Prop} (kont : st_bad s e d p = none → p + dg (cc s e d p) + 2 < s d 4 → jt_T 58 (2, [(1, .inl (nI (p + dg (cc s e d p) + 2))), (0, .inr (.inr (3, d, 0)))], [], h) Q) (res : ∀ q, st_bad s e d p = some q → Q (some (.inl (nI q))) h) (fin : st_bad s e d p = none → ¬ p + dg (cc s e d p) + 2 < s d 4 → Q (some (.inl (-1))) h) : jt_T 58 (2, [(1, .inl (nI p)), (0, .inr (.inr (3, d, 0)))], [], h) (Q) := by
  refine jt_go jm_m58 2 2 (f' := (4, [(1, .inl (nI p)), (0, .inr (.inr (3, d, 0)))], [.inl (nI p), .inr (.inr (3, d, 0))], h)) (P := True) rfl trivial ?_
  refine jt_callp (w := .inl (tg s e d p)) jm_m58 4 (mi' := 46) (as := [.inr (.inr (3, d, 0)), .inl (nI p)]) (rest := []) (nxt := 7) rfl rfl jm_m46 rfl rfl (tk_getx K Y (by omega) (by assumption) (by omega)) ?_
  rcases tg_cs B Y hd qa q3 p with ⟨c, hc, et, ec⟩ | ⟨et, ec⟩
  · refine jt_ti (show tg s e d p = nI c from et) ?_
    show jt_T 58 (7, [(1, .inl (nI p)), (0, .inr (.inr (3, d, 0)))], [.inl (nI c)], h) _
    refine jt_callp (w := .inl (nI (dg c))) jm_m58 5 (mi' := 56) (as := [.inl (nI c)]) (rest := []) (nxt := 10) rfl rfl jm_m56 rfl rfl (tk_dig (by omega)) ?_
    have bdc := dg_le c
    refine jt_go jm_m58 6 2 (f' := (12, [(2, .inl (nI (dg c))), (1, .inl (nI p)), (0, .inr (.inr (3, d, 0)))], [.inl (nI (dg c))], h)) (P := True) rfl trivial ?_
    refine jt_nifne jm_m58 8 (by omega) (tgt := 17) (nxt := 15) rfl rfl rfl (fun c12 => ?_) (fun c12 => ?_)
    · refine jt_go jm_m58 11 3 (f' := (20, [(2, .inl (nI (dg c))), (1, .inl (nI p)), (0, .inr (.inr (3, d, 0)))], [.inl ((nI p) + (nI 1))], h)) (P := True) rfl trivial ?_
      refine jt_ti (show ((nI p) + (nI 1)) = nI (p + 1) from nI_add _ _) ?_
      refine jt_go jm_m58 14 1 (f' := (21, [(3, .inl (nI (p + 1))), (2, .inl (nI (dg c))), (1, .inl (nI p)), (0, .inr (.inr (3, d, 0)))], [], h)) (P := True) rfl trivial ?_
      refine jt_pick (L' := [(3, .inl (nI (p + 1))), (2, .inl (nI (dg c))), (1, .inl (nI p)), (0, .inr (.inr (3, d, 0)))]) [0, 1, 2, 3] rfl ?_
      have bd := dg_le c
      have z0 : dg (cc s e d p) = dg c := by rw [ec]
      refine tk_bad_d K Y B hd qa q3 (k := dg c) bd hp (fun A => ?_) (fun i h1 h2 A nd => ?_) 1 (by omega) (Nat.le_refl 1) (fun j h1 h2 => absurd h1 (by omega))
      · have n1 : sp_fi (fun i => decide (¬ dgt s e d (p + i))) 1 (dg c) = none := sp_fi_no2 _ _ (fun i h1 h2 z => (of_decide_eq_true z) (A i h1 (by omega)))
        have su : st_bad s e d p = if cc s e d (p + dg c + 1) = 59 then none else some (p + dg c + 1) := by
          unfold st_bad
          rw [z0, if_neg c12, n1]
        have stn : cc s e d (p + dg c + 1) = 59 → st_bad s e d p = none := fun q => su.trans (if_pos q)
        have stb : ¬ cc s e d (p + dg c + 1) = 59 → st_bad s e d p = some (p + dg c + 1) := fun q => su.trans (if_neg q)
        have bz := kw_z Y (d := d) (by omega) qa
        refine jt_go jm_m58 34 4 (f' := (60, [(3, .inl (nI (p + (dg c + 1)))), (2, .inl (nI (dg c))), (1, .inl (nI p)), (0, .inr (.inr (3, d, 0)))], [.inl ((nI p) + (nI (dg c))), .inr (.inr (3, d, 0))], h)) (P := True) rfl trivial ?_
        refine jt_ti (show ((nI p) + (nI (dg c))) = nI (p + dg c) from nI_add _ _) ?_
        refine jt_go jm_m58 38 2 (f' := (62, [(3, .inl (nI (p + (dg c + 1)))), (2, .inl (nI (dg c))), (1, .inl (nI p)), (0, .inr (.inr (3, d, 0)))], [.inl ((nI (p + dg c)) + (nI 1)), .inr (.inr (3, d, 0))], h)) (P := True) rfl trivial ?_
        refine jt_ti (show ((nI (p + dg c)) + (nI 1)) = nI (p + dg c + 1) from nI_add _ _) ?_
        refine jt_callp (w := .inl (tg s e d (p + dg c + 1))) jm_m58 40 (mi' := 46) (as := [.inr (.inr (3, d, 0)), .inl (nI (p + dg c + 1))]) (rest := []) (nxt := 65) rfl rfl jm_m46 rfl rfl (tk_getx K Y (by omega) (by assumption) (by omega)) ?_
        rcases tg_cs B Y hd qa q3 (p + dg c + 1) with ⟨c9, hc9, et9, ec9⟩ | ⟨et9, ec9⟩
        · refine jt_ti (show tg s e d (p + dg c + 1) = nI c9 from et9) ?_
          show jt_T 58 (65, [(3, .inl (nI (p + (dg c + 1)))), (2, .inl (nI (dg c))), (1, .inl (nI p)), (0, .inr (.inr (3, d, 0)))], [.inl (nI c9)], h) _
          refine jt_go jm_m58 41 1 (f' := (67, [(3, .inl (nI (p + (dg c + 1)))), (2, .inl (nI (dg c))), (1, .inl (nI p)), (0, .inr (.inr (3, d, 0)))], [.inl (nI 59), .inl (nI c9)], h)) (P := True) rfl trivial ?_
          refine jt_niceq jm_m58 42 (a := c9) (b := 59) (by omega) (by omega) (tgt := 76) (nxt := 70) rfl rfl rfl (fun c67 => ?_) (fun c67 => ?_)
          · refine jt_go jm_m58 49 4 (f' := (80, [(3, .inl (nI (p + (dg c + 1)))), (2, .inl (nI (dg c))), (1, .inl (nI p)), (0, .inr (.inr (3, d, 0)))], [.inl ((nI (dg c)) + (nI 2)), .inl (nI p)], h)) (P := True) rfl trivial ?_
            refine jt_ti (show ((nI (dg c)) + (nI 2)) = nI (dg c + 2) from nI_add _ _) ?_
            refine jt_go jm_m58 53 1 (f' := (81, [(3, .inl (nI (p + (dg c + 1)))), (2, .inl (nI (dg c))), (1, .inl (nI p)), (0, .inr (.inr (3, d, 0)))], [.inl ((nI p) + (nI (dg c + 2)))], h)) (P := True) rfl trivial ?_
            refine jt_ti (show ((nI p) + (nI (dg c + 2))) = nI (p + (dg c + 2)) from nI_add _ _) ?_
            refine jt_go jm_m58 54 4 (f' := (87, [(1, .inl (nI (p + (dg c + 2)))), (3, .inl (nI (p + (dg c + 1)))), (2, .inl (nI (dg c))), (0, .inr (.inr (3, d, 0)))], [.inl (h (3, d, 0) 4), .inl (nI (p + (dg c + 2)))], h)) (P := True) rfl trivial ?_
            refine jt_ti (show (h (3, d, 0) 4) = nI (s d 4) from jk_size K (d := d) (by omega) (by assumption)) ?_
            have bq1 := kw_z Y (d := d) (by omega) (by assumption)
            refine jt_niclt jm_m58 58 (a := p + (dg c + 2)) (b := s d 4) (by omega) (by omega) (tgt := 2) (nxt := 90) rfl rfl rfl (fun c87 => ?_) (fun c87 => ?_)
            · refine jt_pick (L' := [(1, .inl (nI (p + (dg c + 2)))), (0, .inr (.inr (3, d, 0)))]) [0, 3] rfl ?_
              have q := kont (stn (by omega)) (by omega)
              rw [z0] at q
              exact q
            · refine jt_go jm_m58 59 1 (f' := (91, [(1, .inl (nI (p + (dg c + 2)))), (3, .inl (nI (p + (dg c + 1)))), (2, .inl (nI (dg c))), (0, .inr (.inr (3, d, 0)))], [.inl ((-1))], h)) (P := True) rfl trivial ?_
              refine jt_iret jm_m58 60 rfl ?_
              exact fin (stn (by omega)) (by omega)
          · refine jt_go jm_m58 43 3 (f' := (73, [(3, .inl (nI (p + (dg c + 1)))), (2, .inl (nI (dg c))), (1, .inl (nI p)), (0, .inr (.inr (3, d, 0)))], [.inl ((nI p) + (nI (dg c)))], h)) (P := True) rfl trivial ?_
            refine jt_ti (show ((nI p) + (nI (dg c))) = nI (p + dg c) from nI_add _ _) ?_
            refine jt_go jm_m58 46 2 (f' := (75, [(3, .inl (nI (p + (dg c + 1)))), (2, .inl (nI (dg c))), (1, .inl (nI p)), (0, .inr (.inr (3, d, 0)))], [.inl ((nI (p + dg c)) + (nI 1))], h)) (P := True) rfl trivial ?_
            refine jt_ti (show ((nI (p + dg c)) + (nI 1)) = nI (p + dg c + 1) from nI_add _ _) ?_
            refine jt_iret jm_m58 48 rfl ?_
            refine res _ ?_
            exact stb (by omega)
        · show jt_T 58 (65, [(3, .inl (nI (p + (dg c + 1)))), (2, .inl (nI (dg c))), (1, .inl (nI p)), (0, .inr (.inr (3, d, 0)))], [.inl (tg s e d (p + dg c + 1))], h) _
          refine jt_go jm_m58 41 1 (f' := (67, [(3, .inl (nI (p + (dg c + 1)))), (2, .inl (nI (dg c))), (1, .inl (nI p)), (0, .inr (.inr (3, d, 0)))], [.inl (nI 59), .inl (tg s e d (p + dg c + 1))], h)) (P := True) rfl trivial ?_
          refine jt_iceq jm_m58 42 (tgt := 76) (nxt := 70) rfl rfl rfl (fun c67 => ?_) (fun c67 => ?_)
          · refine jt_go jm_m58 49 4 (f' := (80, [(3, .inl (nI (p + (dg c + 1)))), (2, .inl (nI (dg c))), (1, .inl (nI p)), (0, .inr (.inr (3, d, 0)))], [.inl ((nI (dg c)) + (nI 2)), .inl (nI p)], h)) (P := True) rfl trivial ?_
            refine jt_ti (show ((nI (dg c)) + (nI 2)) = nI (dg c + 2) from nI_add _ _) ?_
            refine jt_go jm_m58 53 1 (f' := (81, [(3, .inl (nI (p + (dg c + 1)))), (2, .inl (nI (dg c))), (1, .inl (nI p)), (0, .inr (.inr (3, d, 0)))], [.inl ((nI p) + (nI (dg c + 2)))], h)) (P := True) rfl trivial ?_
            refine jt_ti (show ((nI p) + (nI (dg c + 2))) = nI (p + (dg c + 2)) from nI_add _ _) ?_
            refine jt_go jm_m58 54 4 (f' := (87, [(1, .inl (nI (p + (dg c + 2)))), (3, .inl (nI (p + (dg c + 1)))), (2, .inl (nI (dg c))), (0, .inr (.inr (3, d, 0)))], [.inl (h (3, d, 0) 4), .inl (nI (p + (dg c + 2)))], h)) (P := True) rfl trivial ?_
            refine jt_ti (show (h (3, d, 0) 4) = nI (s d 4) from jk_size K (d := d) (by omega) (by assumption)) ?_
            have bq2 := kw_z Y (d := d) (by omega) (by assumption)
            refine jt_niclt jm_m58 58 (a := p + (dg c + 2)) (b := s d 4) (by omega) (by omega) (tgt := 2) (nxt := 90) rfl rfl rfl (fun c87 => ?_) (fun c87 => ?_)
            · exact absurd c67 (jx_neglit et9 (by decide))
            · refine jt_go jm_m58 59 1 (f' := (91, [(1, .inl (nI (p + (dg c + 2)))), (3, .inl (nI (p + (dg c + 1)))), (2, .inl (nI (dg c))), (0, .inr (.inr (3, d, 0)))], [.inl ((-1))], h)) (P := True) rfl trivial ?_
              refine jt_iret jm_m58 60 rfl ?_
              exact absurd c67 (jx_neglit et9 (by decide))
          · refine jt_go jm_m58 43 3 (f' := (73, [(3, .inl (nI (p + (dg c + 1)))), (2, .inl (nI (dg c))), (1, .inl (nI p)), (0, .inr (.inr (3, d, 0)))], [.inl ((nI p) + (nI (dg c)))], h)) (P := True) rfl trivial ?_
            refine jt_ti (show ((nI p) + (nI (dg c))) = nI (p + dg c) from nI_add _ _) ?_
            refine jt_go jm_m58 46 2 (f' := (75, [(3, .inl (nI (p + (dg c + 1)))), (2, .inl (nI (dg c))), (1, .inl (nI p)), (0, .inr (.inr (3, d, 0)))], [.inl ((nI (p + dg c)) + (nI 1))], h)) (P := True) rfl trivial ?_
            refine jt_ti (show ((nI (p + dg c)) + (nI 1)) = nI (p + dg c + 1) from nI_add _ _) ?_
            refine jt_iret jm_m58 48 rfl ?_
            refine res _ ?_
            exact stb (by omega)
      · refine res _ ?_
        unfold st_bad
        rw [z0, if_neg c12, sp_fi_at2 (j := i) (dg c) 1 h1 (by omega) (decide_eq_true nd) (fun j g1 g2 z => (of_decide_eq_true z) (A j g1 g2))]
    · refine jt_go jm_m58 9 1 (f' := (16, [(2, .inl (nI (dg c))), (1, .inl (nI p)), (0, .inr (.inr (3, d, 0)))], [.inl (nI p)], h)) (P := True) rfl trivial ?_
      refine jt_iret jm_m58 10 rfl ?_
      refine res _ ?_
      unfold st_bad
      exact if_pos (by rw [ec]; first | rfl | omega)
  · show jt_T 58 (7, [(1, .inl (nI p)), (0, .inr (.inr (3, d, 0)))], [.inl (tg s e d p)], h) _
    refine jt_callp (w := .inl (nI 0)) jm_m58 5 (mi' := 56) (as := [.inl (tg s e d p)]) (rest := []) (nxt := 10) rfl rfl jm_m56 rfl rfl (tk_dign et) ?_
    refine jt_go jm_m58 6 2 (f' := (12, [(2, .inl (nI 0)), (1, .inl (nI p)), (0, .inr (.inr (3, d, 0)))], [.inl (nI 0)], h)) (P := True) rfl trivial ?_
    refine jt_nifne jm_m58 8 (by omega) (tgt := 17) (nxt := 15) rfl rfl rfl (fun c12 => ?_) (fun c12 => ?_)
    · exact absurd c12 (by decide)
    · refine jt_go jm_m58 9 1 (f' := (16, [(2, .inl (nI 0)), (1, .inl (nI p)), (0, .inr (.inr (3, d, 0)))], [.inl (nI p)], h)) (P := True) rfl trivial ?_
      refine jt_iret jm_m58 10 rfl ?_
      refine res _ ?_
      unfold st_bad
      exact if_pos (by rw [ec]; first | rfl | omega)
