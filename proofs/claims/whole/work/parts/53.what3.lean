/-! What it is: the reference. -/
def wi_q (g : Nat → Nat) (s : Nat → Nat → Nat) (e : Nat → Nat → Int32) (d c n : Nat) : Nat := if ∀ i, i < n → e d i = sp_lo (s d 3) ∨ e d i = nI (sp_it g i (38 + 5 * c)) then 1 else 0
section WI
variable {g : Nat → Nat} {s : Nat → Nat → Nat} {e : Nat → Nat → Int32} {d c n : Nat}
theorem wi_le : wi_q g s e d c n ≤ 1 := by unfold wi_q; split <;> omega
theorem wi_0 : wi_q g s e d c 0 = 1 := if_pos (fun i hi => absurd hi (Nat.not_lt_zero i))
theorem wi_pos (h : e d n = sp_lo (s d 3) ∨ e d n = nI (sp_it g n (38 + 5 * c))) : wi_q g s e d c (n + 1) = wi_q g s e d c n := by
  by_cases q : ∀ i, i < n → e d i = sp_lo (s d 3) ∨ e d i = nI (sp_it g i (38 + 5 * c))
  · exact (if_pos (fun i hi => by
      by_cases r : i = n
      · rw [r]; exact h
      · exact q i (by omega))).trans (if_pos q).symm
  · exact (if_neg (fun z => q (fun i hi => z i (by omega)))).trans (if_neg q).symm
theorem wi_neg (h : ¬ (e d n = sp_lo (s d 3) ∨ e d n = nI (sp_it g n (38 + 5 * c)))) : wi_q g s e d c (n + 1) = 0 := if_neg (fun z => h (z n (by omega)))
theorem wi_nz (h : ¬ wi_q g s e d c (s d 4) = 0) : wi_t g s e d c := by
  by_cases q : wi_t g s e d c
  · exact q
  · exact absurd (if_neg q) h
theorem wi_z (h : wi_q g s e d c (s d 4) = 0) : ¬ wi_t g s e d c := fun q => absurd ((if_pos q).symm.trans h) (by decide)
end WI
theorem jx_an1 {q : Nat} (h : q ≤ 1) : nI q &&& nI 1 = nI q := by
  rcases (show q = 0 ∨ q = 1 by omega) with rfl | rfl <;> decide +kernel
theorem jx_an0 {q : Nat} (h : q ≤ 1) : nI q &&& nI 0 = nI 0 := by
  rcases (show q = 0 ∨ q = 1 by omega) with rfl | rfl <;> decide +kernel
theorem sp_lim_c {w : Nat} (hw : w ≤ 2) : (w = 0 ∧ sp_lim w = 8) ∨ (w = 1 ∧ sp_lim w = 10) ∨ (w = 2 ∧ sp_lim w = 16) := by
  rcases (show w = 0 ∨ w = 1 ∨ w = 2 by omega) with rfl | rfl | rfl
  · exact Or.inl ⟨rfl, rfl⟩
  · exact Or.inr (Or.inl ⟨rfl, rfl⟩)
  · exact Or.inr (Or.inr ⟨rfl, rfl⟩)
set_option maxHeartbeats 4000000 in
set_option maxRecDepth 20000 in
theorem cb_told_i {h : jm_M} {g : Nat → Nat} (W : jw g) {s : Nat → Nat → Nat} {e : Nat → Nat → Int32} (K : jl_rel h s e) (Y : kw s) {d : Nat} (hd : d ≤ 7) (qa : s d 0 = 2) {c w bb k : Nat} (hc : c < 6) {Q : Option jm_V → jm_M → Prop} (kont : ∀ h9 : jm_M, jg_fr 1 h h9 → jt_T 211 (176, [(8, .inl (nI (s d 4))), (7, .inl (nI (wi_q g s e d c (s d 4)))), (0, .inr (.inr (4, 0, 0))), (1, .inl (nI d)), (2, .inl (nI c)), (3, .inl (nI w)), (4, .inl (nI 0)), (5, .inl (nI bb)), (6, .inl (nI k))], [], h9) Q) : ∀ i, i ≤ s d 4 → ∀ hm : jm_M, (jg_rel hm 1 (sp_it g i)) → (jg_fr 1 h hm) → jt_T 211 (96, [(8, .inl (nI i)), (7, .inl (nI (wi_q g s e d c i))), (0, .inr (.inr (4, 0, 0))), (1, .inl (nI d)), (2, .inl (nI c)), (3, .inl (nI w)), (4, .inl (nI 0)), (5, .inl (nI bb)), (6, .inl (nI k))], [], hm) (Q) := jx_up (P := fun i => ∀ hm : jm_M, (jg_rel hm 1 (sp_it g i)) → (jg_fr 1 h hm) → jt_T 211 (96, [(8, .inl (nI i)), (7, .inl (nI (wi_q g s e d c i))), (0, .inr (.inr (4, 0, 0))), (1, .inl (nI d)), (2, .inl (nI c)), (3, .inl (nI w)), (4, .inl (nI 0)), (5, .inl (nI bb)), (6, .inl (nI k))], [], hm) (Q)) (fun i hk nx hm Rm Fm => by
  have Wk := (jw_it W i).1
  have e0 := (jw_it W i).2.1
  have e1 := (jw_it W i).2.2
  have bn := jw_n W
  have bm := jw_m W
  have Km := jl_mvg K Fm
  have bz := kw_z Y (d := d) (by omega) qa
  have bw := wi_le (g := g) (s := s) (e := e) (d := d) (c := c) (n := i)
  refine jt_go jm_m211 52 5 (f' := (104, [(8, .inl (nI i)), (7, .inl (nI (wi_q g s e d c i))), (0, .inr (.inr (4, 0, 0))), (1, .inl (nI d)), (2, .inl (nI c)), (3, .inl (nI w)), (4, .inl (nI 0)), (5, .inl (nI bb)), (6, .inl (nI k))], [.inl (hm (4, 0, 7) (nI d).toNatClampNeg), .inl (nI i)], hm)) (P := vp_in (nI d) 8 ∧ True) rfl ⟨(vp_in_nI (by omega) (by decide)), trivial⟩ ?_
  refine jt_ti (show (hm (4, 0, 7) (nI d).toNatClampNeg) = nI (s d 4) from jl_size Km (d := d) (nI_clamp (by omega)) (by omega) (by assumption)) ?_
  have bq1 := kw_z Y (d := d) (by omega) (by assumption)
  refine jt_nicge jm_m211 57 (a := i) (b := s d 4) (by omega) (by omega) (tgt := 176) (nxt := 107) rfl rfl rfl (fun c104 => ?_) (fun c104 => ?_)
  · refine jt_pick (L' := [(8, .inl (nI i)), (7, .inl (nI (wi_q g s e d c i))), (0, .inr (.inr (4, 0, 0))), (1, .inl (nI d)), (2, .inl (nI c)), (3, .inl (nI w)), (4, .inl (nI 0)), (5, .inl (nI bb)), (6, .inl (nI k))]) [0, 1, 2, 3, 4, 5, 6, 7, 8] rfl ?_
    have e_ : i = s d 4 := by omega
    subst e_
    exact kont hm Fm
  · refine jt_go jm_m211 58 5 (f' := (115, [(8, .inl (nI i)), (7, .inl (nI (wi_q g s e d c i))), (0, .inr (.inr (4, 0, 0))), (1, .inl (nI d)), (2, .inl (nI c)), (3, .inl (nI w)), (4, .inl (nI 0)), (5, .inl (nI bb)), (6, .inl (nI k))], [.inl ((nI 100) * (nI d)), .inr (.inr (4, 0, 8))], hm)) (P := True) rfl trivial ?_
    refine jt_ti (show ((nI 100) * (nI d)) = nI (100 * d) from nI_mul _ _) ?_
    refine jt_go jm_m211 63 2 (f' := (118, [(8, .inl (nI i)), (7, .inl (nI (wi_q g s e d c i))), (0, .inr (.inr (4, 0, 0))), (1, .inl (nI d)), (2, .inl (nI c)), (3, .inl (nI w)), (4, .inl (nI 0)), (5, .inl (nI bb)), (6, .inl (nI k))], [.inl ((nI (100 * d)) + (nI i)), .inr (.inr (4, 0, 8))], hm)) (P := True) rfl trivial ?_
    refine jt_ti (show ((nI (100 * d)) + (nI i)) = nI (100 * d + i) from nI_add _ _) ?_
    refine jt_go jm_m211 65 1 (f' := (119, [(8, .inl (nI i)), (7, .inl (nI (wi_q g s e d c i))), (0, .inr (.inr (4, 0, 0))), (1, .inl (nI d)), (2, .inl (nI c)), (3, .inl (nI w)), (4, .inl (nI 0)), (5, .inl (nI bb)), (6, .inl (nI k))], [.inl (hm (4, 0, 8) (nI (100 * d + i)).toNatClampNeg)], hm)) (P := vp_in (nI (100 * d + i)) 800 ∧ True) rfl ⟨(vp_in_nI (by omega) (by decide)), trivial⟩ ?_
    refine jt_ti (show (hm (4, 0, 8) (nI (100 * d + i)).toNatClampNeg) = e d i from jl_cell Km (d := d) (i := i) (nI_clamp (by omega)) (by omega) (by assumption) (by omega)) ?_
    refine jt_go jm_m211 66 7 (f' := (131, [(9, .inl (e d i)), (8, .inl (nI i)), (7, .inl (nI (wi_q g s e d c i))), (0, .inr (.inr (4, 0, 0))), (1, .inl (nI d)), (2, .inl (nI c)), (3, .inl (nI w)), (4, .inl (nI 0)), (5, .inl (nI bb)), (6, .inl (nI k))], [.inl (hm (4, 0, 6) (nI d).toNatClampNeg), .inl (e d i), .inl (nI (wi_q g s e d c i))], hm)) (P := vp_in (nI d) 8 ∧ True) rfl ⟨(vp_in_nI (by omega) (by decide)), trivial⟩ ?_
    refine jt_ti (show (hm (4, 0, 6) (nI d).toNatClampNeg) = nI (s d 3) from jl_sort Km (d := d) (nI_clamp (by omega)) (by omega) (by assumption)) ?_
    have bq2 := kw_s Y (d := d) (by omega) (by assumption)
    refine jt_callp (w := .inl (sp_lo (s d 3))) jm_m211 73 (mi' := 210) (as := [.inl (nI (s d 3))]) (rest := [.inl (e d i), .inl (nI (wi_q g s e d c i))]) (nxt := 134) rfl rfl jm_m210 rfl rfl (tl_lo (by omega)) ?_
    refine jt_iceq jm_m211 74 (tgt := 152) (nxt := 137) rfl rfl rfl (fun c134 => ?_) (fun c134 => ?_)
    · refine jt_go jm_m211 83 2 (f' := (157, [(9, .inl (e d i)), (8, .inl (nI i)), (7, .inl (nI (wi_q g s e d c i))), (0, .inr (.inr (4, 0, 0))), (1, .inl (nI d)), (2, .inl (nI c)), (3, .inl (nI w)), (4, .inl (nI 0)), (5, .inl (nI bb)), (6, .inl (nI k))], [.inl (nI 1), .inl (nI (wi_q g s e d c i))], hm)) (P := True) rfl trivial ?_
      refine jt_go jm_m211 86 1 (f' := (158, [(9, .inl (e d i)), (8, .inl (nI i)), (7, .inl (nI (wi_q g s e d c i))), (0, .inr (.inr (4, 0, 0))), (1, .inl (nI d)), (2, .inl (nI c)), (3, .inl (nI w)), (4, .inl (nI 0)), (5, .inl (nI bb)), (6, .inl (nI k))], [.inl ((nI (wi_q g s e d c i)) &&& (nI 1))], hm)) (P := True) rfl trivial ?_
      refine jt_ti (show ((nI (wi_q g s e d c i)) &&& (nI 1)) = nI (wi_q g s e d c i) from jx_an1 (by omega)) ?_
      refine jt_go jm_m211 87 4 (f' := (165, [(7, .inl (nI (wi_q g s e d c i))), (9, .inl (e d i)), (8, .inl (nI i)), (0, .inr (.inr (4, 0, 0))), (1, .inl (nI d)), (2, .inl (nI c)), (3, .inl (nI w)), (4, .inl (nI 0)), (5, .inl (nI bb)), (6, .inl (nI k))], [.inl (nI 0), .inr (.inr (5, 1, 0))], hm)) (P := True) rfl trivial ?_
      refine jt_call jm_m211 91 (mi' := 163) (as := [.inr (.inr (5, 1, 0)), .inl (nI 0)]) (rest := []) (nxt := 168) rfl rfl jm_m163 rfl rfl (tb_hour0 Rm Wk) ?_
      rintro u h1 ⟨rfl, Rh1, Fh1⟩
      show jt_T 211 (168, [(7, .inl (nI (wi_q g s e d c i))), (9, .inl (e d i)), (8, .inl (nI i)), (0, .inr (.inr (4, 0, 0))), (1, .inl (nI d)), (2, .inl (nI c)), (3, .inl (nI w)), (4, .inl (nI 0)), (5, .inl (nI bb)), (6, .inl (nI k))], [.inl (nI (sp_set (sp_it g i) false))], h1) _
      have Rh1 : jg_rel h1 1 (sp_it g (i + 1)) := Rh1
      have Wh1 := (jw_it W (i + 1)).1
      have uh1 := sp_set_lt Wk (kept := false)
      have Fh1 := jg_fr_tr Fm Fh1
      refine jt_go jm_m211 92 1 (f' := (170, [(10, .inl (nI (sp_set (sp_it g i) false))), (7, .inl (nI (wi_q g s e d c i))), (9, .inl (e d i)), (8, .inl (nI i)), (0, .inr (.inr (4, 0, 0))), (1, .inl (nI d)), (2, .inl (nI c)), (3, .inl (nI w)), (4, .inl (nI 0)), (5, .inl (nI bb)), (6, .inl (nI k))], [], h1)) (P := True) rfl trivial ?_
      refine jt_inc jm_m211 93 (c := i) (L' := [(8, .inl (nI (i + 1))), (10, .inl (nI (sp_set (sp_it g i) false))), (7, .inl (nI (wi_q g s e d c i))), (9, .inl (e d i)), (0, .inr (.inr (4, 0, 0))), (1, .inl (nI d)), (2, .inl (nI c)), (3, .inl (nI w)), (4, .inl (nI 0)), (5, .inl (nI bb)), (6, .inl (nI k))]) rfl rfl rfl rfl ?_
      refine jt_go jm_m211 94 1 (f' := (96, [(8, .inl (nI (i + 1))), (10, .inl (nI (sp_set (sp_it g i) false))), (7, .inl (nI (wi_q g s e d c i))), (9, .inl (e d i)), (0, .inr (.inr (4, 0, 0))), (1, .inl (nI d)), (2, .inl (nI c)), (3, .inl (nI w)), (4, .inl (nI 0)), (5, .inl (nI bb)), (6, .inl (nI k))], [], h1)) (P := True) rfl trivial ?_
      refine jt_pick (L' := [(8, .inl (nI (i + 1))), (7, .inl (nI (wi_q g s e d c i))), (0, .inr (.inr (4, 0, 0))), (1, .inl (nI d)), (2, .inl (nI c)), (3, .inl (nI w)), (4, .inl (nI 0)), (5, .inl (nI bb)), (6, .inl (nI k))]) [0, 2, 4, 5, 6, 7, 8, 9, 10] rfl ?_
      have e_ : wi_q g s e d c (i + 1) = wi_q g s e d c i := wi_pos (Or.inl c134)
      have q := nx (by omega) h1 Rh1 Fh1
      rw [e_] at q
      exact q
    · refine jt_go jm_m211 75 5 (f' := (145, [(9, .inl (e d i)), (8, .inl (nI i)), (7, .inl (nI (wi_q g s e d c i))), (0, .inr (.inr (4, 0, 0))), (1, .inl (nI d)), (2, .inl (nI c)), (3, .inl (nI w)), (4, .inl (nI 0)), (5, .inl (nI bb)), (6, .inl (nI k))], [.inl (nI 2), .inl (nI c), .inr (.inr (5, 1, 0)), .inl (e d i), .inl (nI (wi_q g s e d c i))], hm)) (P := True) rfl trivial ?_
      refine jt_callp (w := .inl (nI (38 + 5 * c))) jm_m211 80 (mi' := 147) (as := [.inl (nI c), .inl (nI 2)]) (rest := [.inr (.inr (5, 1, 0)), .inl (e d i), .inl (nI (wi_q g s e d c i))]) (nxt := 148) rfl rfl jm_m147 rfl rfl (tb_ofC (k := 38 + 5 * c) (by omega)) ?_
      refine jt_go jm_m211 81 1 (f' := (149, [(9, .inl (e d i)), (8, .inl (nI i)), (7, .inl (nI (wi_q g s e d c i))), (0, .inr (.inr (4, 0, 0))), (1, .inl (nI d)), (2, .inl (nI c)), (3, .inl (nI w)), (4, .inl (nI 0)), (5, .inl (nI bb)), (6, .inl (nI k))], [.inl (hm (5, 1, 0) (nI (38 + 5 * c)).toNatClampNeg), .inl (e d i), .inl (nI (wi_q g s e d c i))], hm)) (P := vp_in (nI (38 + 5 * c)) 78 ∧ True) rfl ⟨(vp_in_nI (by omega) (by decide)), trivial⟩ ?_
      refine jt_ti (show (hm (5, 1, 0) (nI (38 + 5 * c)).toNatClampNeg) = nI ((sp_it g i) (38 + 5 * c)) from jg_get Rm (k := 38 + 5 * c) (nI_clamp (by omega)) (by omega)) ?_
      have bq3 := jw_at Wk (c := c) (by omega)
      refine jt_icne jm_m211 82 (tgt := 156) (nxt := 152) rfl rfl rfl (fun c149 => ?_) (fun c149 => ?_)
      · refine jt_go jm_m211 85 2 (f' := (158, [(9, .inl (e d i)), (8, .inl (nI i)), (7, .inl (nI (wi_q g s e d c i))), (0, .inr (.inr (4, 0, 0))), (1, .inl (nI d)), (2, .inl (nI c)), (3, .inl (nI w)), (4, .inl (nI 0)), (5, .inl (nI bb)), (6, .inl (nI k))], [.inl ((nI (wi_q g s e d c i)) &&& (nI 0))], hm)) (P := True) rfl trivial ?_
        refine jt_ti (show ((nI (wi_q g s e d c i)) &&& (nI 0)) = nI 0 from jx_an0 (by omega)) ?_
        refine jt_go jm_m211 87 4 (f' := (165, [(7, .inl (nI 0)), (9, .inl (e d i)), (8, .inl (nI i)), (0, .inr (.inr (4, 0, 0))), (1, .inl (nI d)), (2, .inl (nI c)), (3, .inl (nI w)), (4, .inl (nI 0)), (5, .inl (nI bb)), (6, .inl (nI k))], [.inl (nI 0), .inr (.inr (5, 1, 0))], hm)) (P := True) rfl trivial ?_
        refine jt_call jm_m211 91 (mi' := 163) (as := [.inr (.inr (5, 1, 0)), .inl (nI 0)]) (rest := []) (nxt := 168) rfl rfl jm_m163 rfl rfl (tb_hour0 Rm Wk) ?_
        rintro u h2 ⟨rfl, Rh2, Fh2⟩
        show jt_T 211 (168, [(7, .inl (nI 0)), (9, .inl (e d i)), (8, .inl (nI i)), (0, .inr (.inr (4, 0, 0))), (1, .inl (nI d)), (2, .inl (nI c)), (3, .inl (nI w)), (4, .inl (nI 0)), (5, .inl (nI bb)), (6, .inl (nI k))], [.inl (nI (sp_set (sp_it g i) false))], h2) _
        have Rh2 : jg_rel h2 1 (sp_it g (i + 1)) := Rh2
        have Wh2 := (jw_it W (i + 1)).1
        have uh2 := sp_set_lt Wk (kept := false)
        have Fh2 := jg_fr_tr Fm Fh2
        refine jt_go jm_m211 92 1 (f' := (170, [(10, .inl (nI (sp_set (sp_it g i) false))), (7, .inl (nI 0)), (9, .inl (e d i)), (8, .inl (nI i)), (0, .inr (.inr (4, 0, 0))), (1, .inl (nI d)), (2, .inl (nI c)), (3, .inl (nI w)), (4, .inl (nI 0)), (5, .inl (nI bb)), (6, .inl (nI k))], [], h2)) (P := True) rfl trivial ?_
        refine jt_inc jm_m211 93 (c := i) (L' := [(8, .inl (nI (i + 1))), (10, .inl (nI (sp_set (sp_it g i) false))), (7, .inl (nI 0)), (9, .inl (e d i)), (0, .inr (.inr (4, 0, 0))), (1, .inl (nI d)), (2, .inl (nI c)), (3, .inl (nI w)), (4, .inl (nI 0)), (5, .inl (nI bb)), (6, .inl (nI k))]) rfl rfl rfl rfl ?_
        refine jt_go jm_m211 94 1 (f' := (96, [(8, .inl (nI (i + 1))), (10, .inl (nI (sp_set (sp_it g i) false))), (7, .inl (nI 0)), (9, .inl (e d i)), (0, .inr (.inr (4, 0, 0))), (1, .inl (nI d)), (2, .inl (nI c)), (3, .inl (nI w)), (4, .inl (nI 0)), (5, .inl (nI bb)), (6, .inl (nI k))], [], h2)) (P := True) rfl trivial ?_
        refine jt_pick (L' := [(8, .inl (nI (i + 1))), (7, .inl (nI 0)), (0, .inr (.inr (4, 0, 0))), (1, .inl (nI d)), (2, .inl (nI c)), (3, .inl (nI w)), (4, .inl (nI 0)), (5, .inl (nI bb)), (6, .inl (nI k))]) [0, 2, 4, 5, 6, 7, 8, 9, 10] rfl ?_
        have e_ : wi_q g s e d c (i + 1) = 0 := wi_neg (fun z => z.elim c134 c149)
        have q := nx (by omega) h2 Rh2 Fh2
        rw [e_] at q
        exact q
      · refine jt_go jm_m211 83 2 (f' := (157, [(9, .inl (e d i)), (8, .inl (nI i)), (7, .inl (nI (wi_q g s e d c i))), (0, .inr (.inr (4, 0, 0))), (1, .inl (nI d)), (2, .inl (nI c)), (3, .inl (nI w)), (4, .inl (nI 0)), (5, .inl (nI bb)), (6, .inl (nI k))], [.inl (nI 1), .inl (nI (wi_q g s e d c i))], hm)) (P := True) rfl trivial ?_
        refine jt_go jm_m211 86 1 (f' := (158, [(9, .inl (e d i)), (8, .inl (nI i)), (7, .inl (nI (wi_q g s e d c i))), (0, .inr (.inr (4, 0, 0))), (1, .inl (nI d)), (2, .inl (nI c)), (3, .inl (nI w)), (4, .inl (nI 0)), (5, .inl (nI bb)), (6, .inl (nI k))], [.inl ((nI (wi_q g s e d c i)) &&& (nI 1))], hm)) (P := True) rfl trivial ?_
        refine jt_ti (show ((nI (wi_q g s e d c i)) &&& (nI 1)) = nI (wi_q g s e d c i) from jx_an1 (by omega)) ?_
        refine jt_go jm_m211 87 4 (f' := (165, [(7, .inl (nI (wi_q g s e d c i))), (9, .inl (e d i)), (8, .inl (nI i)), (0, .inr (.inr (4, 0, 0))), (1, .inl (nI d)), (2, .inl (nI c)), (3, .inl (nI w)), (4, .inl (nI 0)), (5, .inl (nI bb)), (6, .inl (nI k))], [.inl (nI 0), .inr (.inr (5, 1, 0))], hm)) (P := True) rfl trivial ?_
        refine jt_call jm_m211 91 (mi' := 163) (as := [.inr (.inr (5, 1, 0)), .inl (nI 0)]) (rest := []) (nxt := 168) rfl rfl jm_m163 rfl rfl (tb_hour0 Rm Wk) ?_
        rintro u h3 ⟨rfl, Rh3, Fh3⟩
        show jt_T 211 (168, [(7, .inl (nI (wi_q g s e d c i))), (9, .inl (e d i)), (8, .inl (nI i)), (0, .inr (.inr (4, 0, 0))), (1, .inl (nI d)), (2, .inl (nI c)), (3, .inl (nI w)), (4, .inl (nI 0)), (5, .inl (nI bb)), (6, .inl (nI k))], [.inl (nI (sp_set (sp_it g i) false))], h3) _
        have Rh3 : jg_rel h3 1 (sp_it g (i + 1)) := Rh3
        have Wh3 := (jw_it W (i + 1)).1
        have uh3 := sp_set_lt Wk (kept := false)
        have Fh3 := jg_fr_tr Fm Fh3
        refine jt_go jm_m211 92 1 (f' := (170, [(10, .inl (nI (sp_set (sp_it g i) false))), (7, .inl (nI (wi_q g s e d c i))), (9, .inl (e d i)), (8, .inl (nI i)), (0, .inr (.inr (4, 0, 0))), (1, .inl (nI d)), (2, .inl (nI c)), (3, .inl (nI w)), (4, .inl (nI 0)), (5, .inl (nI bb)), (6, .inl (nI k))], [], h3)) (P := True) rfl trivial ?_
        refine jt_inc jm_m211 93 (c := i) (L' := [(8, .inl (nI (i + 1))), (10, .inl (nI (sp_set (sp_it g i) false))), (7, .inl (nI (wi_q g s e d c i))), (9, .inl (e d i)), (0, .inr (.inr (4, 0, 0))), (1, .inl (nI d)), (2, .inl (nI c)), (3, .inl (nI w)), (4, .inl (nI 0)), (5, .inl (nI bb)), (6, .inl (nI k))]) rfl rfl rfl rfl ?_
        refine jt_go jm_m211 94 1 (f' := (96, [(8, .inl (nI (i + 1))), (10, .inl (nI (sp_set (sp_it g i) false))), (7, .inl (nI (wi_q g s e d c i))), (9, .inl (e d i)), (0, .inr (.inr (4, 0, 0))), (1, .inl (nI d)), (2, .inl (nI c)), (3, .inl (nI w)), (4, .inl (nI 0)), (5, .inl (nI bb)), (6, .inl (nI k))], [], h3)) (P := True) rfl trivial ?_
        refine jt_pick (L' := [(8, .inl (nI (i + 1))), (7, .inl (nI (wi_q g s e d c i))), (0, .inr (.inr (4, 0, 0))), (1, .inl (nI d)), (2, .inl (nI c)), (3, .inl (nI w)), (4, .inl (nI 0)), (5, .inl (nI bb)), (6, .inl (nI k))]) [0, 2, 4, 5, 6, 7, 8, 9, 10] rfl ?_
        have e_ : wi_q g s e d c (i + 1) = wi_q g s e d c i := wi_pos (Or.inr c149)
        have q := nx (by omega) h3 Rh3 Fh3
        rw [e_] at q
        exact q)
set_option maxHeartbeats 4000000 in
set_option maxRecDepth 20000 in
theorem cb_what_l {h : jm_M} {g : Nat → Nat} (R : jg_rel h 0 g) (W : jw g) {s : Nat → Nat → Nat} {e : Nat → Nat → Int32} (K : jl_rel h s e) (Y : kw s) {d : Nat} (hd : d ≤ 7) (qa : s d 0 = 2) {c w : Nat} (hc : c < 6) (hw : w ≤ 2) : ∀ k, k ≤ sp_lim w → ∀ hm : jm_M, (jg_rel hm 0 g) → (jg_fr 1 h hm) → jt_T 211 (41, [(6, .inl (nI k)), (5, .inl (nI (sp_bits (fun k => decide (wi_t (sp_up g (36 + 5 * c + w) k) s e d c)) k))), (0, .inr (.inr (4, 0, 0))), (1, .inl (nI d)), (2, .inl (nI c)), (3, .inl (nI w)), (4, .inl (nI 0))], [], hm) (fun u h' => u = some (.inl (nI (sp_bits (fun k => decide (wi_t (sp_up g (36 + 5 * c + w) k) s e d c)) (sp_lim w)))) ∧ jg_fr 1 h h') := jx_up (P := fun k => ∀ hm : jm_M, (jg_rel hm 0 g) → (jg_fr 1 h hm) → jt_T 211 (41, [(6, .inl (nI k)), (5, .inl (nI (sp_bits (fun k => decide (wi_t (sp_up g (36 + 5 * c + w) k) s e d c)) k))), (0, .inr (.inr (4, 0, 0))), (1, .inl (nI d)), (2, .inl (nI c)), (3, .inl (nI w)), (4, .inl (nI 0))], [], hm) (fun u h' => u = some (.inl (nI (sp_bits (fun k => decide (wi_t (sp_up g (36 + 5 * c + w) k) s e d c)) (sp_lim w)))) ∧ jg_fr 1 h h')) (fun k hk nx hm Zm Fm => by
  have bn := jw_n W
  have bm := jw_m W
  have bt := jw_t W
  have bs := sp_bits_lt (fun k => decide (wi_t (sp_up g (36 + 5 * c + w) k) s e d c)) k
  have el := sp_lim_c hw
  refine jt_go jm_m211 24 2 (f' := (44, [(6, .inl (nI k)), (5, .inl (nI (sp_bits (fun k => decide (wi_t (sp_up g (36 + 5 * c + w) k) s e d c)) k))), (0, .inr (.inr (4, 0, 0))), (1, .inl (nI d)), (2, .inl (nI c)), (3, .inl (nI w)), (4, .inl (nI 0))], [.inl (nI w), .inl (nI k)], hm)) (P := True) rfl trivial ?_
  refine jt_nifne jm_m211 26 (by omega) (tgt := 52) (nxt := 47) rfl rfl rfl (fun c44 => ?_) (fun c44 => ?_)
  · refine jt_go jm_m211 29 2 (f' := (54, [(6, .inl (nI k)), (5, .inl (nI (sp_bits (fun k => decide (wi_t (sp_up g (36 + 5 * c + w) k) s e d c)) k))), (0, .inr (.inr (4, 0, 0))), (1, .inl (nI d)), (2, .inl (nI c)), (3, .inl (nI w)), (4, .inl (nI 0))], [.inl (nI 1), .inl (nI w), .inl (nI k)], hm)) (P := True) rfl trivial ?_
    refine jt_nicne jm_m211 31 (a := w) (b := 1) (by omega) (by omega) (tgt := 62) (nxt := 57) rfl rfl rfl (fun c54 => ?_) (fun c54 => ?_)
    · refine jt_go jm_m211 34 1 (f' := (64, [(6, .inl (nI k)), (5, .inl (nI (sp_bits (fun k => decide (wi_t (sp_up g (36 + 5 * c + w) k) s e d c)) k))), (0, .inr (.inr (4, 0, 0))), (1, .inl (nI d)), (2, .inl (nI c)), (3, .inl (nI w)), (4, .inl (nI 0))], [.inl (nI 16), .inl (nI k)], hm)) (P := True) rfl trivial ?_
      refine jt_nicge jm_m211 35 (a := k) (b := 16) (by omega) (by omega) (tgt := 200) (nxt := 67) rfl rfl rfl (fun c64 => ?_) (fun c64 => ?_)
      · refine jt_go jm_m211 107 1 (f' := (202, [(6, .inl (nI k)), (5, .inl (nI (sp_bits (fun k => decide (wi_t (sp_up g (36 + 5 * c + w) k) s e d c)) k))), (0, .inr (.inr (4, 0, 0))), (1, .inl (nI d)), (2, .inl (nI c)), (3, .inl (nI w)), (4, .inl (nI 0))], [.inl (nI (sp_bits (fun k => decide (wi_t (sp_up g (36 + 5 * c + w) k) s e d c)) k))], hm)) (P := True) rfl trivial ?_
        refine jt_iret jm_m211 108 rfl ?_
        have e_ : k = sp_lim w := by omega
        subst e_
        exact ⟨rfl, Fm⟩
      · refine jt_go jm_m211 36 6 (f' := (78, [(7, .inl (nI 1)), (6, .inl (nI k)), (5, .inl (nI (sp_bits (fun k => decide (wi_t (sp_up g (36 + 5 * c + w) k) s e d c)) k))), (0, .inr (.inr (4, 0, 0))), (1, .inl (nI d)), (2, .inl (nI c)), (3, .inl (nI w)), (4, .inl (nI 0))], [.inr (.inr (5, 1, 0)), .inr (.inr (5, 0, 0))], hm)) (P := True) rfl trivial ?_
        refine jt_call jm_m211 42 (mi' := 146) (as := [.inr (.inr (5, 0, 0)), .inr (.inr (5, 1, 0))]) (rest := []) (nxt := 81) rfl rfl jm_m146 rfl rfl (tb_copies Zm (by decide)) ?_
        rintro u h1 ⟨rfl, Rh1, Fh1⟩
        show jt_T 211 (81, [(7, .inl (nI 1)), (6, .inl (nI k)), (5, .inl (nI (sp_bits (fun k => decide (wi_t (sp_up g (36 + 5 * c + w) k) s e d c)) k))), (0, .inr (.inr (4, 0, 0))), (1, .inl (nI d)), (2, .inl (nI c)), (3, .inl (nI w)), (4, .inl (nI 0))], [], h1) _
        have Rh1 : jg_rel h1 1 g := Rh1
        have Wh1 : jw (g) := W
        have Zh1 := jg_mov0 Zm Fh1
        have Fh1 := jg_fr_tr Fm Fh1
        refine jt_go jm_m211 43 4 (f' := (87, [(7, .inl (nI 1)), (6, .inl (nI k)), (5, .inl (nI (sp_bits (fun k => decide (wi_t (sp_up g (36 + 5 * c + w) k) s e d c)) k))), (0, .inr (.inr (4, 0, 0))), (1, .inl (nI d)), (2, .inl (nI c)), (3, .inl (nI w)), (4, .inl (nI 0))], [.inl (nI w), .inl (nI c), .inr (.inr (5, 1, 0))], h1)) (P := True) rfl trivial ?_
        refine jt_callp (w := .inl (nI (36 + 5 * c + w))) jm_m211 47 (mi' := 147) (as := [.inl (nI c), .inl (nI w)]) (rest := [.inr (.inr (5, 1, 0))]) (nxt := 90) rfl rfl jm_m147 rfl rfl (tb_ofC (k := 36 + 5 * c + w) (by omega)) ?_
        refine jt_goM jm_m211 48 2 (pc' := 93) (L' := [(7, .inl (nI 1)), (6, .inl (nI k)), (5, .inl (nI (sp_bits (fun k => decide (wi_t (sp_up g (36 + 5 * c + w) k) s e d c)) k))), (0, .inr (.inr (4, 0, 0))), (1, .inl (nI d)), (2, .inl (nI c)), (3, .inl (nI w)), (4, .inl (nI 0))]) (st' := []) (m' := jm_set h1 (5, 1, 0) (upd (h1 (5, 1, 0)) (nI (36 + 5 * c + w)).toNatClampNeg (nI k))) (P := vp_in (nI (36 + 5 * c + w)) 78 ∧ True) rfl ⟨(vp_in_nI (by omega) (by decide)), trivial⟩ (fun h2 eh2 => ?_)
        have Fh2 : jg_fr 1 h h2 := by rw [eh2]; exact jg_fr_set Fh1
        obtain ⟨gh2, egh2⟩ : ∃ y, y = sp_up g (36 + 5 * c + w) (k) := ⟨_, rfl⟩
        have Rh2 : jg_rel h2 1 gh2 := by rw [eh2, egh2]; exact jg_set Rh1 (k := 36 + 5 * c + w) (w := k) (nI_clamp (by omega)) rfl
        refine jt_go jm_m211 50 2 (f' := (96, [(8, .inl (nI 0)), (7, .inl (nI 1)), (6, .inl (nI k)), (5, .inl (nI (sp_bits (fun k => decide (wi_t (sp_up g (36 + 5 * c + w) k) s e d c)) k))), (0, .inr (.inr (4, 0, 0))), (1, .inl (nI d)), (2, .inl (nI c)), (3, .inl (nI w)), (4, .inl (nI 0))], [], h2)) (P := True) rfl trivial ?_
        refine jt_pick (L' := [(8, .inl (nI 0)), (7, .inl (nI 1)), (0, .inr (.inr (4, 0, 0))), (1, .inl (nI d)), (2, .inl (nI c)), (3, .inl (nI w)), (4, .inl (nI 0)), (5, .inl (nI (sp_bits (fun k => decide (wi_t (sp_up g (36 + 5 * c + w) k) s e d c)) k))), (6, .inl (nI k))]) [0, 1, 4, 5, 6, 7, 8, 3, 2] rfl ?_
        have kont : ∀ h9 : jm_M, jg_fr 1 h h9 → jt_T 211 (176, [(8, .inl (nI (s d 4))), (7, .inl (nI (wi_q (sp_up g (36 + 5 * c + w) k) s e d c (s d 4)))), (0, .inr (.inr (4, 0, 0))), (1, .inl (nI d)), (2, .inl (nI c)), (3, .inl (nI w)), (4, .inl (nI 0)), (5, .inl (nI (sp_bits (fun k => decide (wi_t (sp_up g (36 + 5 * c + w) k) s e d c)) k))), (6, .inl (nI k))], [], h9) (fun u h' => u = some (.inl (nI (sp_bits (fun k => decide (wi_t (sp_up g (36 + 5 * c + w) k) s e d c)) (sp_lim w)))) ∧ jg_fr 1 h h') := by
          intro h9 F9
          have bw := wi_le (g := (sp_up g (36 + 5 * c + w) k)) (s := s) (e := e) (d := d) (c := c) (n := s d 4)
          refine jt_go jm_m211 95 2 (f' := (180, [(8, .inl (nI (s d 4))), (7, .inl (nI (wi_q (sp_up g (36 + 5 * c + w) k) s e d c (s d 4)))), (0, .inr (.inr (4, 0, 0))), (1, .inl (nI d)), (2, .inl (nI c)), (3, .inl (nI w)), (4, .inl (nI 0)), (5, .inl (nI (sp_bits (fun k => decide (wi_t (sp_up g (36 + 5 * c + w) k) s e d c)) k))), (6, .inl (nI k))], [.inl (nI (wi_q (sp_up g (36 + 5 * c + w) k) s e d c (s d 4))), .inl (nI (sp_bits (fun k => decide (wi_t (sp_up g (36 + 5 * c + w) k) s e d c)) k))], h9)) (P := True) rfl trivial ?_
          refine jt_nifeq jm_m211 97 (by omega) (tgt := 190) (nxt := 183) rfl rfl rfl (fun c180 => ?_) (fun c180 => ?_)
          · refine jt_go jm_m211 102 2 (f' := (192, [(8, .inl (nI (s d 4))), (7, .inl (nI (wi_q (sp_up g (36 + 5 * c + w) k) s e d c (s d 4)))), (0, .inr (.inr (4, 0, 0))), (1, .inl (nI d)), (2, .inl (nI c)), (3, .inl (nI w)), (4, .inl (nI 0)), (5, .inl (nI (sp_bits (fun k => decide (wi_t (sp_up g (36 + 5 * c + w) k) s e d c)) k))), (6, .inl (nI k))], [.inl ((nI (sp_bits (fun k => decide (wi_t (sp_up g (36 + 5 * c + w) k) s e d c)) k)) ||| (nI 0))], h9)) (P := True) rfl trivial ?_
            refine jt_ti (show ((nI (sp_bits (fun k => decide (wi_t (sp_up g (36 + 5 * c + w) k) s e d c)) k)) ||| (nI 0)) = nI (sp_bits (fun k => decide (wi_t (sp_up g (36 + 5 * c + w) k) s e d c)) k) from jx_or0 _) ?_
            refine jt_go jm_m211 104 1 (f' := (194, [(5, .inl (nI (sp_bits (fun k => decide (wi_t (sp_up g (36 + 5 * c + w) k) s e d c)) k))), (8, .inl (nI (s d 4))), (7, .inl (nI (wi_q (sp_up g (36 + 5 * c + w) k) s e d c (s d 4)))), (0, .inr (.inr (4, 0, 0))), (1, .inl (nI d)), (2, .inl (nI c)), (3, .inl (nI w)), (4, .inl (nI 0)), (6, .inl (nI k))], [], h9)) (P := True) rfl trivial ?_
            refine jt_inc jm_m211 105 (c := k) (L' := [(6, .inl (nI (k + 1))), (5, .inl (nI (sp_bits (fun k => decide (wi_t (sp_up g (36 + 5 * c + w) k) s e d c)) k))), (8, .inl (nI (s d 4))), (7, .inl (nI (wi_q (sp_up g (36 + 5 * c + w) k) s e d c (s d 4)))), (0, .inr (.inr (4, 0, 0))), (1, .inl (nI d)), (2, .inl (nI c)), (3, .inl (nI w)), (4, .inl (nI 0))]) rfl rfl rfl rfl ?_
            refine jt_go jm_m211 106 1 (f' := (41, [(6, .inl (nI (k + 1))), (5, .inl (nI (sp_bits (fun k => decide (wi_t (sp_up g (36 + 5 * c + w) k) s e d c)) k))), (8, .inl (nI (s d 4))), (7, .inl (nI (wi_q (sp_up g (36 + 5 * c + w) k) s e d c (s d 4)))), (0, .inr (.inr (4, 0, 0))), (1, .inl (nI d)), (2, .inl (nI c)), (3, .inl (nI w)), (4, .inl (nI 0))], [], h9)) (P := True) rfl trivial ?_
            refine jt_pick (L' := [(6, .inl (nI (k + 1))), (5, .inl (nI (sp_bits (fun k => decide (wi_t (sp_up g (36 + 5 * c + w) k) s e d c)) k))), (0, .inr (.inr (4, 0, 0))), (1, .inl (nI d)), (2, .inl (nI c)), (3, .inl (nI w)), (4, .inl (nI 0))]) [0, 1, 4, 5, 6, 7, 8] rfl ?_
            have e_ : sp_bits (fun k => decide (wi_t (sp_up g (36 + 5 * c + w) k) s e d c)) (k + 1) = sp_bits (fun k => decide (wi_t (sp_up g (36 + 5 * c + w) k) s e d c)) k := if_neg (fun z => wi_z c180 (of_decide_eq_true z))
            have q := nx (by omega) h9 (jg_mov0 R F9) F9
            rw [e_] at q
            exact q
          · refine jt_go jm_m211 98 4 (f' := (191, [(8, .inl (nI (s d 4))), (7, .inl (nI (wi_q (sp_up g (36 + 5 * c + w) k) s e d c (s d 4)))), (0, .inr (.inr (4, 0, 0))), (1, .inl (nI d)), (2, .inl (nI c)), (3, .inl (nI w)), (4, .inl (nI 0)), (5, .inl (nI (sp_bits (fun k => decide (wi_t (sp_up g (36 + 5 * c + w) k) s e d c)) k))), (6, .inl (nI k))], [.inl ((nI 1) <<< ((nI k) &&& 31)), .inl (nI (sp_bits (fun k => decide (wi_t (sp_up g (36 + 5 * c + w) k) s e d c)) k))], h9)) (P := True) rfl trivial ?_
            refine jt_go jm_m211 103 1 (f' := (192, [(8, .inl (nI (s d 4))), (7, .inl (nI (wi_q (sp_up g (36 + 5 * c + w) k) s e d c (s d 4)))), (0, .inr (.inr (4, 0, 0))), (1, .inl (nI d)), (2, .inl (nI c)), (3, .inl (nI w)), (4, .inl (nI 0)), (5, .inl (nI (sp_bits (fun k => decide (wi_t (sp_up g (36 + 5 * c + w) k) s e d c)) k))), (6, .inl (nI k))], [.inl ((nI (sp_bits (fun k => decide (wi_t (sp_up g (36 + 5 * c + w) k) s e d c)) k)) ||| ((nI 1) <<< ((nI k) &&& 31)))], h9)) (P := True) rfl trivial ?_
            refine jt_ti (show ((nI (sp_bits (fun k => decide (wi_t (sp_up g (36 + 5 * c + w) k) s e d c)) k)) ||| ((nI 1) <<< ((nI k) &&& 31))) = nI (sp_bits (fun k => decide (wi_t (sp_up g (36 + 5 * c + w) k) s e d c)) k + 2 ^ k) from jx_or16 (by omega) bs) ?_
            refine jt_go jm_m211 104 1 (f' := (194, [(5, .inl (nI (sp_bits (fun k => decide (wi_t (sp_up g (36 + 5 * c + w) k) s e d c)) k + 2 ^ k))), (8, .inl (nI (s d 4))), (7, .inl (nI (wi_q (sp_up g (36 + 5 * c + w) k) s e d c (s d 4)))), (0, .inr (.inr (4, 0, 0))), (1, .inl (nI d)), (2, .inl (nI c)), (3, .inl (nI w)), (4, .inl (nI 0)), (6, .inl (nI k))], [], h9)) (P := True) rfl trivial ?_
            refine jt_inc jm_m211 105 (c := k) (L' := [(6, .inl (nI (k + 1))), (5, .inl (nI (sp_bits (fun k => decide (wi_t (sp_up g (36 + 5 * c + w) k) s e d c)) k + 2 ^ k))), (8, .inl (nI (s d 4))), (7, .inl (nI (wi_q (sp_up g (36 + 5 * c + w) k) s e d c (s d 4)))), (0, .inr (.inr (4, 0, 0))), (1, .inl (nI d)), (2, .inl (nI c)), (3, .inl (nI w)), (4, .inl (nI 0))]) rfl rfl rfl rfl ?_
            refine jt_go jm_m211 106 1 (f' := (41, [(6, .inl (nI (k + 1))), (5, .inl (nI (sp_bits (fun k => decide (wi_t (sp_up g (36 + 5 * c + w) k) s e d c)) k + 2 ^ k))), (8, .inl (nI (s d 4))), (7, .inl (nI (wi_q (sp_up g (36 + 5 * c + w) k) s e d c (s d 4)))), (0, .inr (.inr (4, 0, 0))), (1, .inl (nI d)), (2, .inl (nI c)), (3, .inl (nI w)), (4, .inl (nI 0))], [], h9)) (P := True) rfl trivial ?_
            refine jt_pick (L' := [(6, .inl (nI (k + 1))), (5, .inl (nI (sp_bits (fun k => decide (wi_t (sp_up g (36 + 5 * c + w) k) s e d c)) k + 2 ^ k))), (0, .inr (.inr (4, 0, 0))), (1, .inl (nI d)), (2, .inl (nI c)), (3, .inl (nI w)), (4, .inl (nI 0))]) [0, 1, 4, 5, 6, 7, 8] rfl ?_
            have e_ : sp_bits (fun k => decide (wi_t (sp_up g (36 + 5 * c + w) k) s e d c)) (k + 1) = sp_bits (fun k => decide (wi_t (sp_up g (36 + 5 * c + w) k) s e d c)) k + 2 ^ k := if_pos (decide_eq_true (wi_nz c180))
            have q := nx (by omega) h9 (jg_mov0 R F9) F9
            rw [e_] at q
            exact q
        rw [egh2] at Rh2
        have big := cb_told_i (jw_sup W (by omega) hw (fun q => by omega) (fun q => by omega) (by omega)) K Y hd qa hc kont 0 (Nat.zero_le _) h2 Rh2 Fh2
        rw [wi_0] at big
        exact big
    · refine jt_go jm_m211 32 2 (f' := (64, [(6, .inl (nI k)), (5, .inl (nI (sp_bits (fun k => decide (wi_t (sp_up g (36 + 5 * c + w) k) s e d c)) k))), (0, .inr (.inr (4, 0, 0))), (1, .inl (nI d)), (2, .inl (nI c)), (3, .inl (nI w)), (4, .inl (nI 0))], [.inl (nI 10), .inl (nI k)], hm)) (P := True) rfl trivial ?_
      refine jt_nicge jm_m211 35 (a := k) (b := 10) (by omega) (by omega) (tgt := 200) (nxt := 67) rfl rfl rfl (fun c64 => ?_) (fun c64 => ?_)
      · refine jt_go jm_m211 107 1 (f' := (202, [(6, .inl (nI k)), (5, .inl (nI (sp_bits (fun k => decide (wi_t (sp_up g (36 + 5 * c + w) k) s e d c)) k))), (0, .inr (.inr (4, 0, 0))), (1, .inl (nI d)), (2, .inl (nI c)), (3, .inl (nI w)), (4, .inl (nI 0))], [.inl (nI (sp_bits (fun k => decide (wi_t (sp_up g (36 + 5 * c + w) k) s e d c)) k))], hm)) (P := True) rfl trivial ?_
        refine jt_iret jm_m211 108 rfl ?_
        have e_ : k = sp_lim w := by omega
        subst e_
        exact ⟨rfl, Fm⟩
      · refine jt_go jm_m211 36 6 (f' := (78, [(7, .inl (nI 1)), (6, .inl (nI k)), (5, .inl (nI (sp_bits (fun k => decide (wi_t (sp_up g (36 + 5 * c + w) k) s e d c)) k))), (0, .inr (.inr (4, 0, 0))), (1, .inl (nI d)), (2, .inl (nI c)), (3, .inl (nI w)), (4, .inl (nI 0))], [.inr (.inr (5, 1, 0)), .inr (.inr (5, 0, 0))], hm)) (P := True) rfl trivial ?_
        refine jt_call jm_m211 42 (mi' := 146) (as := [.inr (.inr (5, 0, 0)), .inr (.inr (5, 1, 0))]) (rest := []) (nxt := 81) rfl rfl jm_m146 rfl rfl (tb_copies Zm (by decide)) ?_
        rintro u h3 ⟨rfl, Rh3, Fh3⟩
        show jt_T 211 (81, [(7, .inl (nI 1)), (6, .inl (nI k)), (5, .inl (nI (sp_bits (fun k => decide (wi_t (sp_up g (36 + 5 * c + w) k) s e d c)) k))), (0, .inr (.inr (4, 0, 0))), (1, .inl (nI d)), (2, .inl (nI c)), (3, .inl (nI w)), (4, .inl (nI 0))], [], h3) _
        have Rh3 : jg_rel h3 1 g := Rh3
        have Wh3 : jw (g) := W
        have Zh3 := jg_mov0 Zm Fh3
        have Fh3 := jg_fr_tr Fm Fh3
        refine jt_go jm_m211 43 4 (f' := (87, [(7, .inl (nI 1)), (6, .inl (nI k)), (5, .inl (nI (sp_bits (fun k => decide (wi_t (sp_up g (36 + 5 * c + w) k) s e d c)) k))), (0, .inr (.inr (4, 0, 0))), (1, .inl (nI d)), (2, .inl (nI c)), (3, .inl (nI w)), (4, .inl (nI 0))], [.inl (nI w), .inl (nI c), .inr (.inr (5, 1, 0))], h3)) (P := True) rfl trivial ?_
        refine jt_callp (w := .inl (nI (36 + 5 * c + w))) jm_m211 47 (mi' := 147) (as := [.inl (nI c), .inl (nI w)]) (rest := [.inr (.inr (5, 1, 0))]) (nxt := 90) rfl rfl jm_m147 rfl rfl (tb_ofC (k := 36 + 5 * c + w) (by omega)) ?_
        refine jt_goM jm_m211 48 2 (pc' := 93) (L' := [(7, .inl (nI 1)), (6, .inl (nI k)), (5, .inl (nI (sp_bits (fun k => decide (wi_t (sp_up g (36 + 5 * c + w) k) s e d c)) k))), (0, .inr (.inr (4, 0, 0))), (1, .inl (nI d)), (2, .inl (nI c)), (3, .inl (nI w)), (4, .inl (nI 0))]) (st' := []) (m' := jm_set h3 (5, 1, 0) (upd (h3 (5, 1, 0)) (nI (36 + 5 * c + w)).toNatClampNeg (nI k))) (P := vp_in (nI (36 + 5 * c + w)) 78 ∧ True) rfl ⟨(vp_in_nI (by omega) (by decide)), trivial⟩ (fun h4 eh4 => ?_)
        have Fh4 : jg_fr 1 h h4 := by rw [eh4]; exact jg_fr_set Fh3
        obtain ⟨gh4, egh4⟩ : ∃ y, y = sp_up g (36 + 5 * c + w) (k) := ⟨_, rfl⟩
        have Rh4 : jg_rel h4 1 gh4 := by rw [eh4, egh4]; exact jg_set Rh3 (k := 36 + 5 * c + w) (w := k) (nI_clamp (by omega)) rfl
        refine jt_go jm_m211 50 2 (f' := (96, [(8, .inl (nI 0)), (7, .inl (nI 1)), (6, .inl (nI k)), (5, .inl (nI (sp_bits (fun k => decide (wi_t (sp_up g (36 + 5 * c + w) k) s e d c)) k))), (0, .inr (.inr (4, 0, 0))), (1, .inl (nI d)), (2, .inl (nI c)), (3, .inl (nI w)), (4, .inl (nI 0))], [], h4)) (P := True) rfl trivial ?_
        refine jt_pick (L' := [(8, .inl (nI 0)), (7, .inl (nI 1)), (0, .inr (.inr (4, 0, 0))), (1, .inl (nI d)), (2, .inl (nI c)), (3, .inl (nI w)), (4, .inl (nI 0)), (5, .inl (nI (sp_bits (fun k => decide (wi_t (sp_up g (36 + 5 * c + w) k) s e d c)) k))), (6, .inl (nI k))]) [0, 1, 4, 5, 6, 7, 8, 3, 2] rfl ?_
        have kont : ∀ h9 : jm_M, jg_fr 1 h h9 → jt_T 211 (176, [(8, .inl (nI (s d 4))), (7, .inl (nI (wi_q (sp_up g (36 + 5 * c + w) k) s e d c (s d 4)))), (0, .inr (.inr (4, 0, 0))), (1, .inl (nI d)), (2, .inl (nI c)), (3, .inl (nI w)), (4, .inl (nI 0)), (5, .inl (nI (sp_bits (fun k => decide (wi_t (sp_up g (36 + 5 * c + w) k) s e d c)) k))), (6, .inl (nI k))], [], h9) (fun u h' => u = some (.inl (nI (sp_bits (fun k => decide (wi_t (sp_up g (36 + 5 * c + w) k) s e d c)) (sp_lim w)))) ∧ jg_fr 1 h h') := by
          intro h9 F9
          have bw := wi_le (g := (sp_up g (36 + 5 * c + w) k)) (s := s) (e := e) (d := d) (c := c) (n := s d 4)
          refine jt_go jm_m211 95 2 (f' := (180, [(8, .inl (nI (s d 4))), (7, .inl (nI (wi_q (sp_up g (36 + 5 * c + w) k) s e d c (s d 4)))), (0, .inr (.inr (4, 0, 0))), (1, .inl (nI d)), (2, .inl (nI c)), (3, .inl (nI w)), (4, .inl (nI 0)), (5, .inl (nI (sp_bits (fun k => decide (wi_t (sp_up g (36 + 5 * c + w) k) s e d c)) k))), (6, .inl (nI k))], [.inl (nI (wi_q (sp_up g (36 + 5 * c + w) k) s e d c (s d 4))), .inl (nI (sp_bits (fun k => decide (wi_t (sp_up g (36 + 5 * c + w) k) s e d c)) k))], h9)) (P := True) rfl trivial ?_
          refine jt_nifeq jm_m211 97 (by omega) (tgt := 190) (nxt := 183) rfl rfl rfl (fun c180 => ?_) (fun c180 => ?_)
          · refine jt_go jm_m211 102 2 (f' := (192, [(8, .inl (nI (s d 4))), (7, .inl (nI (wi_q (sp_up g (36 + 5 * c + w) k) s e d c (s d 4)))), (0, .inr (.inr (4, 0, 0))), (1, .inl (nI d)), (2, .inl (nI c)), (3, .inl (nI w)), (4, .inl (nI 0)), (5, .inl (nI (sp_bits (fun k => decide (wi_t (sp_up g (36 + 5 * c + w) k) s e d c)) k))), (6, .inl (nI k))], [.inl ((nI (sp_bits (fun k => decide (wi_t (sp_up g (36 + 5 * c + w) k) s e d c)) k)) ||| (nI 0))], h9)) (P := True) rfl trivial ?_
            refine jt_ti (show ((nI (sp_bits (fun k => decide (wi_t (sp_up g (36 + 5 * c + w) k) s e d c)) k)) ||| (nI 0)) = nI (sp_bits (fun k => decide (wi_t (sp_up g (36 + 5 * c + w) k) s e d c)) k) from jx_or0 _) ?_
            refine jt_go jm_m211 104 1 (f' := (194, [(5, .inl (nI (sp_bits (fun k => decide (wi_t (sp_up g (36 + 5 * c + w) k) s e d c)) k))), (8, .inl (nI (s d 4))), (7, .inl (nI (wi_q (sp_up g (36 + 5 * c + w) k) s e d c (s d 4)))), (0, .inr (.inr (4, 0, 0))), (1, .inl (nI d)), (2, .inl (nI c)), (3, .inl (nI w)), (4, .inl (nI 0)), (6, .inl (nI k))], [], h9)) (P := True) rfl trivial ?_
            refine jt_inc jm_m211 105 (c := k) (L' := [(6, .inl (nI (k + 1))), (5, .inl (nI (sp_bits (fun k => decide (wi_t (sp_up g (36 + 5 * c + w) k) s e d c)) k))), (8, .inl (nI (s d 4))), (7, .inl (nI (wi_q (sp_up g (36 + 5 * c + w) k) s e d c (s d 4)))), (0, .inr (.inr (4, 0, 0))), (1, .inl (nI d)), (2, .inl (nI c)), (3, .inl (nI w)), (4, .inl (nI 0))]) rfl rfl rfl rfl ?_
            refine jt_go jm_m211 106 1 (f' := (41, [(6, .inl (nI (k + 1))), (5, .inl (nI (sp_bits (fun k => decide (wi_t (sp_up g (36 + 5 * c + w) k) s e d c)) k))), (8, .inl (nI (s d 4))), (7, .inl (nI (wi_q (sp_up g (36 + 5 * c + w) k) s e d c (s d 4)))), (0, .inr (.inr (4, 0, 0))), (1, .inl (nI d)), (2, .inl (nI c)), (3, .inl (nI w)), (4, .inl (nI 0))], [], h9)) (P := True) rfl trivial ?_
            refine jt_pick (L' := [(6, .inl (nI (k + 1))), (5, .inl (nI (sp_bits (fun k => decide (wi_t (sp_up g (36 + 5 * c + w) k) s e d c)) k))), (0, .inr (.inr (4, 0, 0))), (1, .inl (nI d)), (2, .inl (nI c)), (3, .inl (nI w)), (4, .inl (nI 0))]) [0, 1, 4, 5, 6, 7, 8] rfl ?_
            have e_ : sp_bits (fun k => decide (wi_t (sp_up g (36 + 5 * c + w) k) s e d c)) (k + 1) = sp_bits (fun k => decide (wi_t (sp_up g (36 + 5 * c + w) k) s e d c)) k := if_neg (fun z => wi_z c180 (of_decide_eq_true z))
            have q := nx (by omega) h9 (jg_mov0 R F9) F9
            rw [e_] at q
            exact q
          · refine jt_go jm_m211 98 4 (f' := (191, [(8, .inl (nI (s d 4))), (7, .inl (nI (wi_q (sp_up g (36 + 5 * c + w) k) s e d c (s d 4)))), (0, .inr (.inr (4, 0, 0))), (1, .inl (nI d)), (2, .inl (nI c)), (3, .inl (nI w)), (4, .inl (nI 0)), (5, .inl (nI (sp_bits (fun k => decide (wi_t (sp_up g (36 + 5 * c + w) k) s e d c)) k))), (6, .inl (nI k))], [.inl ((nI 1) <<< ((nI k) &&& 31)), .inl (nI (sp_bits (fun k => decide (wi_t (sp_up g (36 + 5 * c + w) k) s e d c)) k))], h9)) (P := True) rfl trivial ?_
            refine jt_go jm_m211 103 1 (f' := (192, [(8, .inl (nI (s d 4))), (7, .inl (nI (wi_q (sp_up g (36 + 5 * c + w) k) s e d c (s d 4)))), (0, .inr (.inr (4, 0, 0))), (1, .inl (nI d)), (2, .inl (nI c)), (3, .inl (nI w)), (4, .inl (nI 0)), (5, .inl (nI (sp_bits (fun k => decide (wi_t (sp_up g (36 + 5 * c + w) k) s e d c)) k))), (6, .inl (nI k))], [.inl ((nI (sp_bits (fun k => decide (wi_t (sp_up g (36 + 5 * c + w) k) s e d c)) k)) ||| ((nI 1) <<< ((nI k) &&& 31)))], h9)) (P := True) rfl trivial ?_
            refine jt_ti (show ((nI (sp_bits (fun k => decide (wi_t (sp_up g (36 + 5 * c + w) k) s e d c)) k)) ||| ((nI 1) <<< ((nI k) &&& 31))) = nI (sp_bits (fun k => decide (wi_t (sp_up g (36 + 5 * c + w) k) s e d c)) k + 2 ^ k) from jx_or16 (by omega) bs) ?_
            refine jt_go jm_m211 104 1 (f' := (194, [(5, .inl (nI (sp_bits (fun k => decide (wi_t (sp_up g (36 + 5 * c + w) k) s e d c)) k + 2 ^ k))), (8, .inl (nI (s d 4))), (7, .inl (nI (wi_q (sp_up g (36 + 5 * c + w) k) s e d c (s d 4)))), (0, .inr (.inr (4, 0, 0))), (1, .inl (nI d)), (2, .inl (nI c)), (3, .inl (nI w)), (4, .inl (nI 0)), (6, .inl (nI k))], [], h9)) (P := True) rfl trivial ?_
            refine jt_inc jm_m211 105 (c := k) (L' := [(6, .inl (nI (k + 1))), (5, .inl (nI (sp_bits (fun k => decide (wi_t (sp_up g (36 + 5 * c + w) k) s e d c)) k + 2 ^ k))), (8, .inl (nI (s d 4))), (7, .inl (nI (wi_q (sp_up g (36 + 5 * c + w) k) s e d c (s d 4)))), (0, .inr (.inr (4, 0, 0))), (1, .inl (nI d)), (2, .inl (nI c)), (3, .inl (nI w)), (4, .inl (nI 0))]) rfl rfl rfl rfl ?_
            refine jt_go jm_m211 106 1 (f' := (41, [(6, .inl (nI (k + 1))), (5, .inl (nI (sp_bits (fun k => decide (wi_t (sp_up g (36 + 5 * c + w) k) s e d c)) k + 2 ^ k))), (8, .inl (nI (s d 4))), (7, .inl (nI (wi_q (sp_up g (36 + 5 * c + w) k) s e d c (s d 4)))), (0, .inr (.inr (4, 0, 0))), (1, .inl (nI d)), (2, .inl (nI c)), (3, .inl (nI w)), (4, .inl (nI 0))], [], h9)) (P := True) rfl trivial ?_
            refine jt_pick (L' := [(6, .inl (nI (k + 1))), (5, .inl (nI (sp_bits (fun k => decide (wi_t (sp_up g (36 + 5 * c + w) k) s e d c)) k + 2 ^ k))), (0, .inr (.inr (4, 0, 0))), (1, .inl (nI d)), (2, .inl (nI c)), (3, .inl (nI w)), (4, .inl (nI 0))]) [0, 1, 4, 5, 6, 7, 8] rfl ?_
            have e_ : sp_bits (fun k => decide (wi_t (sp_up g (36 + 5 * c + w) k) s e d c)) (k + 1) = sp_bits (fun k => decide (wi_t (sp_up g (36 + 5 * c + w) k) s e d c)) k + 2 ^ k := if_pos (decide_eq_true (wi_nz c180))
            have q := nx (by omega) h9 (jg_mov0 R F9) F9
            rw [e_] at q
            exact q
        rw [egh4] at Rh4
        have big := cb_told_i (jw_sup W (by omega) hw (fun q => by omega) (fun q => by omega) (by omega)) K Y hd qa hc kont 0 (Nat.zero_le _) h4 Rh4 Fh4
        rw [wi_0] at big
        exact big
  · refine jt_go jm_m211 27 2 (f' := (64, [(6, .inl (nI k)), (5, .inl (nI (sp_bits (fun k => decide (wi_t (sp_up g (36 + 5 * c + w) k) s e d c)) k))), (0, .inr (.inr (4, 0, 0))), (1, .inl (nI d)), (2, .inl (nI c)), (3, .inl (nI w)), (4, .inl (nI 0))], [.inl (nI 8), .inl (nI k)], hm)) (P := True) rfl trivial ?_
    refine jt_nicge jm_m211 35 (a := k) (b := 8) (by omega) (by omega) (tgt := 200) (nxt := 67) rfl rfl rfl (fun c64 => ?_) (fun c64 => ?_)
    · refine jt_go jm_m211 107 1 (f' := (202, [(6, .inl (nI k)), (5, .inl (nI (sp_bits (fun k => decide (wi_t (sp_up g (36 + 5 * c + w) k) s e d c)) k))), (0, .inr (.inr (4, 0, 0))), (1, .inl (nI d)), (2, .inl (nI c)), (3, .inl (nI w)), (4, .inl (nI 0))], [.inl (nI (sp_bits (fun k => decide (wi_t (sp_up g (36 + 5 * c + w) k) s e d c)) k))], hm)) (P := True) rfl trivial ?_
      refine jt_iret jm_m211 108 rfl ?_
      have e_ : k = sp_lim w := by omega
      subst e_
      exact ⟨rfl, Fm⟩
    · refine jt_go jm_m211 36 6 (f' := (78, [(7, .inl (nI 1)), (6, .inl (nI k)), (5, .inl (nI (sp_bits (fun k => decide (wi_t (sp_up g (36 + 5 * c + w) k) s e d c)) k))), (0, .inr (.inr (4, 0, 0))), (1, .inl (nI d)), (2, .inl (nI c)), (3, .inl (nI w)), (4, .inl (nI 0))], [.inr (.inr (5, 1, 0)), .inr (.inr (5, 0, 0))], hm)) (P := True) rfl trivial ?_
      refine jt_call jm_m211 42 (mi' := 146) (as := [.inr (.inr (5, 0, 0)), .inr (.inr (5, 1, 0))]) (rest := []) (nxt := 81) rfl rfl jm_m146 rfl rfl (tb_copies Zm (by decide)) ?_
      rintro u h5 ⟨rfl, Rh5, Fh5⟩
      show jt_T 211 (81, [(7, .inl (nI 1)), (6, .inl (nI k)), (5, .inl (nI (sp_bits (fun k => decide (wi_t (sp_up g (36 + 5 * c + w) k) s e d c)) k))), (0, .inr (.inr (4, 0, 0))), (1, .inl (nI d)), (2, .inl (nI c)), (3, .inl (nI w)), (4, .inl (nI 0))], [], h5) _
      have Rh5 : jg_rel h5 1 g := Rh5
      have Wh5 : jw (g) := W
      have Zh5 := jg_mov0 Zm Fh5
      have Fh5 := jg_fr_tr Fm Fh5
      refine jt_go jm_m211 43 4 (f' := (87, [(7, .inl (nI 1)), (6, .inl (nI k)), (5, .inl (nI (sp_bits (fun k => decide (wi_t (sp_up g (36 + 5 * c + w) k) s e d c)) k))), (0, .inr (.inr (4, 0, 0))), (1, .inl (nI d)), (2, .inl (nI c)), (3, .inl (nI w)), (4, .inl (nI 0))], [.inl (nI w), .inl (nI c), .inr (.inr (5, 1, 0))], h5)) (P := True) rfl trivial ?_
      refine jt_callp (w := .inl (nI (36 + 5 * c + w))) jm_m211 47 (mi' := 147) (as := [.inl (nI c), .inl (nI w)]) (rest := [.inr (.inr (5, 1, 0))]) (nxt := 90) rfl rfl jm_m147 rfl rfl (tb_ofC (k := 36 + 5 * c + w) (by omega)) ?_
      refine jt_goM jm_m211 48 2 (pc' := 93) (L' := [(7, .inl (nI 1)), (6, .inl (nI k)), (5, .inl (nI (sp_bits (fun k => decide (wi_t (sp_up g (36 + 5 * c + w) k) s e d c)) k))), (0, .inr (.inr (4, 0, 0))), (1, .inl (nI d)), (2, .inl (nI c)), (3, .inl (nI w)), (4, .inl (nI 0))]) (st' := []) (m' := jm_set h5 (5, 1, 0) (upd (h5 (5, 1, 0)) (nI (36 + 5 * c + w)).toNatClampNeg (nI k))) (P := vp_in (nI (36 + 5 * c + w)) 78 ∧ True) rfl ⟨(vp_in_nI (by omega) (by decide)), trivial⟩ (fun h6 eh6 => ?_)
      have Fh6 : jg_fr 1 h h6 := by rw [eh6]; exact jg_fr_set Fh5
      obtain ⟨gh6, egh6⟩ : ∃ y, y = sp_up g (36 + 5 * c + w) (k) := ⟨_, rfl⟩
      have Rh6 : jg_rel h6 1 gh6 := by rw [eh6, egh6]; exact jg_set Rh5 (k := 36 + 5 * c + w) (w := k) (nI_clamp (by omega)) rfl
      refine jt_go jm_m211 50 2 (f' := (96, [(8, .inl (nI 0)), (7, .inl (nI 1)), (6, .inl (nI k)), (5, .inl (nI (sp_bits (fun k => decide (wi_t (sp_up g (36 + 5 * c + w) k) s e d c)) k))), (0, .inr (.inr (4, 0, 0))), (1, .inl (nI d)), (2, .inl (nI c)), (3, .inl (nI w)), (4, .inl (nI 0))], [], h6)) (P := True) rfl trivial ?_
      refine jt_pick (L' := [(8, .inl (nI 0)), (7, .inl (nI 1)), (0, .inr (.inr (4, 0, 0))), (1, .inl (nI d)), (2, .inl (nI c)), (3, .inl (nI w)), (4, .inl (nI 0)), (5, .inl (nI (sp_bits (fun k => decide (wi_t (sp_up g (36 + 5 * c + w) k) s e d c)) k))), (6, .inl (nI k))]) [0, 1, 4, 5, 6, 7, 8, 3, 2] rfl ?_
      have kont : ∀ h9 : jm_M, jg_fr 1 h h9 → jt_T 211 (176, [(8, .inl (nI (s d 4))), (7, .inl (nI (wi_q (sp_up g (36 + 5 * c + w) k) s e d c (s d 4)))), (0, .inr (.inr (4, 0, 0))), (1, .inl (nI d)), (2, .inl (nI c)), (3, .inl (nI w)), (4, .inl (nI 0)), (5, .inl (nI (sp_bits (fun k => decide (wi_t (sp_up g (36 + 5 * c + w) k) s e d c)) k))), (6, .inl (nI k))], [], h9) (fun u h' => u = some (.inl (nI (sp_bits (fun k => decide (wi_t (sp_up g (36 + 5 * c + w) k) s e d c)) (sp_lim w)))) ∧ jg_fr 1 h h') := by
        intro h9 F9
        have bw := wi_le (g := (sp_up g (36 + 5 * c + w) k)) (s := s) (e := e) (d := d) (c := c) (n := s d 4)
        refine jt_go jm_m211 95 2 (f' := (180, [(8, .inl (nI (s d 4))), (7, .inl (nI (wi_q (sp_up g (36 + 5 * c + w) k) s e d c (s d 4)))), (0, .inr (.inr (4, 0, 0))), (1, .inl (nI d)), (2, .inl (nI c)), (3, .inl (nI w)), (4, .inl (nI 0)), (5, .inl (nI (sp_bits (fun k => decide (wi_t (sp_up g (36 + 5 * c + w) k) s e d c)) k))), (6, .inl (nI k))], [.inl (nI (wi_q (sp_up g (36 + 5 * c + w) k) s e d c (s d 4))), .inl (nI (sp_bits (fun k => decide (wi_t (sp_up g (36 + 5 * c + w) k) s e d c)) k))], h9)) (P := True) rfl trivial ?_
        refine jt_nifeq jm_m211 97 (by omega) (tgt := 190) (nxt := 183) rfl rfl rfl (fun c180 => ?_) (fun c180 => ?_)
        · refine jt_go jm_m211 102 2 (f' := (192, [(8, .inl (nI (s d 4))), (7, .inl (nI (wi_q (sp_up g (36 + 5 * c + w) k) s e d c (s d 4)))), (0, .inr (.inr (4, 0, 0))), (1, .inl (nI d)), (2, .inl (nI c)), (3, .inl (nI w)), (4, .inl (nI 0)), (5, .inl (nI (sp_bits (fun k => decide (wi_t (sp_up g (36 + 5 * c + w) k) s e d c)) k))), (6, .inl (nI k))], [.inl ((nI (sp_bits (fun k => decide (wi_t (sp_up g (36 + 5 * c + w) k) s e d c)) k)) ||| (nI 0))], h9)) (P := True) rfl trivial ?_
          refine jt_ti (show ((nI (sp_bits (fun k => decide (wi_t (sp_up g (36 + 5 * c + w) k) s e d c)) k)) ||| (nI 0)) = nI (sp_bits (fun k => decide (wi_t (sp_up g (36 + 5 * c + w) k) s e d c)) k) from jx_or0 _) ?_
          refine jt_go jm_m211 104 1 (f' := (194, [(5, .inl (nI (sp_bits (fun k => decide (wi_t (sp_up g (36 + 5 * c + w) k) s e d c)) k))), (8, .inl (nI (s d 4))), (7, .inl (nI (wi_q (sp_up g (36 + 5 * c + w) k) s e d c (s d 4)))), (0, .inr (.inr (4, 0, 0))), (1, .inl (nI d)), (2, .inl (nI c)), (3, .inl (nI w)), (4, .inl (nI 0)), (6, .inl (nI k))], [], h9)) (P := True) rfl trivial ?_
          refine jt_inc jm_m211 105 (c := k) (L' := [(6, .inl (nI (k + 1))), (5, .inl (nI (sp_bits (fun k => decide (wi_t (sp_up g (36 + 5 * c + w) k) s e d c)) k))), (8, .inl (nI (s d 4))), (7, .inl (nI (wi_q (sp_up g (36 + 5 * c + w) k) s e d c (s d 4)))), (0, .inr (.inr (4, 0, 0))), (1, .inl (nI d)), (2, .inl (nI c)), (3, .inl (nI w)), (4, .inl (nI 0))]) rfl rfl rfl rfl ?_
          refine jt_go jm_m211 106 1 (f' := (41, [(6, .inl (nI (k + 1))), (5, .inl (nI (sp_bits (fun k => decide (wi_t (sp_up g (36 + 5 * c + w) k) s e d c)) k))), (8, .inl (nI (s d 4))), (7, .inl (nI (wi_q (sp_up g (36 + 5 * c + w) k) s e d c (s d 4)))), (0, .inr (.inr (4, 0, 0))), (1, .inl (nI d)), (2, .inl (nI c)), (3, .inl (nI w)), (4, .inl (nI 0))], [], h9)) (P := True) rfl trivial ?_
          refine jt_pick (L' := [(6, .inl (nI (k + 1))), (5, .inl (nI (sp_bits (fun k => decide (wi_t (sp_up g (36 + 5 * c + w) k) s e d c)) k))), (0, .inr (.inr (4, 0, 0))), (1, .inl (nI d)), (2, .inl (nI c)), (3, .inl (nI w)), (4, .inl (nI 0))]) [0, 1, 4, 5, 6, 7, 8] rfl ?_
          have e_ : sp_bits (fun k => decide (wi_t (sp_up g (36 + 5 * c + w) k) s e d c)) (k + 1) = sp_bits (fun k => decide (wi_t (sp_up g (36 + 5 * c + w) k) s e d c)) k := if_neg (fun z => wi_z c180 (of_decide_eq_true z))
          have q := nx (by omega) h9 (jg_mov0 R F9) F9
          rw [e_] at q
          exact q
        · refine jt_go jm_m211 98 4 (f' := (191, [(8, .inl (nI (s d 4))), (7, .inl (nI (wi_q (sp_up g (36 + 5 * c + w) k) s e d c (s d 4)))), (0, .inr (.inr (4, 0, 0))), (1, .inl (nI d)), (2, .inl (nI c)), (3, .inl (nI w)), (4, .inl (nI 0)), (5, .inl (nI (sp_bits (fun k => decide (wi_t (sp_up g (36 + 5 * c + w) k) s e d c)) k))), (6, .inl (nI k))], [.inl ((nI 1) <<< ((nI k) &&& 31)), .inl (nI (sp_bits (fun k => decide (wi_t (sp_up g (36 + 5 * c + w) k) s e d c)) k))], h9)) (P := True) rfl trivial ?_
          refine jt_go jm_m211 103 1 (f' := (192, [(8, .inl (nI (s d 4))), (7, .inl (nI (wi_q (sp_up g (36 + 5 * c + w) k) s e d c (s d 4)))), (0, .inr (.inr (4, 0, 0))), (1, .inl (nI d)), (2, .inl (nI c)), (3, .inl (nI w)), (4, .inl (nI 0)), (5, .inl (nI (sp_bits (fun k => decide (wi_t (sp_up g (36 + 5 * c + w) k) s e d c)) k))), (6, .inl (nI k))], [.inl ((nI (sp_bits (fun k => decide (wi_t (sp_up g (36 + 5 * c + w) k) s e d c)) k)) ||| ((nI 1) <<< ((nI k) &&& 31)))], h9)) (P := True) rfl trivial ?_
          refine jt_ti (show ((nI (sp_bits (fun k => decide (wi_t (sp_up g (36 + 5 * c + w) k) s e d c)) k)) ||| ((nI 1) <<< ((nI k) &&& 31))) = nI (sp_bits (fun k => decide (wi_t (sp_up g (36 + 5 * c + w) k) s e d c)) k + 2 ^ k) from jx_or16 (by omega) bs) ?_
          refine jt_go jm_m211 104 1 (f' := (194, [(5, .inl (nI (sp_bits (fun k => decide (wi_t (sp_up g (36 + 5 * c + w) k) s e d c)) k + 2 ^ k))), (8, .inl (nI (s d 4))), (7, .inl (nI (wi_q (sp_up g (36 + 5 * c + w) k) s e d c (s d 4)))), (0, .inr (.inr (4, 0, 0))), (1, .inl (nI d)), (2, .inl (nI c)), (3, .inl (nI w)), (4, .inl (nI 0)), (6, .inl (nI k))], [], h9)) (P := True) rfl trivial ?_
          refine jt_inc jm_m211 105 (c := k) (L' := [(6, .inl (nI (k + 1))), (5, .inl (nI (sp_bits (fun k => decide (wi_t (sp_up g (36 + 5 * c + w) k) s e d c)) k + 2 ^ k))), (8, .inl (nI (s d 4))), (7, .inl (nI (wi_q (sp_up g (36 + 5 * c + w) k) s e d c (s d 4)))), (0, .inr (.inr (4, 0, 0))), (1, .inl (nI d)), (2, .inl (nI c)), (3, .inl (nI w)), (4, .inl (nI 0))]) rfl rfl rfl rfl ?_
          refine jt_go jm_m211 106 1 (f' := (41, [(6, .inl (nI (k + 1))), (5, .inl (nI (sp_bits (fun k => decide (wi_t (sp_up g (36 + 5 * c + w) k) s e d c)) k + 2 ^ k))), (8, .inl (nI (s d 4))), (7, .inl (nI (wi_q (sp_up g (36 + 5 * c + w) k) s e d c (s d 4)))), (0, .inr (.inr (4, 0, 0))), (1, .inl (nI d)), (2, .inl (nI c)), (3, .inl (nI w)), (4, .inl (nI 0))], [], h9)) (P := True) rfl trivial ?_
          refine jt_pick (L' := [(6, .inl (nI (k + 1))), (5, .inl (nI (sp_bits (fun k => decide (wi_t (sp_up g (36 + 5 * c + w) k) s e d c)) k + 2 ^ k))), (0, .inr (.inr (4, 0, 0))), (1, .inl (nI d)), (2, .inl (nI c)), (3, .inl (nI w)), (4, .inl (nI 0))]) [0, 1, 4, 5, 6, 7, 8] rfl ?_
          have e_ : sp_bits (fun k => decide (wi_t (sp_up g (36 + 5 * c + w) k) s e d c)) (k + 1) = sp_bits (fun k => decide (wi_t (sp_up g (36 + 5 * c + w) k) s e d c)) k + 2 ^ k := if_pos (decide_eq_true (wi_nz c180))
          have q := nx (by omega) h9 (jg_mov0 R F9) F9
          rw [e_] at q
          exact q
      rw [egh6] at Rh6
      have big := cb_told_i (jw_sup W (by omega) hw (fun q => by omega) (fun q => by omega) (by omega)) K Y hd qa hc kont 0 (Nat.zero_le _) h6 Rh6 Fh6
      rw [wi_0] at big
      exact big)
set_option maxHeartbeats 4000000 in
set_option maxRecDepth 20000 in
theorem cb_whatIs {h : jm_M} {s : Nat → Nat → Nat} {e : Nat → Nat → Int32} (K : jl_rel h s e) (Y : kw s) {g : Nat → Nat} (R : jg_rel h 0 g) (W : jw g) {x y z : Int32} : jt_T 211 (0, [(0, .inr (.inr (4, 0, 0))), (1, .inl (x)), (2, .inl (y)), (3, .inl (z))], [], h) (fun u h' => u = some (.inl (za_whatIs g s e x y z)) ∧ jg_fr 1 h h') := by
  have bn := jw_n W
  have bm := jw_m W
  have bt := jw_t W
  refine jt_go jm_m211 0 2 (f' := (2, [(0, .inr (.inr (4, 0, 0))), (1, .inl (x)), (2, .inl (y)), (3, .inl (z))], [.inl (y), .inr (.inr (4, 0, 0))], h)) (P := True) rfl trivial ?_
  refine jt_callp (w := .inl (jm_b (nI 0 ≤ y ∧ y < nI (g 0)))) jm_m211 2 (mi' := 149) (as := [.inr (.inr (4, 0, 0)), .inl (y)]) (rest := []) (nxt := 5) rfl rfl jm_m149 rfl rfl (tb_isCat R W) ?_
  refine jt_ifbeq jm_m211 3 (tgt := 17) (nxt := 8) rfl rfl rfl (fun c5 => ?_) (fun c5 => ?_)
  · refine jt_go jm_m211 9 1 (f' := (18, [(0, .inr (.inr (4, 0, 0))), (1, .inl (x)), (2, .inl (y)), (3, .inl (z))], [.inl ((-1))], h)) (P := True) rfl trivial ?_
    refine jt_iret jm_m211 10 rfl ?_
    exact ⟨jt_li (if_neg (fun z => c5 z.1)).symm, jg_fr_rf⟩
  · have r5 := c5
    obtain ⟨c, hbc, rfl⟩ := jx_cat (by omega) r5
    show jt_T 211 (8, [(0, .inr (.inr (4, 0, 0))), (1, .inl (x)), (2, .inl (nI c)), (3, .inl (z))], [], h) _
    refine jt_go jm_m211 4 3 (f' := (11, [(0, .inr (.inr (4, 0, 0))), (1, .inl (x)), (2, .inl (nI c)), (3, .inl (z))], [.inl (nI 2), .inl (nI 0), .inl (z)], h)) (P := True) rfl trivial ?_
    refine jt_callp (w := .inl (jm_b (nI 0 ≤ z ∧ z ≤ nI 2))) jm_m211 7 (mi' := 143) (as := [.inl (z), .inl (nI 0), .inl (nI 2)]) (rest := []) (nxt := 14) rfl rfl jm_m143 rfl rfl (tb_isIn) ?_
    refine jt_ifbne jm_m211 8 (tgt := 19) (nxt := 17) rfl rfl rfl (fun c14 => ?_) (fun c14 => ?_)
    · have r14 := c14
      obtain ⟨w, hbw, rfl⟩ := jx_win (by decide) r14
      show jt_T 211 (19, [(0, .inr (.inr (4, 0, 0))), (1, .inl (x)), (2, .inl (nI c)), (3, .inl (nI w))], [], h) _
      refine jt_go jm_m211 11 3 (f' := (22, [(0, .inr (.inr (4, 0, 0))), (1, .inl (x)), (2, .inl (nI c)), (3, .inl (nI w))], [.inl ((-1)), .inl (x), .inr (.inr (4, 0, 0))], h)) (P := True) rfl trivial ?_
      refine jt_callp (w := .inl (zr_h 2 s x)) jm_m211 14 (mi' := 228) (as := [.inr (.inr (4, 0, 0)), .inl (x), .inl ((-1))]) (rest := []) (nxt := 25) rfl rfl jm_m228 rfl rfl (tl_row K Y) ?_
      rcases zr_cs (x := x) Y (Or.inr rfl) with ⟨qn, q0⟩ | ⟨d, hd, rfl, qa, q0⟩ | ⟨d, hd, rfl, qa, q0⟩ | ⟨d, hd, rfl, qa, q0⟩
      · refine jt_ti (show zr_h 2 s x = (-1) from q0) ?_
        show jt_T 211 (25, [(0, .inr (.inr (4, 0, 0))), (1, .inl (x)), (2, .inl (nI c)), (3, .inl (nI w))], [.inl ((-1))], h) _
        refine jt_go jm_m211 15 2 (f' := (29, [(4, .inl ((-1))), (0, .inr (.inr (4, 0, 0))), (1, .inl (x)), (2, .inl (nI c)), (3, .inl (nI w))], [.inl ((-1))], h)) (P := True) rfl trivial ?_
        refine jt_ifeq jm_m211 17 (tgt := 35) (nxt := 32) rfl rfl rfl (fun c29 => ?_) (fun c29 => ?_)
        · exact absurd c29 (by decide)
        · refine jt_go jm_m211 18 1 (f' := (34, [(4, .inl ((-1))), (0, .inr (.inr (4, 0, 0))), (1, .inl (x)), (2, .inl (nI c)), (3, .inl (nI w))], [.inl ((-1))], h)) (P := True) rfl trivial ?_
          refine jt_iret jm_m211 19 rfl ?_
          refine ⟨jt_li ?_, jg_fr_rf⟩
          refine Eq.trans ?_ (if_pos ⟨c5, c14⟩).symm
          rw [q0]
          rfl
      · refine jt_ti (show zr_h 2 s (nI d) = (-11) from q0) ?_
        show jt_T 211 (25, [(0, .inr (.inr (4, 0, 0))), (1, .inl (nI d)), (2, .inl (nI c)), (3, .inl (nI w))], [.inl ((-11))], h) _
        refine jt_go jm_m211 15 2 (f' := (29, [(4, .inl ((-11))), (0, .inr (.inr (4, 0, 0))), (1, .inl (nI d)), (2, .inl (nI c)), (3, .inl (nI w))], [.inl ((-11))], h)) (P := True) rfl trivial ?_
        refine jt_ifeq jm_m211 17 (tgt := 35) (nxt := 32) rfl rfl rfl (fun c29 => ?_) (fun c29 => ?_)
        · exact absurd c29 (by decide)
        · refine jt_go jm_m211 18 1 (f' := (34, [(4, .inl ((-11))), (0, .inr (.inr (4, 0, 0))), (1, .inl (nI d)), (2, .inl (nI c)), (3, .inl (nI w))], [.inl ((-11))], h)) (P := True) rfl trivial ?_
          refine jt_iret jm_m211 19 rfl ?_
          refine ⟨jt_li ?_, jg_fr_rf⟩
          refine Eq.trans ?_ (if_pos ⟨c5, c14⟩).symm
          rw [q0]
          rfl
      · refine jt_ti (show zr_h 2 s (nI d) = (-12) from q0) ?_
        show jt_T 211 (25, [(0, .inr (.inr (4, 0, 0))), (1, .inl (nI d)), (2, .inl (nI c)), (3, .inl (nI w))], [.inl ((-12))], h) _
        refine jt_go jm_m211 15 2 (f' := (29, [(4, .inl ((-12))), (0, .inr (.inr (4, 0, 0))), (1, .inl (nI d)), (2, .inl (nI c)), (3, .inl (nI w))], [.inl ((-12))], h)) (P := True) rfl trivial ?_
        refine jt_ifeq jm_m211 17 (tgt := 35) (nxt := 32) rfl rfl rfl (fun c29 => ?_) (fun c29 => ?_)
        · exact absurd c29 (by decide)
        · refine jt_go jm_m211 18 1 (f' := (34, [(4, .inl ((-12))), (0, .inr (.inr (4, 0, 0))), (1, .inl (nI d)), (2, .inl (nI c)), (3, .inl (nI w))], [.inl ((-12))], h)) (P := True) rfl trivial ?_
          refine jt_iret jm_m211 19 rfl ?_
          refine ⟨jt_li ?_, jg_fr_rf⟩
          refine Eq.trans ?_ (if_pos ⟨c5, c14⟩).symm
          rw [q0]
          rfl
      · refine jt_ti (show zr_h 2 s (nI d) = nI 0 from q0) ?_
        show jt_T 211 (25, [(0, .inr (.inr (4, 0, 0))), (1, .inl (nI d)), (2, .inl (nI c)), (3, .inl (nI w))], [.inl (nI 0)], h) _
        refine jt_go jm_m211 15 2 (f' := (29, [(4, .inl (nI 0)), (0, .inr (.inr (4, 0, 0))), (1, .inl (nI d)), (2, .inl (nI c)), (3, .inl (nI w))], [.inl (nI 0)], h)) (P := True) rfl trivial ?_
        refine jt_nifeq jm_m211 17 (by omega) (tgt := 35) (nxt := 32) rfl rfl rfl (fun c29 => ?_) (fun c29 => ?_)
        · refine jt_go jm_m211 20 4 (f' := (41, [(6, .inl (nI 0)), (5, .inl (nI 0)), (4, .inl (nI 0)), (0, .inr (.inr (4, 0, 0))), (1, .inl (nI d)), (2, .inl (nI c)), (3, .inl (nI w))], [], h)) (P := True) rfl trivial ?_
          refine jt_pick (L' := [(6, .inl (nI 0)), (5, .inl (nI 0)), (0, .inr (.inr (4, 0, 0))), (1, .inl (nI d)), (2, .inl (nI c)), (3, .inl (nI w)), (4, .inl (nI 0))]) [0, 1, 3, 4, 5, 6, 2] rfl ?_
          refine jt_mono (cb_what_l R W K Y hd qa (w := w) (by omega) (by omega) 0 (Nat.zero_le _) h R jg_fr_rf) (fun u h2 zz => ⟨zz.1.trans (jt_li ?_), zz.2⟩)
          refine Eq.trans ?_ ((if_pos q0).symm.trans (if_pos ⟨c5, c14⟩).symm)
          rw [nI_clamp (n := d) (by omega), nI_clamp (n := c) (by omega), nI_clamp (n := w) (by omega)]
        · exact absurd c29 (by decide)
    · refine jt_go jm_m211 9 1 (f' := (18, [(0, .inr (.inr (4, 0, 0))), (1, .inl (x)), (2, .inl (nI c)), (3, .inl (z))], [.inl ((-1))], h)) (P := True) rfl trivial ?_
      refine jt_iret jm_m211 10 rfl ?_
      exact ⟨jt_li (if_neg (fun z => c14 z.2)).symm, jg_fr_rf⟩
