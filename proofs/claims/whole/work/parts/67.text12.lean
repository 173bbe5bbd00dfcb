/-! TEXT: the reference does a statement. -/
set_option maxHeartbeats 4000000 in
set_option maxRecDepth 20000 in
theorem tb_dc {h : jm_M} {g : Nat → Nat} (R : jg_rel h 0 g) (W : jw g) {a b z : Nat} (ha : a < 100) (hb : b < 10) (hz : z < 100) (N0 : h (4, 0, 1) 0 = nI a) (N1 : h (4, 0, 1) 1 = nI b) (N2 : h (4, 0, 1) 2 = nI z)  : jt_T 173 (0, [(0, .inr (.inr (4, 0, 0))), (1, .inl (nI 99))], [], h) (fun u h' => u = some (.inl (jm_b (a < 8 ∧ z < 16 ∧ g 0 < 6))) ∧ (a < 8 ∧ z < 16 ∧ g 0 < 6 → jg_rel h' 0 (sp_ac g a b z)) ∧ (¬ (a < 8 ∧ z < 16 ∧ g 0 < 6) → jg_rel h' 0 g) ∧ jg_fr 0 h h') := by
  have bn := jw_n W
  have bm := jw_m W
  have bt := jw_t W
  refine jt_go jm_m173 0 4 (f' := (6, [(0, .inr (.inr (4, 0, 0))), (1, .inl (nI 99))], [.inl (h (4, 0, 1) (nI 0).toNatClampNeg)], h)) (P := vp_in (nI 0) 3 ∧ True) rfl ⟨(vp_in_nI (by omega) (by decide)), trivial⟩ ?_
  refine jt_ti (show (h (4, 0, 1) (nI 0).toNatClampNeg) = nI a from by rw [nI_clamp (by decide)]; exact N0) ?_
  refine jt_go jm_m173 4 5 (f' := (13, [(2, .inl (nI a)), (0, .inr (.inr (4, 0, 0))), (1, .inl (nI 99))], [.inl (h (4, 0, 1) (nI 1).toNatClampNeg)], h)) (P := vp_in (nI 1) 3 ∧ True) rfl ⟨(vp_in_nI (by omega) (by decide)), trivial⟩ ?_
  refine jt_ti (show (h (4, 0, 1) (nI 1).toNatClampNeg) = nI b from by rw [nI_clamp (by decide)]; exact N1) ?_
  refine jt_go jm_m173 9 2 (f' := (15, [(3, .inl (nI b)), (2, .inl (nI a)), (0, .inr (.inr (4, 0, 0))), (1, .inl (nI 99))], [.inl (nI 99)], h)) (P := True) rfl trivial ?_
  refine jt_ls jm_m173 11 rfl ⟨fun d0 => ?_, fun d0 => ⟨fun d1 => ?_, fun d1 => ⟨fun d2 => ?_, fun d2 => ⟨fun d3 => ?_, fun d3 => ⟨fun d4 => ?_, fun d4 => ?_⟩⟩⟩⟩⟩
  · have d0 : 99 = 99 := nI_inj (by omega) (by decide) d0
    show jt_T 173 (64, [(3, .inl (nI b)), (2, .inl (nI a)), (0, .inr (.inr (4, 0, 0))), (1, .inl (nI 99))], [], h) _
    refine jt_go jm_m173 12 2 (f' := (67, [(3, .inl (nI b)), (2, .inl (nI a)), (0, .inr (.inr (4, 0, 0))), (1, .inl (nI 99))], [.inl (nI 8), .inl (nI a)], h)) (P := True) rfl trivial ?_
    refine jt_nicge jm_m173 14 (a := a) (b := 8) (by omega) (by omega) (tgt := 93) (nxt := 70) rfl rfl rfl (fun c67 => ?_) (fun c67 => ?_)
    · refine jt_go jm_m173 27 1 (f' := (94, [(3, .inl (nI b)), (2, .inl (nI a)), (0, .inr (.inr (4, 0, 0))), (1, .inl (nI 99))], [.inl (nI 0)], h)) (P := True) rfl trivial ?_
      refine jt_zret jm_m173 28 rfl (Or.inl rfl) ?_
      have pp : ¬ (a < 8 ∧ z < 16 ∧ g 0 < 6) := fun q => absurd q.1 (by omega)
      exact ⟨jt_lb0 pp, fun q => absurd q pp, fun _ => R, jg_fr_rf⟩
    · refine jt_go jm_m173 15 4 (f' := (76, [(3, .inl (nI b)), (2, .inl (nI a)), (0, .inr (.inr (4, 0, 0))), (1, .inl (nI 99))], [.inl (h (4, 0, 1) (nI 2).toNatClampNeg)], h)) (P := vp_in (nI 2) 3 ∧ True) rfl ⟨(vp_in_nI (by omega) (by decide)), trivial⟩ ?_
      refine jt_ti (show (h (4, 0, 1) (nI 2).toNatClampNeg) = nI z from by rw [nI_clamp (by decide)]; exact N2) ?_
      refine jt_callp (w := .inl (jm_b (nI 0 ≤ nI z ∧ nI z ≤ nI 15))) jm_m173 19 (mi' := 151) (as := [.inl (nI z)]) (rest := []) (nxt := 79) rfl rfl jm_m151 rfl rfl (tb_place) ?_
      refine jt_ifbeq jm_m173 20 (tgt := 93) (nxt := 82) rfl rfl rfl (fun c79 => ?_) (fun c79 => ?_)
      · refine jt_go jm_m173 27 1 (f' := (94, [(3, .inl (nI b)), (2, .inl (nI a)), (0, .inr (.inr (4, 0, 0))), (1, .inl (nI 99))], [.inl (nI 0)], h)) (P := True) rfl trivial ?_
        refine jt_zret jm_m173 28 rfl (Or.inl rfl) ?_
        have pp : ¬ (a < 8 ∧ z < 16 ∧ g 0 < 6) := fun q => c79 ⟨nI_pos' (by omega), (nI_leI (by omega) (by omega)).mpr (by omega)⟩
        exact ⟨jt_lb0 pp, fun q => absurd q pp, fun _ => R, jg_fr_rf⟩
      · have hz2 : z ≤ 15 := (nI_leI (by omega) (by omega)).mp c79.2
        refine jt_go jm_m173 21 4 (f' := (88, [(3, .inl (nI b)), (2, .inl (nI a)), (0, .inr (.inr (4, 0, 0))), (1, .inl (nI 99))], [.inl (h (5, 0, 0) (nI 0).toNatClampNeg)], h)) (P := vp_in (nI 0) 78 ∧ True) rfl ⟨(vp_in_nI (by omega) (by decide)), trivial⟩ ?_
        refine jt_ti (show (h (5, 0, 0) (nI 0).toNatClampNeg) = nI (g 0) from jg_get R (k := 0) (nI_clamp (by omega)) (by omega)) ?_
        have bq1 := jw_n W
        refine jt_go jm_m173 25 1 (f' := (90, [(3, .inl (nI b)), (2, .inl (nI a)), (0, .inr (.inr (4, 0, 0))), (1, .inl (nI 99))], [.inl (nI 6), .inl (nI (g 0))], h)) (P := True) rfl trivial ?_
        refine jt_nicne jm_m173 26 (a := g 0) (b := 6) (by omega) (by omega) (tgt := 95) (nxt := 93) rfl rfl rfl (fun c90 => ?_) (fun c90 => ?_)
        · refine jt_go jm_m173 29 7 (f' := (104, [(3, .inl (nI b)), (2, .inl (nI a)), (0, .inr (.inr (4, 0, 0))), (1, .inl (nI 99))], [.inl (h (4, 0, 1) (nI 2).toNatClampNeg), .inl (nI b), .inl (nI a), .inr (.inr (4, 0, 0))], h)) (P := vp_in (nI 2) 3 ∧ True) rfl ⟨(vp_in_nI (by omega) (by decide)), trivial⟩ ?_
          refine jt_ti (show (h (4, 0, 1) (nI 2).toNatClampNeg) = nI z from by rw [nI_clamp (by decide)]; exact N2) ?_
          refine jt_call jm_m173 36 (mi' := 171) (as := [.inr (.inr (4, 0, 0)), .inl (nI a), .inl (nI b), .inl (nI z)]) (rest := []) (nxt := 107) rfl rfl jm_m171 rfl rfl (tb_ac R W (by omega) (by omega) (by omega) (by omega)) ?_
          rintro u h1 ⟨rfl, R1, Fh1⟩
          show jt_T 173 (107, [(3, .inl (nI b)), (2, .inl (nI a)), (0, .inr (.inr (4, 0, 0))), (1, .inl (nI 99))], [], h1) _
          refine jt_go jm_m173 37 1 (f' := (108, [(3, .inl (nI b)), (2, .inl (nI a)), (0, .inr (.inr (4, 0, 0))), (1, .inl (nI 99))], [.inl (nI 1)], h1)) (P := True) rfl trivial ?_
          refine jt_zret jm_m173 38 rfl (Or.inr rfl) ?_
          have pp : a < 8 ∧ z < 16 ∧ g 0 < 6 := ⟨by omega, by omega, by omega⟩
          exact ⟨jt_lb1 pp, fun _ => R1, fun q => absurd pp q, Fh1⟩
        · refine jt_go jm_m173 27 1 (f' := (94, [(3, .inl (nI b)), (2, .inl (nI a)), (0, .inr (.inr (4, 0, 0))), (1, .inl (nI 99))], [.inl (nI 0)], h)) (P := True) rfl trivial ?_
          refine jt_zret jm_m173 28 rfl (Or.inl rfl) ?_
          have pp : ¬ (a < 8 ∧ z < 16 ∧ g 0 < 6) := fun q => absurd q.2.2 (by omega)
          exact ⟨jt_lb0 pp, fun q => absurd q pp, fun _ => R, jg_fr_rf⟩
  · have d1 : 99 = 102 := nI_inj (by omega) (by decide) d1
    show jt_T 173 (134, [(3, .inl (nI b)), (2, .inl (nI a)), (0, .inr (.inr (4, 0, 0))), (1, .inl (nI 99))], [], h) _
    exact absurd d1 (by decide)
  · have d2 : 99 = 109 := nI_inj (by omega) (by decide) d2
    show jt_T 173 (109, [(3, .inl (nI b)), (2, .inl (nI a)), (0, .inr (.inr (4, 0, 0))), (1, .inl (nI 99))], [], h) _
    exact absurd d2 (by decide)
  · have d3 : 99 = 119 := nI_inj (by omega) (by decide) d3
    show jt_T 173 (165, [(3, .inl (nI b)), (2, .inl (nI a)), (0, .inr (.inr (4, 0, 0))), (1, .inl (nI 99))], [], h) _
    exact absurd d3 (by decide)
  · have d4 : 99 = 120 := nI_inj (by omega) (by decide) d4
    show jt_T 173 (134, [(3, .inl (nI b)), (2, .inl (nI a)), (0, .inr (.inr (4, 0, 0))), (1, .inl (nI 99))], [], h) _
    exact absurd d4 (by decide)
  · have d0 : ¬ 99 = 99 := fun z => d0 (by rw [z]; rfl)
    have d1 : ¬ 99 = 102 := fun z => d1 (by rw [z]; rfl)
    have d2 : ¬ 99 = 109 := fun z => d2 (by rw [z]; rfl)
    have d3 : ¬ 99 = 119 := fun z => d3 (by rw [z]; rfl)
    have d4 : ¬ 99 = 120 := fun z => d4 (by rw [z]; rfl)
    show jt_T 173 (200, [(3, .inl (nI b)), (2, .inl (nI a)), (0, .inr (.inr (4, 0, 0))), (1, .inl (nI 99))], [], h) _
    exact absurd rfl d0
set_option maxHeartbeats 4000000 in
set_option maxRecDepth 20000 in
theorem tb_dm {h : jm_M} {g : Nat → Nat} (R : jg_rel h 0 g) (W : jw g) {a b z : Nat} (ha : a < 100) (hb : b < 10) (hz : z < 100) (N0 : h (4, 0, 1) 0 = nI a)  : jt_T 173 (0, [(0, .inr (.inr (4, 0, 0))), (1, .inl (nI 109))], [], h) (fun u h' => u = some (.inl (jm_b (a ≤ 1 ∧ g 1 < 6))) ∧ (a ≤ 1 ∧ g 1 < 6 → jg_rel h' 0 (sp_am g a)) ∧ (¬ (a ≤ 1 ∧ g 1 < 6) → jg_rel h' 0 g) ∧ jg_fr 0 h h') := by
  have bn := jw_n W
  have bm := jw_m W
  have bt := jw_t W
  refine jt_go jm_m173 0 4 (f' := (6, [(0, .inr (.inr (4, 0, 0))), (1, .inl (nI 109))], [.inl (h (4, 0, 1) (nI 0).toNatClampNeg)], h)) (P := vp_in (nI 0) 3 ∧ True) rfl ⟨(vp_in_nI (by omega) (by decide)), trivial⟩ ?_
  refine jt_ti (show (h (4, 0, 1) (nI 0).toNatClampNeg) = nI a from by rw [nI_clamp (by decide)]; exact N0) ?_
  refine jt_go jm_m173 4 5 (f' := (13, [(2, .inl (nI a)), (0, .inr (.inr (4, 0, 0))), (1, .inl (nI 109))], [.inl (h (4, 0, 1) (nI 1).toNatClampNeg)], h)) (P := vp_in (nI 1) 3 ∧ True) rfl ⟨(vp_in_nI (by omega) (by decide)), trivial⟩ ?_
  refine jt_tn (fun x1 ex1 => ?_)
  refine jt_go jm_m173 9 2 (f' := (15, [(3, .inl (x1)), (2, .inl (nI a)), (0, .inr (.inr (4, 0, 0))), (1, .inl (nI 109))], [.inl (nI 109)], h)) (P := True) rfl trivial ?_
  refine jt_ls jm_m173 11 rfl ⟨fun d0 => ?_, fun d0 => ⟨fun d1 => ?_, fun d1 => ⟨fun d2 => ?_, fun d2 => ⟨fun d3 => ?_, fun d3 => ⟨fun d4 => ?_, fun d4 => ?_⟩⟩⟩⟩⟩
  · have d0 : 109 = 99 := nI_inj (by omega) (by decide) d0
    show jt_T 173 (64, [(3, .inl (x1)), (2, .inl (nI a)), (0, .inr (.inr (4, 0, 0))), (1, .inl (nI 109))], [], h) _
    exact absurd d0 (by decide)
  · have d1 : 109 = 102 := nI_inj (by omega) (by decide) d1
    show jt_T 173 (134, [(3, .inl (x1)), (2, .inl (nI a)), (0, .inr (.inr (4, 0, 0))), (1, .inl (nI 109))], [], h) _
    exact absurd d1 (by decide)
  · have d2 : 109 = 109 := nI_inj (by omega) (by decide) d2
    show jt_T 173 (109, [(3, .inl (x1)), (2, .inl (nI a)), (0, .inr (.inr (4, 0, 0))), (1, .inl (nI 109))], [], h) _
    refine jt_go jm_m173 39 2 (f' := (111, [(3, .inl (x1)), (2, .inl (nI a)), (0, .inr (.inr (4, 0, 0))), (1, .inl (nI 109))], [.inl (nI 1), .inl (nI a)], h)) (P := True) rfl trivial ?_
    refine jt_nicgt jm_m173 41 (a := a) (b := 1) (by omega) (by omega) (tgt := 125) (nxt := 114) rfl rfl rfl (fun c111 => ?_) (fun c111 => ?_)
    · refine jt_go jm_m173 48 1 (f' := (126, [(3, .inl (x1)), (2, .inl (nI a)), (0, .inr (.inr (4, 0, 0))), (1, .inl (nI 109))], [.inl (nI 0)], h)) (P := True) rfl trivial ?_
      refine jt_zret jm_m173 49 rfl (Or.inl rfl) ?_
      have pp : ¬ (a ≤ 1 ∧ g 1 < 6) := fun q => by have := q.1; have := q.2; omega
      exact ⟨jt_lb0 pp, fun q => absurd q pp, fun _ => R, jg_fr_rf⟩
    · refine jt_go jm_m173 42 4 (f' := (120, [(3, .inl (x1)), (2, .inl (nI a)), (0, .inr (.inr (4, 0, 0))), (1, .inl (nI 109))], [.inl (h (5, 0, 0) (nI 1).toNatClampNeg)], h)) (P := vp_in (nI 1) 78 ∧ True) rfl ⟨(vp_in_nI (by omega) (by decide)), trivial⟩ ?_
      refine jt_ti (show (h (5, 0, 0) (nI 1).toNatClampNeg) = nI (g 1) from jg_get R (k := 1) (nI_clamp (by omega)) (by omega)) ?_
      have bq1 := jw_m W
      refine jt_go jm_m173 46 1 (f' := (122, [(3, .inl (x1)), (2, .inl (nI a)), (0, .inr (.inr (4, 0, 0))), (1, .inl (nI 109))], [.inl (nI 6), .inl (nI (g 1))], h)) (P := True) rfl trivial ?_
      refine jt_nicne jm_m173 47 (a := g 1) (b := 6) (by omega) (by omega) (tgt := 127) (nxt := 125) rfl rfl rfl (fun c122 => ?_) (fun c122 => ?_)
      · refine jt_go jm_m173 50 2 (f' := (129, [(3, .inl (x1)), (2, .inl (nI a)), (0, .inr (.inr (4, 0, 0))), (1, .inl (nI 109))], [.inl (nI a), .inr (.inr (4, 0, 0))], h)) (P := True) rfl trivial ?_
        refine jt_call jm_m173 52 (mi' := 172) (as := [.inr (.inr (4, 0, 0)), .inl (nI a)]) (rest := []) (nxt := 132) rfl rfl jm_m172 rfl rfl (tb_am R W (by omega) (by omega)) ?_
        rintro u h1 ⟨rfl, R1, Fh1⟩
        show jt_T 173 (132, [(3, .inl (x1)), (2, .inl (nI a)), (0, .inr (.inr (4, 0, 0))), (1, .inl (nI 109))], [], h1) _
        refine jt_go jm_m173 53 1 (f' := (133, [(3, .inl (x1)), (2, .inl (nI a)), (0, .inr (.inr (4, 0, 0))), (1, .inl (nI 109))], [.inl (nI 1)], h1)) (P := True) rfl trivial ?_
        refine jt_zret jm_m173 54 rfl (Or.inr rfl) ?_
        have pp : a ≤ 1 ∧ g 1 < 6 := ⟨by omega, by omega⟩
        exact ⟨jt_lb1 pp, fun _ => R1, fun q => absurd pp q, Fh1⟩
      · refine jt_go jm_m173 48 1 (f' := (126, [(3, .inl (x1)), (2, .inl (nI a)), (0, .inr (.inr (4, 0, 0))), (1, .inl (nI 109))], [.inl (nI 0)], h)) (P := True) rfl trivial ?_
        refine jt_zret jm_m173 49 rfl (Or.inl rfl) ?_
        have pp : ¬ (a ≤ 1 ∧ g 1 < 6) := fun q => by have := q.1; have := q.2; omega
        exact ⟨jt_lb0 pp, fun q => absurd q pp, fun _ => R, jg_fr_rf⟩
  · have d3 : 109 = 119 := nI_inj (by omega) (by decide) d3
    show jt_T 173 (165, [(3, .inl (x1)), (2, .inl (nI a)), (0, .inr (.inr (4, 0, 0))), (1, .inl (nI 109))], [], h) _
    exact absurd d3 (by decide)
  · have d4 : 109 = 120 := nI_inj (by omega) (by decide) d4
    show jt_T 173 (134, [(3, .inl (x1)), (2, .inl (nI a)), (0, .inr (.inr (4, 0, 0))), (1, .inl (nI 109))], [], h) _
    exact absurd d4 (by decide)
  · have d0 : ¬ 109 = 99 := fun z => d0 (by rw [z]; rfl)
    have d1 : ¬ 109 = 102 := fun z => d1 (by rw [z]; rfl)
    have d2 : ¬ 109 = 109 := fun z => d2 (by rw [z]; rfl)
    have d3 : ¬ 109 = 119 := fun z => d3 (by rw [z]; rfl)
    have d4 : ¬ 109 = 120 := fun z => d4 (by rw [z]; rfl)
    show jt_T 173 (200, [(3, .inl (x1)), (2, .inl (nI a)), (0, .inr (.inr (4, 0, 0))), (1, .inl (nI 109))], [], h) _
    exact absurd rfl d2
set_option maxHeartbeats 4000000 in
set_option maxRecDepth 20000 in
theorem tb_df {h : jm_M} {g : Nat → Nat} (R : jg_rel h 0 g) (W : jw g) {a b z : Nat} (ha : a < 100) (hb : b < 10) (hz : z < 100) (N0 : h (4, 0, 1) 0 = nI a) (N1 : h (4, 0, 1) 1 = nI b)  : jt_T 173 (0, [(0, .inr (.inr (4, 0, 0))), (1, .inl (nI 102))], [], h) (fun u h' => u = some (.inl (jm_b (a < 16))) ∧ (a < 16 → jg_rel h' 0 (sp_up g (4 + a) b)) ∧ (¬ (a < 16) → jg_rel h' 0 g) ∧ jg_fr 0 h h') := by
  have bn := jw_n W
  have bm := jw_m W
  have bt := jw_t W
  refine jt_go jm_m173 0 4 (f' := (6, [(0, .inr (.inr (4, 0, 0))), (1, .inl (nI 102))], [.inl (h (4, 0, 1) (nI 0).toNatClampNeg)], h)) (P := vp_in (nI 0) 3 ∧ True) rfl ⟨(vp_in_nI (by omega) (by decide)), trivial⟩ ?_
  refine jt_ti (show (h (4, 0, 1) (nI 0).toNatClampNeg) = nI a from by rw [nI_clamp (by decide)]; exact N0) ?_
  refine jt_go jm_m173 4 5 (f' := (13, [(2, .inl (nI a)), (0, .inr (.inr (4, 0, 0))), (1, .inl (nI 102))], [.inl (h (4, 0, 1) (nI 1).toNatClampNeg)], h)) (P := vp_in (nI 1) 3 ∧ True) rfl ⟨(vp_in_nI (by omega) (by decide)), trivial⟩ ?_
  refine jt_ti (show (h (4, 0, 1) (nI 1).toNatClampNeg) = nI b from by rw [nI_clamp (by decide)]; exact N1) ?_
  refine jt_go jm_m173 9 2 (f' := (15, [(3, .inl (nI b)), (2, .inl (nI a)), (0, .inr (.inr (4, 0, 0))), (1, .inl (nI 102))], [.inl (nI 102)], h)) (P := True) rfl trivial ?_
  refine jt_ls jm_m173 11 rfl ⟨fun d0 => ?_, fun d0 => ⟨fun d1 => ?_, fun d1 => ⟨fun d2 => ?_, fun d2 => ⟨fun d3 => ?_, fun d3 => ⟨fun d4 => ?_, fun d4 => ?_⟩⟩⟩⟩⟩
  · have d0 : 102 = 99 := nI_inj (by omega) (by decide) d0
    show jt_T 173 (64, [(3, .inl (nI b)), (2, .inl (nI a)), (0, .inr (.inr (4, 0, 0))), (1, .inl (nI 102))], [], h) _
    exact absurd d0 (by decide)
  · have d1 : 102 = 102 := nI_inj (by omega) (by decide) d1
    show jt_T 173 (134, [(3, .inl (nI b)), (2, .inl (nI a)), (0, .inr (.inr (4, 0, 0))), (1, .inl (nI 102))], [], h) _
    refine jt_go jm_m173 55 1 (f' := (135, [(3, .inl (nI b)), (2, .inl (nI a)), (0, .inr (.inr (4, 0, 0))), (1, .inl (nI 102))], [.inl (nI a)], h)) (P := True) rfl trivial ?_
    refine jt_callp (w := .inl (jm_b (nI 0 ≤ nI a ∧ nI a ≤ nI 15))) jm_m173 56 (mi' := 151) (as := [.inl (nI a)]) (rest := []) (nxt := 138) rfl rfl jm_m151 rfl rfl (tb_place) ?_
    refine jt_ifbne jm_m173 57 (tgt := 143) (nxt := 141) rfl rfl rfl (fun c138 => ?_) (fun c138 => ?_)
    · have ha2 : a ≤ 15 := (nI_leI (by omega) (by omega)).mp c138.2
      refine jt_go jm_m173 60 4 (f' := (150, [(3, .inl (nI b)), (2, .inl (nI a)), (0, .inr (.inr (4, 0, 0))), (1, .inl (nI 102))], [.inl (nI 102), .inl (nI 102), .inr (.inr (5, 0, 0))], h)) (P := True) rfl trivial ?_
      refine jt_nicne jm_m173 64 (a := 102) (b := 102) (by omega) (by omega) (tgt := 157) (nxt := 153) rfl rfl rfl (fun c150 => ?_) (fun c150 => ?_)
      · exact absurd c150 (by decide)
      · refine jt_go jm_m173 65 2 (f' := (159, [(3, .inl (nI b)), (2, .inl (nI a)), (0, .inr (.inr (4, 0, 0))), (1, .inl (nI 102))], [.inl (nI 4), .inr (.inr (5, 0, 0))], h)) (P := True) rfl trivial ?_
        refine jt_go jm_m173 68 2 (f' := (161, [(3, .inl (nI b)), (2, .inl (nI a)), (0, .inr (.inr (4, 0, 0))), (1, .inl (nI 102))], [.inl ((nI 4) + (nI a)), .inr (.inr (5, 0, 0))], h)) (P := True) rfl trivial ?_
        refine jt_ti (show ((nI 4) + (nI a)) = nI (4 + a) from nI_add _ _) ?_
        refine jt_goM jm_m173 70 2 (pc' := 163) (L' := [(3, .inl (nI b)), (2, .inl (nI a)), (0, .inr (.inr (4, 0, 0))), (1, .inl (nI 102))]) (st' := []) (m' := jm_set h (5, 0, 0) (upd (h (5, 0, 0)) (nI (4 + a)).toNatClampNeg (nI b))) (P := vp_in (nI (4 + a)) 78 ∧ True) rfl ⟨(vp_in_nI (by omega) (by decide)), trivial⟩ (fun h1 eh1 => ?_)
        have Fh1 : jg_fr 0 h h1 := by rw [eh1]; exact jg_fr_set jg_fr_rf
        obtain ⟨gh1, egh1⟩ : ∃ y, y = sp_up g (4 + a) (b) := ⟨_, rfl⟩
        have Rh1 : jg_rel h1 0 gh1 := by rw [eh1, egh1]; exact jg_set R (k := 4 + a) (w := b) (nI_clamp (by omega)) rfl
        refine jt_go jm_m173 72 1 (f' := (164, [(3, .inl (nI b)), (2, .inl (nI a)), (0, .inr (.inr (4, 0, 0))), (1, .inl (nI 102))], [.inl (nI 1)], h1)) (P := True) rfl trivial ?_
        refine jt_zret jm_m173 73 rfl (Or.inr rfl) ?_
        have pp : a < 16 := by omega
        exact ⟨jt_lb1 pp, fun _ => by rw [← egh1]; exact Rh1, fun q => absurd pp q, Fh1⟩
    · refine jt_go jm_m173 58 1 (f' := (142, [(3, .inl (nI b)), (2, .inl (nI a)), (0, .inr (.inr (4, 0, 0))), (1, .inl (nI 102))], [.inl (nI 0)], h)) (P := True) rfl trivial ?_
      refine jt_zret jm_m173 59 rfl (Or.inl rfl) ?_
      have pp : ¬ (a < 16) := fun q => c138 ⟨nI_pos' (by omega), (nI_leI (by omega) (by omega)).mpr (by omega)⟩
      exact ⟨jt_lb0 pp, fun q => absurd q pp, fun _ => R, jg_fr_rf⟩
  · have d2 : 102 = 109 := nI_inj (by omega) (by decide) d2
    show jt_T 173 (109, [(3, .inl (nI b)), (2, .inl (nI a)), (0, .inr (.inr (4, 0, 0))), (1, .inl (nI 102))], [], h) _
    exact absurd d2 (by decide)
  · have d3 : 102 = 119 := nI_inj (by omega) (by decide) d3
    show jt_T 173 (165, [(3, .inl (nI b)), (2, .inl (nI a)), (0, .inr (.inr (4, 0, 0))), (1, .inl (nI 102))], [], h) _
    exact absurd d3 (by decide)
  · have d4 : 102 = 120 := nI_inj (by omega) (by decide) d4
    show jt_T 173 (134, [(3, .inl (nI b)), (2, .inl (nI a)), (0, .inr (.inr (4, 0, 0))), (1, .inl (nI 102))], [], h) _
    exact absurd d4 (by decide)
  · have d0 : ¬ 102 = 99 := fun z => d0 (by rw [z]; rfl)
    have d1 : ¬ 102 = 102 := fun z => d1 (by rw [z]; rfl)
    have d2 : ¬ 102 = 109 := fun z => d2 (by rw [z]; rfl)
    have d3 : ¬ 102 = 119 := fun z => d3 (by rw [z]; rfl)
    have d4 : ¬ 102 = 120 := fun z => d4 (by rw [z]; rfl)
    show jt_T 173 (200, [(3, .inl (nI b)), (2, .inl (nI a)), (0, .inr (.inr (4, 0, 0))), (1, .inl (nI 102))], [], h) _
    exact absurd rfl d1
set_option maxHeartbeats 4000000 in
set_option maxRecDepth 20000 in
theorem tb_dx {h : jm_M} {g : Nat → Nat} (R : jg_rel h 0 g) (W : jw g) {a b z : Nat} (ha : a < 100) (hb : b < 10) (hz : z < 100) (N0 : h (4, 0, 1) 0 = nI a) (N1 : h (4, 0, 1) 1 = nI b)  : jt_T 173 (0, [(0, .inr (.inr (4, 0, 0))), (1, .inl (nI 120))], [], h) (fun u h' => u = some (.inl (jm_b (a < 16))) ∧ (a < 16 → jg_rel h' 0 (sp_up g (20 + a) b)) ∧ (¬ (a < 16) → jg_rel h' 0 g) ∧ jg_fr 0 h h') := by
  have bn := jw_n W
  have bm := jw_m W
  have bt := jw_t W
  refine jt_go jm_m173 0 4 (f' := (6, [(0, .inr (.inr (4, 0, 0))), (1, .inl (nI 120))], [.inl (h (4, 0, 1) (nI 0).toNatClampNeg)], h)) (P := vp_in (nI 0) 3 ∧ True) rfl ⟨(vp_in_nI (by omega) (by decide)), trivial⟩ ?_
  refine jt_ti (show (h (4, 0, 1) (nI 0).toNatClampNeg) = nI a from by rw [nI_clamp (by decide)]; exact N0) ?_
  refine jt_go jm_m173 4 5 (f' := (13, [(2, .inl (nI a)), (0, .inr (.inr (4, 0, 0))), (1, .inl (nI 120))], [.inl (h (4, 0, 1) (nI 1).toNatClampNeg)], h)) (P := vp_in (nI 1) 3 ∧ True) rfl ⟨(vp_in_nI (by omega) (by decide)), trivial⟩ ?_
  refine jt_ti (show (h (4, 0, 1) (nI 1).toNatClampNeg) = nI b from by rw [nI_clamp (by decide)]; exact N1) ?_
  refine jt_go jm_m173 9 2 (f' := (15, [(3, .inl (nI b)), (2, .inl (nI a)), (0, .inr (.inr (4, 0, 0))), (1, .inl (nI 120))], [.inl (nI 120)], h)) (P := True) rfl trivial ?_
  refine jt_ls jm_m173 11 rfl ⟨fun d0 => ?_, fun d0 => ⟨fun d1 => ?_, fun d1 => ⟨fun d2 => ?_, fun d2 => ⟨fun d3 => ?_, fun d3 => ⟨fun d4 => ?_, fun d4 => ?_⟩⟩⟩⟩⟩
  · have d0 : 120 = 99 := nI_inj (by omega) (by decide) d0
    show jt_T 173 (64, [(3, .inl (nI b)), (2, .inl (nI a)), (0, .inr (.inr (4, 0, 0))), (1, .inl (nI 120))], [], h) _
    exact absurd d0 (by decide)
  · have d1 : 120 = 102 := nI_inj (by omega) (by decide) d1
    show jt_T 173 (134, [(3, .inl (nI b)), (2, .inl (nI a)), (0, .inr (.inr (4, 0, 0))), (1, .inl (nI 120))], [], h) _
    exact absurd d1 (by decide)
  · have d2 : 120 = 109 := nI_inj (by omega) (by decide) d2
    show jt_T 173 (109, [(3, .inl (nI b)), (2, .inl (nI a)), (0, .inr (.inr (4, 0, 0))), (1, .inl (nI 120))], [], h) _
    exact absurd d2 (by decide)
  · have d3 : 120 = 119 := nI_inj (by omega) (by decide) d3
    show jt_T 173 (165, [(3, .inl (nI b)), (2, .inl (nI a)), (0, .inr (.inr (4, 0, 0))), (1, .inl (nI 120))], [], h) _
    exact absurd d3 (by decide)
  · have d4 : 120 = 120 := nI_inj (by omega) (by decide) d4
    show jt_T 173 (134, [(3, .inl (nI b)), (2, .inl (nI a)), (0, .inr (.inr (4, 0, 0))), (1, .inl (nI 120))], [], h) _
    refine jt_go jm_m173 55 1 (f' := (135, [(3, .inl (nI b)), (2, .inl (nI a)), (0, .inr (.inr (4, 0, 0))), (1, .inl (nI 120))], [.inl (nI a)], h)) (P := True) rfl trivial ?_
    refine jt_callp (w := .inl (jm_b (nI 0 ≤ nI a ∧ nI a ≤ nI 15))) jm_m173 56 (mi' := 151) (as := [.inl (nI a)]) (rest := []) (nxt := 138) rfl rfl jm_m151 rfl rfl (tb_place) ?_
    refine jt_ifbne jm_m173 57 (tgt := 143) (nxt := 141) rfl rfl rfl (fun c138 => ?_) (fun c138 => ?_)
    · have ha2 : a ≤ 15 := (nI_leI (by omega) (by omega)).mp c138.2
      refine jt_go jm_m173 60 4 (f' := (150, [(3, .inl (nI b)), (2, .inl (nI a)), (0, .inr (.inr (4, 0, 0))), (1, .inl (nI 120))], [.inl (nI 102), .inl (nI 120), .inr (.inr (5, 0, 0))], h)) (P := True) rfl trivial ?_
      refine jt_nicne jm_m173 64 (a := 120) (b := 102) (by omega) (by omega) (tgt := 157) (nxt := 153) rfl rfl rfl (fun c150 => ?_) (fun c150 => ?_)
      · refine jt_go jm_m173 67 3 (f' := (161, [(3, .inl (nI b)), (2, .inl (nI a)), (0, .inr (.inr (4, 0, 0))), (1, .inl (nI 120))], [.inl ((nI 20) + (nI a)), .inr (.inr (5, 0, 0))], h)) (P := True) rfl trivial ?_
        refine jt_ti (show ((nI 20) + (nI a)) = nI (20 + a) from nI_add _ _) ?_
        refine jt_goM jm_m173 70 2 (pc' := 163) (L' := [(3, .inl (nI b)), (2, .inl (nI a)), (0, .inr (.inr (4, 0, 0))), (1, .inl (nI 120))]) (st' := []) (m' := jm_set h (5, 0, 0) (upd (h (5, 0, 0)) (nI (20 + a)).toNatClampNeg (nI b))) (P := vp_in (nI (20 + a)) 78 ∧ True) rfl ⟨(vp_in_nI (by omega) (by decide)), trivial⟩ (fun h1 eh1 => ?_)
        have Fh1 : jg_fr 0 h h1 := by rw [eh1]; exact jg_fr_set jg_fr_rf
        obtain ⟨gh1, egh1⟩ : ∃ y, y = sp_up g (20 + a) (b) := ⟨_, rfl⟩
        have Rh1 : jg_rel h1 0 gh1 := by rw [eh1, egh1]; exact jg_set R (k := 20 + a) (w := b) (nI_clamp (by omega)) rfl
        refine jt_go jm_m173 72 1 (f' := (164, [(3, .inl (nI b)), (2, .inl (nI a)), (0, .inr (.inr (4, 0, 0))), (1, .inl (nI 120))], [.inl (nI 1)], h1)) (P := True) rfl trivial ?_
        refine jt_zret jm_m173 73 rfl (Or.inr rfl) ?_
        have pp : a < 16 := by omega
        exact ⟨jt_lb1 pp, fun _ => by rw [← egh1]; exact Rh1, fun q => absurd pp q, Fh1⟩
      · exact absurd c150 (by decide)
    · refine jt_go jm_m173 58 1 (f' := (142, [(3, .inl (nI b)), (2, .inl (nI a)), (0, .inr (.inr (4, 0, 0))), (1, .inl (nI 120))], [.inl (nI 0)], h)) (P := True) rfl trivial ?_
      refine jt_zret jm_m173 59 rfl (Or.inl rfl) ?_
      have pp : ¬ (a < 16) := fun q => c138 ⟨nI_pos' (by omega), (nI_leI (by omega) (by omega)).mpr (by omega)⟩
      exact ⟨jt_lb0 pp, fun q => absurd q pp, fun _ => R, jg_fr_rf⟩
  · have d0 : ¬ 120 = 99 := fun z => d0 (by rw [z]; rfl)
    have d1 : ¬ 120 = 102 := fun z => d1 (by rw [z]; rfl)
    have d2 : ¬ 120 = 109 := fun z => d2 (by rw [z]; rfl)
    have d3 : ¬ 120 = 119 := fun z => d3 (by rw [z]; rfl)
    have d4 : ¬ 120 = 120 := fun z => d4 (by rw [z]; rfl)
    show jt_T 173 (200, [(3, .inl (nI b)), (2, .inl (nI a)), (0, .inr (.inr (4, 0, 0))), (1, .inl (nI 120))], [], h) _
    exact absurd rfl d4
set_option maxHeartbeats 4000000 in
set_option maxRecDepth 20000 in
theorem tb_dw {h : jm_M} {g : Nat → Nat} (R : jg_rel h 0 g) (W : jw g) {a b z : Nat} (ha : a < 100) (hb : b < 10) (hz : z < 100) (N0 : h (4, 0, 1) 0 = nI a) (N1 : h (4, 0, 1) 1 = nI b)  : jt_T 173 (0, [(0, .inr (.inr (4, 0, 0))), (1, .inl (nI 119))], [], h) (fun u h' => u = some (.inl (jm_b (a < g 0 ∧ (b = 9 ∨ b < g 1)))) ∧ (a < g 0 ∧ (b = 9 ∨ b < g 1) → jg_rel h' 0 (sp_nm g a b)) ∧ (¬ (a < g 0 ∧ (b = 9 ∨ b < g 1)) → jg_rel h' 0 g) ∧ jg_fr 0 h h') := by
  have bn := jw_n W
  have bm := jw_m W
  have bt := jw_t W
  refine jt_go jm_m173 0 4 (f' := (6, [(0, .inr (.inr (4, 0, 0))), (1, .inl (nI 119))], [.inl (h (4, 0, 1) (nI 0).toNatClampNeg)], h)) (P := vp_in (nI 0) 3 ∧ True) rfl ⟨(vp_in_nI (by omega) (by decide)), trivial⟩ ?_
  refine jt_ti (show (h (4, 0, 1) (nI 0).toNatClampNeg) = nI a from by rw [nI_clamp (by decide)]; exact N0) ?_
  refine jt_go jm_m173 4 5 (f' := (13, [(2, .inl (nI a)), (0, .inr (.inr (4, 0, 0))), (1, .inl (nI 119))], [.inl (h (4, 0, 1) (nI 1).toNatClampNeg)], h)) (P := vp_in (nI 1) 3 ∧ True) rfl ⟨(vp_in_nI (by omega) (by decide)), trivial⟩ ?_
  refine jt_ti (show (h (4, 0, 1) (nI 1).toNatClampNeg) = nI b from by rw [nI_clamp (by decide)]; exact N1) ?_
  refine jt_go jm_m173 9 2 (f' := (15, [(3, .inl (nI b)), (2, .inl (nI a)), (0, .inr (.inr (4, 0, 0))), (1, .inl (nI 119))], [.inl (nI 119)], h)) (P := True) rfl trivial ?_
  refine jt_ls jm_m173 11 rfl ⟨fun d0 => ?_, fun d0 => ⟨fun d1 => ?_, fun d1 => ⟨fun d2 => ?_, fun d2 => ⟨fun d3 => ?_, fun d3 => ⟨fun d4 => ?_, fun d4 => ?_⟩⟩⟩⟩⟩
  · have d0 : 119 = 99 := nI_inj (by omega) (by decide) d0
    show jt_T 173 (64, [(3, .inl (nI b)), (2, .inl (nI a)), (0, .inr (.inr (4, 0, 0))), (1, .inl (nI 119))], [], h) _
    exact absurd d0 (by decide)
  · have d1 : 119 = 102 := nI_inj (by omega) (by decide) d1
    show jt_T 173 (134, [(3, .inl (nI b)), (2, .inl (nI a)), (0, .inr (.inr (4, 0, 0))), (1, .inl (nI 119))], [], h) _
    exact absurd d1 (by decide)
  · have d2 : 119 = 109 := nI_inj (by omega) (by decide) d2
    show jt_T 173 (109, [(3, .inl (nI b)), (2, .inl (nI a)), (0, .inr (.inr (4, 0, 0))), (1, .inl (nI 119))], [], h) _
    exact absurd d2 (by decide)
  · have d3 : 119 = 119 := nI_inj (by omega) (by decide) d3
    show jt_T 173 (165, [(3, .inl (nI b)), (2, .inl (nI a)), (0, .inr (.inr (4, 0, 0))), (1, .inl (nI 119))], [], h) _
    refine jt_go jm_m173 74 2 (f' := (167, [(3, .inl (nI b)), (2, .inl (nI a)), (0, .inr (.inr (4, 0, 0))), (1, .inl (nI 119))], [.inl (nI a), .inr (.inr (4, 0, 0))], h)) (P := True) rfl trivial ?_
    refine jt_callp (w := .inl (jm_b (nI 0 ≤ nI a ∧ nI a < nI (g 0)))) jm_m173 76 (mi' := 149) (as := [.inr (.inr (4, 0, 0)), .inl (nI a)]) (rest := []) (nxt := 170) rfl rfl jm_m149 rfl rfl (tb_isCat R W) ?_
    refine jt_ifbeq jm_m173 77 (tgt := 187) (nxt := 173) rfl rfl rfl (fun c170 => ?_) (fun c170 => ?_)
    · refine jt_go jm_m173 85 1 (f' := (188, [(3, .inl (nI b)), (2, .inl (nI a)), (0, .inr (.inr (4, 0, 0))), (1, .inl (nI 119))], [.inl (nI 0)], h)) (P := True) rfl trivial ?_
      refine jt_zret jm_m173 86 rfl (Or.inl rfl) ?_
      have pp : ¬ (a < g 0 ∧ (b = 9 ∨ b < g 1)) := fun q => by first | exact c170 ⟨nI_pos' (by omega), (nI_ltI (by omega) (by omega)).mpr q.1⟩ | exact q.2.elim (fun w => absurd w (by omega)) (fun w => c184 ⟨nI_pos' (by omega), (nI_ltI (by omega) (by omega)).mpr w⟩)
      exact ⟨jt_lb0 pp, fun q => absurd q pp, fun _ => R, jg_fr_rf⟩
    · refine jt_go jm_m173 78 2 (f' := (176, [(3, .inl (nI b)), (2, .inl (nI a)), (0, .inr (.inr (4, 0, 0))), (1, .inl (nI 119))], [.inl (nI 9), .inl (nI b)], h)) (P := True) rfl trivial ?_
      refine jt_niceq jm_m173 80 (a := b) (b := 9) (by omega) (by omega) (tgt := 189) (nxt := 179) rfl rfl rfl (fun c176 => ?_) (fun c176 => ?_)
      · refine jt_go jm_m173 87 4 (f' := (195, [(3, .inl (nI b)), (2, .inl (nI a)), (0, .inr (.inr (4, 0, 0))), (1, .inl (nI 119))], [.inl (nI b), .inl (nI a), .inr (.inr (5, 0, 0))], h)) (P := True) rfl trivial ?_
        have hc1 : a < g 0 := (nI_ltI (by omega) (by omega)).mp c170.2
        refine jt_call jm_m173 91 (mi' := 166) (as := [.inr (.inr (5, 0, 0)), .inl (nI a), .inl (nI b)]) (rest := []) (nxt := 198) rfl rfl jm_m166 rfl rfl (tb_name R W (by omega)) ?_
        rintro u h1 ⟨rfl, R1, Fh1⟩
        show jt_T 173 (198, [(3, .inl (nI b)), (2, .inl (nI a)), (0, .inr (.inr (4, 0, 0))), (1, .inl (nI 119))], [], h1) _
        refine jt_go jm_m173 92 1 (f' := (199, [(3, .inl (nI b)), (2, .inl (nI a)), (0, .inr (.inr (4, 0, 0))), (1, .inl (nI 119))], [.inl (nI 1)], h1)) (P := True) rfl trivial ?_
        refine jt_zret jm_m173 93 rfl (Or.inr rfl) ?_
        have pp : a < g 0 ∧ (b = 9 ∨ b < g 1) := ⟨hc1, by first | exact Or.inl (by omega) | exact Or.inr ((nI_ltI (by omega) (by omega)).mp c184.2)⟩
        exact ⟨jt_lb1 pp, fun _ => R1, fun q => absurd pp q, Fh1⟩
      · refine jt_go jm_m173 81 2 (f' := (181, [(3, .inl (nI b)), (2, .inl (nI a)), (0, .inr (.inr (4, 0, 0))), (1, .inl (nI 119))], [.inl (nI b), .inr (.inr (4, 0, 0))], h)) (P := True) rfl trivial ?_
        refine jt_callp (w := .inl (jm_b (nI 0 ≤ nI b ∧ nI b < nI (g 1)))) jm_m173 83 (mi' := 150) (as := [.inr (.inr (4, 0, 0)), .inl (nI b)]) (rest := []) (nxt := 184) rfl rfl jm_m150 rfl rfl (tb_isMan R W) ?_
        refine jt_ifbne jm_m173 84 (tgt := 189) (nxt := 187) rfl rfl rfl (fun c184 => ?_) (fun c184 => ?_)
        · refine jt_go jm_m173 87 4 (f' := (195, [(3, .inl (nI b)), (2, .inl (nI a)), (0, .inr (.inr (4, 0, 0))), (1, .inl (nI 119))], [.inl (nI b), .inl (nI a), .inr (.inr (5, 0, 0))], h)) (P := True) rfl trivial ?_
          have hc1 : a < g 0 := (nI_ltI (by omega) (by omega)).mp c170.2
          refine jt_call jm_m173 91 (mi' := 166) (as := [.inr (.inr (5, 0, 0)), .inl (nI a), .inl (nI b)]) (rest := []) (nxt := 198) rfl rfl jm_m166 rfl rfl (tb_name R W (by omega)) ?_
          rintro u h1 ⟨rfl, R1, Fh1⟩
          show jt_T 173 (198, [(3, .inl (nI b)), (2, .inl (nI a)), (0, .inr (.inr (4, 0, 0))), (1, .inl (nI 119))], [], h1) _
          refine jt_go jm_m173 92 1 (f' := (199, [(3, .inl (nI b)), (2, .inl (nI a)), (0, .inr (.inr (4, 0, 0))), (1, .inl (nI 119))], [.inl (nI 1)], h1)) (P := True) rfl trivial ?_
          refine jt_zret jm_m173 93 rfl (Or.inr rfl) ?_
          have pp : a < g 0 ∧ (b = 9 ∨ b < g 1) := ⟨hc1, by first | exact Or.inl (by omega) | exact Or.inr ((nI_ltI (by omega) (by omega)).mp c184.2)⟩
          exact ⟨jt_lb1 pp, fun _ => R1, fun q => absurd pp q, Fh1⟩
        · refine jt_go jm_m173 85 1 (f' := (188, [(3, .inl (nI b)), (2, .inl (nI a)), (0, .inr (.inr (4, 0, 0))), (1, .inl (nI 119))], [.inl (nI 0)], h)) (P := True) rfl trivial ?_
          refine jt_zret jm_m173 86 rfl (Or.inl rfl) ?_
          have pp : ¬ (a < g 0 ∧ (b = 9 ∨ b < g 1)) := fun q => by first | exact c170 ⟨nI_pos' (by omega), (nI_ltI (by omega) (by omega)).mpr q.1⟩ | exact q.2.elim (fun w => absurd w (by omega)) (fun w => c184 ⟨nI_pos' (by omega), (nI_ltI (by omega) (by omega)).mpr w⟩)
          exact ⟨jt_lb0 pp, fun q => absurd q pp, fun _ => R, jg_fr_rf⟩
  · have d4 : 119 = 120 := nI_inj (by omega) (by decide) d4
    show jt_T 173 (134, [(3, .inl (nI b)), (2, .inl (nI a)), (0, .inr (.inr (4, 0, 0))), (1, .inl (nI 119))], [], h) _
    exact absurd d4 (by decide)
  · have d0 : ¬ 119 = 99 := fun z => d0 (by rw [z]; rfl)
    have d1 : ¬ 119 = 102 := fun z => d1 (by rw [z]; rfl)
    have d2 : ¬ 119 = 109 := fun z => d2 (by rw [z]; rfl)
    have d3 : ¬ 119 = 119 := fun z => d3 (by rw [z]; rfl)
    have d4 : ¬ 119 = 120 := fun z => d4 (by rw [z]; rfl)
    show jt_T 173 (200, [(3, .inl (nI b)), (2, .inl (nI a)), (0, .inr (.inr (4, 0, 0))), (1, .inl (nI 119))], [], h) _
    exact absurd rfl d3
set_option maxHeartbeats 4000000 in
set_option maxRecDepth 20000 in
theorem tb_dh {h : jm_M} {g : Nat → Nat} (R : jg_rel h 0 g) (W : jw g) {a b z : Nat} (ha : a < 100) (hb : b < 10) (hz : z < 100) (N0 : h (4, 0, 1) 0 = nI a)  : jt_T 173 (0, [(0, .inr (.inr (4, 0, 0))), (1, .inl (nI 104))], [], h) (fun u h' => u = some (.inl (jm_b ((1 ≤ a ∧ a ≤ 60) ∧ ¬ nI 999 < nI (g 3) + (nI (g 2) + nI (a)) / nI 24))) ∧ ((1 ≤ a ∧ a ≤ 60) ∧ ¬ nI 999 < nI (g 3) + (nI (g 2) + nI (a)) / nI 24 → jg_rel h' 0 (sp_it g a)) ∧ (¬ ((1 ≤ a ∧ a ≤ 60) ∧ ¬ nI 999 < nI (g 3) + (nI (g 2) + nI (a)) / nI 24) → jg_rel h' 0 g) ∧ jg_fr 0 h h') := by
  have bn := jw_n W
  have bm := jw_m W
  have bt := jw_t W
  refine jt_go jm_m173 0 4 (f' := (6, [(0, .inr (.inr (4, 0, 0))), (1, .inl (nI 104))], [.inl (h (4, 0, 1) (nI 0).toNatClampNeg)], h)) (P := vp_in (nI 0) 3 ∧ True) rfl ⟨(vp_in_nI (by omega) (by decide)), trivial⟩ ?_
  refine jt_ti (show (h (4, 0, 1) (nI 0).toNatClampNeg) = nI a from by rw [nI_clamp (by decide)]; exact N0) ?_
  refine jt_go jm_m173 4 5 (f' := (13, [(2, .inl (nI a)), (0, .inr (.inr (4, 0, 0))), (1, .inl (nI 104))], [.inl (h (4, 0, 1) (nI 1).toNatClampNeg)], h)) (P := vp_in (nI 1) 3 ∧ True) rfl ⟨(vp_in_nI (by omega) (by decide)), trivial⟩ ?_
  refine jt_tn (fun x1 ex1 => ?_)
  refine jt_go jm_m173 9 2 (f' := (15, [(3, .inl (x1)), (2, .inl (nI a)), (0, .inr (.inr (4, 0, 0))), (1, .inl (nI 104))], [.inl (nI 104)], h)) (P := True) rfl trivial ?_
  refine jt_ls jm_m173 11 rfl ⟨fun d0 => ?_, fun d0 => ⟨fun d1 => ?_, fun d1 => ⟨fun d2 => ?_, fun d2 => ⟨fun d3 => ?_, fun d3 => ⟨fun d4 => ?_, fun d4 => ?_⟩⟩⟩⟩⟩
  · have d0 : 104 = 99 := nI_inj (by omega) (by decide) d0
    show jt_T 173 (64, [(3, .inl (x1)), (2, .inl (nI a)), (0, .inr (.inr (4, 0, 0))), (1, .inl (nI 104))], [], h) _
    exact absurd d0 (by decide)
  · have d1 : 104 = 102 := nI_inj (by omega) (by decide) d1
    show jt_T 173 (134, [(3, .inl (x1)), (2, .inl (nI a)), (0, .inr (.inr (4, 0, 0))), (1, .inl (nI 104))], [], h) _
    exact absurd d1 (by decide)
  · have d2 : 104 = 109 := nI_inj (by omega) (by decide) d2
    show jt_T 173 (109, [(3, .inl (x1)), (2, .inl (nI a)), (0, .inr (.inr (4, 0, 0))), (1, .inl (nI 104))], [], h) _
    exact absurd d2 (by decide)
  · have d3 : 104 = 119 := nI_inj (by omega) (by decide) d3
    show jt_T 173 (165, [(3, .inl (x1)), (2, .inl (nI a)), (0, .inr (.inr (4, 0, 0))), (1, .inl (nI 104))], [], h) _
    exact absurd d3 (by decide)
  · have d4 : 104 = 120 := nI_inj (by omega) (by decide) d4
    show jt_T 173 (134, [(3, .inl (x1)), (2, .inl (nI a)), (0, .inr (.inr (4, 0, 0))), (1, .inl (nI 104))], [], h) _
    exact absurd d4 (by decide)
  · have d0 : ¬ 104 = 99 := fun z => d0 (by rw [z]; rfl)
    have d1 : ¬ 104 = 102 := fun z => d1 (by rw [z]; rfl)
    have d2 : ¬ 104 = 109 := fun z => d2 (by rw [z]; rfl)
    have d3 : ¬ 104 = 119 := fun z => d3 (by rw [z]; rfl)
    have d4 : ¬ 104 = 120 := fun z => d4 (by rw [z]; rfl)
    show jt_T 173 (200, [(3, .inl (x1)), (2, .inl (nI a)), (0, .inr (.inr (4, 0, 0))), (1, .inl (nI 104))], [], h) _
    refine jt_go jm_m173 94 3 (f' := (204, [(3, .inl (x1)), (2, .inl (nI a)), (0, .inr (.inr (4, 0, 0))), (1, .inl (nI 104))], [.inl (nI 60), .inl (nI 1), .inl (nI a)], h)) (P := True) rfl trivial ?_
    refine jt_callp (w := .inl (jm_b (nI 1 ≤ nI a ∧ nI a ≤ nI 60))) jm_m173 97 (mi' := 143) (as := [.inl (nI a), .inl (nI 1), .inl (nI 60)]) (rest := []) (nxt := 207) rfl rfl jm_m143 rfl rfl (tb_isIn) ?_
    refine jt_ifbeq jm_m173 98 (tgt := 221) (nxt := 210) rfl rfl rfl (fun c207 => ?_) (fun c207 => ?_)
    · refine jt_go jm_m173 104 1 (f' := (222, [(3, .inl (x1)), (2, .inl (nI a)), (0, .inr (.inr (4, 0, 0))), (1, .inl (nI 104))], [.inl (nI 0)], h)) (P := True) rfl trivial ?_
      refine jt_zret jm_m173 105 rfl (Or.inl rfl) ?_
      have pp : ¬ ((1 ≤ a ∧ a ≤ 60) ∧ ¬ nI 999 < nI (g 3) + (nI (g 2) + nI (a)) / nI 24) := fun q => by first | exact c207 ⟨(nI_leI (by omega) (by omega)).mpr q.1.1, (nI_leI (by omega) (by omega)).mpr q.1.2⟩ | exact c218 q.2
      exact ⟨jt_lb0 pp, fun q => absurd q pp, fun _ => R, jg_fr_rf⟩
    · refine jt_go jm_m173 99 3 (f' := (215, [(3, .inl (x1)), (2, .inl (nI a)), (0, .inr (.inr (4, 0, 0))), (1, .inl (nI 104))], [.inl (nI a), .inr (.inr (5, 0, 0))], h)) (P := True) rfl trivial ?_
      refine jt_callp (w := .inl (jm_b (¬ nI 999 < nI (g 3) + (nI (g 2) + nI a) / nI 24))) jm_m173 102 (mi' := 167) (as := [.inr (.inr (5, 0, 0)), .inl (nI a)]) (rest := []) (nxt := 218) rfl rfl jm_m167 rfl rfl (tb_canGo R W) ?_
      refine jt_ifbne jm_m173 103 (tgt := 223) (nxt := 221) rfl rfl rfl (fun c218 => ?_) (fun c218 => ?_)
      · refine jt_go jm_m173 106 3 (f' := (228, [(3, .inl (x1)), (2, .inl (nI a)), (0, .inr (.inr (4, 0, 0))), (1, .inl (nI 104))], [.inl (nI a), .inr (.inr (5, 0, 0))], h)) (P := True) rfl trivial ?_
        refine jt_call jm_m173 109 (mi' := 164) (as := [.inr (.inr (5, 0, 0)), .inl (nI a)]) (rest := []) (nxt := 231) rfl rfl jm_m164 rfl rfl (tb_goOn R W (by omega)) ?_
        rintro u h1 ⟨rfl, R1, Fh1⟩
        show jt_T 173 (231, [(3, .inl (x1)), (2, .inl (nI a)), (0, .inr (.inr (4, 0, 0))), (1, .inl (nI 104))], [], h1) _
        refine jt_go jm_m173 110 1 (f' := (232, [(3, .inl (x1)), (2, .inl (nI a)), (0, .inr (.inr (4, 0, 0))), (1, .inl (nI 104))], [.inl (nI 1)], h1)) (P := True) rfl trivial ?_
        refine jt_zret jm_m173 111 rfl (Or.inr rfl) ?_
        have pp : (1 ≤ a ∧ a ≤ 60) ∧ ¬ nI 999 < nI (g 3) + (nI (g 2) + nI (a)) / nI 24 := ⟨⟨(nI_leI (by omega) (by omega)).mp c207.1, (nI_leI (by omega) (by omega)).mp c207.2⟩, c218⟩
        exact ⟨jt_lb1 pp, fun _ => R1, fun q => absurd pp q, Fh1⟩
      · refine jt_go jm_m173 104 1 (f' := (222, [(3, .inl (x1)), (2, .inl (nI a)), (0, .inr (.inr (4, 0, 0))), (1, .inl (nI 104))], [.inl (nI 0)], h)) (P := True) rfl trivial ?_
        refine jt_zret jm_m173 105 rfl (Or.inl rfl) ?_
        have pp : ¬ ((1 ≤ a ∧ a ≤ 60) ∧ ¬ nI 999 < nI (g 3) + (nI (g 2) + nI (a)) / nI 24) := fun q => by first | exact c207 ⟨(nI_leI (by omega) (by omega)).mpr q.1.1, (nI_leI (by omega) (by omega)).mpr q.1.2⟩ | exact c218 q.2
        exact ⟨jt_lb0 pp, fun q => absurd q pp, fun _ => R, jg_fr_rf⟩
theorem tb_done {h : jm_M} {s : Nat → Nat → Nat} {e : Nat → Nat → Int32} {d p : Nat} {g : Nat → Nat} (R : jg_rel h 0 g) (W : jw g) (S : st_bad s e d p = none) (NU : tx_nu s e d p (h (4, 0, 1))) : jt_T 173 (0, [(0, .inr (.inr (4, 0, 0))), (1, .inl (nI (cc s e d p)))], [], h) (fun u h' => u = some (.inl (jm_b (td_ok s e d p g = true))) ∧ (td_ok s e d p g = true → jg_rel h' 0 (td_g s e d p g)) ∧ (¬ td_ok s e d p g = true → jg_rel h' 0 g) ∧ jg_fr 0 h h') := by
  obtain ⟨n0, A, n59⟩ := txs_of S
  have D : ∀ b k, k ≤ 2 → 1 ≤ b → b + k ≤ dg (cc s e d p) + 1 → sp_num s e d (p + b) k < 10 ^ k := fun b k _ h1 h2 => sp_num_lt k (fun i hi => by rw [Nat.add_assoc]; exact A _ (by omega) (by omega))
  obtain ⟨m1, m2, m3, m4, m5⟩ := NU
  rcases dg_pos n0 with q | q | q | q | q | q
  · have z : dg (cc s e d p) = 4 := by rw [q]; rfl
    have f0 := D 1 1 (by omega) (by omega) (by omega)
    have f1 := D 2 1 (by omega) (by omega) (by omega)
    have f2 := D 3 2 (by omega) (by omega) (by omega)
    have M := m1 q
    rw [q]
    refine jt_mono (tb_dc R W (by omega) (by omega) (by omega) M.1 M.2.1 M.2.2) (fun u h2 y => ?_)
    rw [(td_99 q).2]
    exact ⟨y.1.trans (jt_li (jm_b_congr (td_99 q).1.symm)), fun w => y.2.1 ((td_99 q).1.mp w), fun w => y.2.2.1 (fun v => w ((td_99 q).1.mpr v)), y.2.2.2⟩
  · have z : dg (cc s e d p) = 3 := by rw [q]; rfl
    have f0 := D 1 2 (by omega) (by omega) (by omega)
    have f1 := D 3 1 (by omega) (by omega) (by omega)
    have M := m3 (Or.inl q)
    rw [q]
    refine jt_mono (tb_df (z := 0) R W (by omega) (by omega) (by decide) M.1 M.2) (fun u h2 y => ?_)
    rw [(td_102 q).2]
    exact ⟨y.1.trans (jt_li (jm_b_congr (td_102 q).1.symm)), fun w => y.2.1 ((td_102 q).1.mp w), fun w => y.2.2.1 (fun v => w ((td_102 q).1.mpr v)), y.2.2.2⟩
  · have z : dg (cc s e d p) = 2 := by rw [q]; rfl
    have f0 := D 1 2 (by omega) (by omega) (by omega)
    have M := m5 q
    rw [q]
    refine jt_mono (tb_dh (b := 0) (z := 0) R W (by omega) (by decide) (by decide) M) (fun u h2 y => ?_)
    rw [(td_104 q).2]
    exact ⟨y.1.trans (jt_li (jm_b_congr (td_104 q).1.symm)), fun w => y.2.1 ((td_104 q).1.mp w), fun w => y.2.2.1 (fun v => w ((td_104 q).1.mpr v)), y.2.2.2⟩
  · have z : dg (cc s e d p) = 1 := by rw [q]; rfl
    have f0 := D 1 1 (by omega) (by omega) (by omega)
    have M := m2 q
    rw [q]
    refine jt_mono (tb_dm (b := 0) (z := 0) R W (by omega) (by decide) (by decide) M) (fun u h2 y => ?_)
    rw [(td_109 q).2]
    exact ⟨y.1.trans (jt_li (jm_b_congr (td_109 q).1.symm)), fun w => y.2.1 ((td_109 q).1.mp w), fun w => y.2.2.1 (fun v => w ((td_109 q).1.mpr v)), y.2.2.2⟩
  · have z : dg (cc s e d p) = 2 := by rw [q]; rfl
    have f0 := D 1 1 (by omega) (by omega) (by omega)
    have f1 := D 2 1 (by omega) (by omega) (by omega)
    have M := m4 q
    rw [q]
    refine jt_mono (tb_dw (z := 0) R W (by omega) (by omega) (by decide) M.1 M.2) (fun u h2 y => ?_)
    rw [(td_119 q).2]
    exact ⟨y.1.trans (jt_li (jm_b_congr (td_119 q).1.symm)), fun w => y.2.1 ((td_119 q).1.mp w), fun w => y.2.2.1 (fun v => w ((td_119 q).1.mpr v)), y.2.2.2⟩
  · have z : dg (cc s e d p) = 3 := by rw [q]; rfl
    have f0 := D 1 2 (by omega) (by omega) (by omega)
    have f1 := D 3 1 (by omega) (by omega) (by omega)
    have M := m3 (Or.inr q)
    rw [q]
    refine jt_mono (tb_dx (z := 0) R W (by omega) (by omega) (by decide) M.1 M.2) (fun u h2 y => ?_)
    rw [(td_120 q).2]
    exact ⟨y.1.trans (jt_li (jm_b_congr (td_120 q).1.symm)), fun w => y.2.1 ((td_120 q).1.mp w), fun w => y.2.2.1 (fun v => w ((td_120 q).1.mpr v)), y.2.2.2⟩
