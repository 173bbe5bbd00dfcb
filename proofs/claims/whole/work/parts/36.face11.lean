/-! THE FACE: what changes now: carries, lays, hours, waits. -/
def zb_carries (g : Nat → Nat) (c p : Nat) : Int32 := nI (g (38 + 5 * c))
def za_carries (g : Nat → Nat) (x y : Int32) : Int32 := if (nI 0 ≤ x ∧ x < nI (g 0)) ∧ (nI 0 ≤ y ∧ y ≤ nI 15) then zb_carries g x.toNatClampNeg y.toNatClampNeg else (-1)
def zn_carries (g : Nat → Nat) (c p : Nat) : Nat → Nat := sp_up g (38 + 5 * c) p
def zm_carries (g : Nat → Nat) (x y : Int32) : Nat → Nat := if (nI 0 ≤ x ∧ x < nI (g 0)) ∧ (nI 0 ≤ y ∧ y ≤ nI 15) then zn_carries g x.toNatClampNeg y.toNatClampNeg else g
theorem jw_carries {g : Nat → Nat} (W : jw g) (x y : Int32) : jw (zm_carries g x y) := by
  have bn := jw_n W
  have bm := jw_m W
  unfold zm_carries
  split
  · rename_i z
    obtain ⟨c, bc, e0⟩ := jx_cat (by omega) z.1
    obtain ⟨p, bp, e1⟩ := jx_win (by decide) z.2
    rw [e0, nI_clamp (n := c) (by omega), e1, nI_clamp (n := p) (by omega)]
    unfold zn_carries
    exact jw_up_at W (by omega) (by omega)
  · exact W
set_option maxHeartbeats 4000000 in
set_option maxRecDepth 20000 in
theorem ca_carries {h : jm_M} {g : Nat → Nat} (R : jf_rel h 0 g) (W : jw g) {x y : Int32} : jt_T 82 (0, [(0, .inr (.inr (0, 0, 0))), (1, .inl (x)), (2, .inl (y))], [], h) (fun u h' => u = some (.inl (za_carries g x y)) ∧ jf_rel h' 0 (zm_carries g x y) ∧ jf_fr 0 h h') := by
  have bn := jw_n W
  have bm := jw_m W
  have bt := jw_t W
  refine jt_go jm_m82 0 3 (f' := (5, [(0, .inr (.inr (0, 0, 0))), (1, .inl (x)), (2, .inl (y))], [.inl (x), .inr (.inr (2, 0, 0))], h)) (P := True) rfl trivial ?_
  refine jt_callp (w := .inl (jm_b (nI 0 ≤ x ∧ x < nI (g 0)))) jm_m82 3 (mi' := 7) (as := [.inr (.inr (2, 0, 0)), .inl (x)]) (rest := []) (nxt := 8) rfl rfl jm_m7 rfl rfl (ta_hasCat R W) ?_
  refine jt_ifbeq jm_m82 4 (tgt := 18) (nxt := 11) rfl rfl rfl (fun c8 => ?_) (fun c8 => ?_)
  · refine jt_go jm_m82 8 1 (f' := (19, [(0, .inr (.inr (0, 0, 0))), (1, .inl (x)), (2, .inl (y))], [.inl ((-1))], h)) (P := True) rfl trivial ?_
    refine jt_iret jm_m82 9 rfl ?_
    exact ⟨jt_li (if_neg (fun z => c8 z.1)).symm, by unfold zm_carries; rw [if_neg (fun z => c8 z.1)]; exact R, jf_fr_rf⟩
  · obtain ⟨c, hbc, rfl⟩ := jx_cat (by omega) c8
    refine jt_go jm_m82 5 1 (f' := (12, [(0, .inr (.inr (0, 0, 0))), (1, .inl (nI c)), (2, .inl (y))], [.inl (y)], h)) (P := True) rfl trivial ?_
    refine jt_callp (w := .inl (jm_b (nI 0 ≤ y ∧ y ≤ nI 15))) jm_m82 6 (mi' := 138) (as := [.inl (y)]) (rest := []) (nxt := 15) rfl rfl jm_m138 rfl rfl (ta_place) ?_
    refine jt_ifbne jm_m82 7 (tgt := 20) (nxt := 18) rfl rfl rfl (fun c15 => ?_) (fun c15 => ?_)
    · obtain ⟨p, hbp, rfl⟩ := jx_win (by decide) c15
      refine jt_go jm_m82 10 5 (f' := (29, [(0, .inr (.inr (0, 0, 0))), (1, .inl (nI c)), (2, .inl (nI p))], [.inl (h (2, 0, 3) (nI c).toNatClampNeg)], h)) (P := vp_in (nI c) 6 ∧ True) rfl ⟨(vp_in_nI (by omega) (by decide)), trivial⟩ ?_
      refine jt_ti (show (h (2, 0, 3) (nI c).toNatClampNeg) = nI (g (38 + 5 * c)) from jf_at R (c := c) (nI_clamp (by omega)) (by omega)) ?_
      have bq1 := jw_at W (c := c) (by omega)
      refine jt_goM jm_m82 15 7 (pc' := 40) (L' := [(3, .inl (nI (g (38 + 5 * c)))), (0, .inr (.inr (0, 0, 0))), (1, .inl (nI c)), (2, .inl (nI p))]) (st' := []) (m' := jm_set h (2, 0, 3) (upd (h (2, 0, 3)) (nI c).toNatClampNeg (nI p))) (P := vp_in (nI c) 6 ∧ True) rfl ⟨(vp_in_nI (by omega) (by decide)), trivial⟩ (fun h1 eh1 => ?_)
      have Fh1 : jf_fr 0 h h1 := by rw [eh1]; exact jf_fr_set jf_fr_rf ⟨Or.inl rfl, rfl⟩
      obtain ⟨gh1, egh1⟩ : ∃ y, y = sp_up g (38 + 5 * c) (p) := ⟨_, rfl⟩
      have Rh1 : jf_rel h1 0 gh1 := by rw [eh1, egh1]; exact jf_set_at R (c := c) (w := p) (nI_clamp (by omega)) (by omega) rfl
      refine jt_go jm_m82 22 1 (f' := (41, [(3, .inl (nI (g (38 + 5 * c)))), (0, .inr (.inr (0, 0, 0))), (1, .inl (nI c)), (2, .inl (nI p))], [.inl (nI (g (38 + 5 * c)))], h1)) (P := True) rfl trivial ?_
      refine jt_iret jm_m82 23 rfl ?_
      refine ⟨jt_li ?_, ?_, Fh1⟩
      · unfold za_carries
        refine Eq.trans ?_ (if_pos ⟨c8, c15⟩).symm
        rw [nI_clamp (n := c) (by omega), nI_clamp (n := p) (by omega)]
        unfold zb_carries
        rfl
      · have em : zm_carries g (nI c) (nI p) = zn_carries g c p := by
          unfold zm_carries
          refine (if_pos ⟨c8, c15⟩).trans ?_
          rw [nI_clamp (n := c) (by omega), nI_clamp (n := p) (by omega)]
        rw [em]
        unfold zn_carries
        rw [← egh1]
        exact Rh1
    · refine jt_go jm_m82 8 1 (f' := (19, [(0, .inr (.inr (0, 0, 0))), (1, .inl (nI c)), (2, .inl (y))], [.inl ((-1))], h)) (P := True) rfl trivial ?_
      refine jt_iret jm_m82 9 rfl ?_
      exact ⟨jt_li (if_neg (fun z => c15 z.2)).symm, by unfold zm_carries; rw [if_neg (fun z => c15 z.2)]; exact R, jf_fr_rf⟩
set_option maxHeartbeats 4000000 in
set_option maxRecDepth 20000 in
theorem cb_carries {h : jm_M} {g : Nat → Nat} (R : jg_rel h 0 g) (W : jw g) {x y : Int32} : jt_T 183 (0, [(0, .inr (.inr (4, 0, 0))), (1, .inl (x)), (2, .inl (y))], [], h) (fun u h' => u = some (.inl (za_carries g x y)) ∧ jg_rel h' 0 (zm_carries g x y) ∧ jg_fr 0 h h') := by
  have bn := jw_n W
  have bm := jw_m W
  have bt := jw_t W
  refine jt_go jm_m183 0 2 (f' := (2, [(0, .inr (.inr (4, 0, 0))), (1, .inl (x)), (2, .inl (y))], [.inl (x), .inr (.inr (4, 0, 0))], h)) (P := True) rfl trivial ?_
  refine jt_callp (w := .inl (jm_b (nI 0 ≤ x ∧ x < nI (g 0)))) jm_m183 2 (mi' := 149) (as := [.inr (.inr (4, 0, 0)), .inl (x)]) (rest := []) (nxt := 5) rfl rfl jm_m149 rfl rfl (tb_isCat R W) ?_
  refine jt_ifbeq jm_m183 3 (tgt := 15) (nxt := 8) rfl rfl rfl (fun c5 => ?_) (fun c5 => ?_)
  · refine jt_go jm_m183 7 1 (f' := (16, [(0, .inr (.inr (4, 0, 0))), (1, .inl (x)), (2, .inl (y))], [.inl ((-1))], h)) (P := True) rfl trivial ?_
    refine jt_iret jm_m183 8 rfl ?_
    exact ⟨jt_li (if_neg (fun z => c5 z.1)).symm, by unfold zm_carries; rw [if_neg (fun z => c5 z.1)]; exact R, jg_fr_rf⟩
  · obtain ⟨c, hbc, rfl⟩ := jx_cat (by omega) c5
    refine jt_go jm_m183 4 1 (f' := (9, [(0, .inr (.inr (4, 0, 0))), (1, .inl (nI c)), (2, .inl (y))], [.inl (y)], h)) (P := True) rfl trivial ?_
    refine jt_callp (w := .inl (jm_b (nI 0 ≤ y ∧ y ≤ nI 15))) jm_m183 5 (mi' := 151) (as := [.inl (y)]) (rest := []) (nxt := 12) rfl rfl jm_m151 rfl rfl (tb_place) ?_
    refine jt_ifbne jm_m183 6 (tgt := 17) (nxt := 15) rfl rfl rfl (fun c12 => ?_) (fun c12 => ?_)
    · obtain ⟨p, hbp, rfl⟩ := jx_win (by decide) c12
      refine jt_go jm_m183 9 4 (f' := (23, [(0, .inr (.inr (4, 0, 0))), (1, .inl (nI c)), (2, .inl (nI p))], [.inl (nI 2), .inl (nI c), .inr (.inr (5, 0, 0))], h)) (P := True) rfl trivial ?_
      refine jt_callp (w := .inl (nI (38 + 5 * c))) jm_m183 13 (mi' := 147) (as := [.inl (nI c), .inl (nI 2)]) (rest := [.inr (.inr (5, 0, 0))]) (nxt := 26) rfl rfl jm_m147 rfl rfl (tb_ofC (k := 38 + 5 * c) (by omega)) ?_
      refine jt_go jm_m183 14 1 (f' := (27, [(0, .inr (.inr (4, 0, 0))), (1, .inl (nI c)), (2, .inl (nI p))], [.inl (h (5, 0, 0) (nI (38 + 5 * c)).toNatClampNeg)], h)) (P := vp_in (nI (38 + 5 * c)) 78 ∧ True) rfl ⟨(vp_in_nI (by omega) (by decide)), trivial⟩ ?_
      refine jt_ti (show (h (5, 0, 0) (nI (38 + 5 * c)).toNatClampNeg) = nI (g (38 + 5 * c)) from jg_get R (k := 38 + 5 * c) (nI_clamp (by omega)) (by omega)) ?_
      have bq1 := jw_at W (c := c) (by omega)
      refine jt_go jm_m183 15 5 (f' := (34, [(3, .inl (nI (g (38 + 5 * c)))), (0, .inr (.inr (4, 0, 0))), (1, .inl (nI c)), (2, .inl (nI p))], [.inl (nI 2), .inl (nI c), .inr (.inr (5, 0, 0))], h)) (P := True) rfl trivial ?_
      refine jt_callp (w := .inl (nI (38 + 5 * c))) jm_m183 20 (mi' := 147) (as := [.inl (nI c), .inl (nI 2)]) (rest := [.inr (.inr (5, 0, 0))]) (nxt := 37) rfl rfl jm_m147 rfl rfl (tb_ofC (k := 38 + 5 * c) (by omega)) ?_
      refine jt_goM jm_m183 21 2 (pc' := 39) (L' := [(3, .inl (nI (g (38 + 5 * c)))), (0, .inr (.inr (4, 0, 0))), (1, .inl (nI c)), (2, .inl (nI p))]) (st' := []) (m' := jm_set h (5, 0, 0) (upd (h (5, 0, 0)) (nI (38 + 5 * c)).toNatClampNeg (nI p))) (P := vp_in (nI (38 + 5 * c)) 78 ∧ True) rfl ⟨(vp_in_nI (by omega) (by decide)), trivial⟩ (fun h1 eh1 => ?_)
      have Fh1 : jg_fr 0 h h1 := by rw [eh1]; exact jg_fr_set jg_fr_rf
      obtain ⟨gh1, egh1⟩ : ∃ y, y = sp_up g (38 + 5 * c) (p) := ⟨_, rfl⟩
      have Rh1 : jg_rel h1 0 gh1 := by rw [eh1, egh1]; exact jg_set R (k := 38 + 5 * c) (w := p) (nI_clamp (by omega)) rfl
      refine jt_go jm_m183 23 1 (f' := (40, [(3, .inl (nI (g (38 + 5 * c)))), (0, .inr (.inr (4, 0, 0))), (1, .inl (nI c)), (2, .inl (nI p))], [.inl (nI (g (38 + 5 * c)))], h1)) (P := True) rfl trivial ?_
      refine jt_iret jm_m183 24 rfl ?_
      refine ⟨jt_li ?_, ?_, Fh1⟩
      · unfold za_carries
        refine Eq.trans ?_ (if_pos ⟨c5, c12⟩).symm
        rw [nI_clamp (n := c) (by omega), nI_clamp (n := p) (by omega)]
        unfold zb_carries
        rfl
      · have em : zm_carries g (nI c) (nI p) = zn_carries g c p := by
          unfold zm_carries
          refine (if_pos ⟨c5, c12⟩).trans ?_
          rw [nI_clamp (n := c) (by omega), nI_clamp (n := p) (by omega)]
        rw [em]
        unfold zn_carries
        rw [← egh1]
        exact Rh1
    · refine jt_go jm_m183 7 1 (f' := (16, [(0, .inr (.inr (4, 0, 0))), (1, .inl (nI c)), (2, .inl (y))], [.inl ((-1))], h)) (P := True) rfl trivial ?_
      refine jt_iret jm_m183 8 rfl ?_
      exact ⟨jt_li (if_neg (fun z => c12 z.2)).symm, by unfold zm_carries; rw [if_neg (fun z => c12 z.2)]; exact R, jg_fr_rf⟩
def zb_lays (g : Nat → Nat) (p w v : Nat) : Int32 := if w = 0 then nI (g (4 + p)) else nI (g (20 + p))
def za_lays (g : Nat → Nat) (x y z : Int32) : Int32 := if (nI 0 ≤ x ∧ x ≤ nI 15) ∧ (nI 0 ≤ y ∧ y ≤ nI 1) ∧ (nI 0 ≤ z ∧ z ≤ nI 9) then zb_lays g x.toNatClampNeg y.toNatClampNeg z.toNatClampNeg else (-1)
def zn_lays (g : Nat → Nat) (p w v : Nat) : Nat → Nat := if w = 0 then sp_up g (4 + p) v else sp_up g (20 + p) v
def zm_lays (g : Nat → Nat) (x y z : Int32) : Nat → Nat := if (nI 0 ≤ x ∧ x ≤ nI 15) ∧ (nI 0 ≤ y ∧ y ≤ nI 1) ∧ (nI 0 ≤ z ∧ z ≤ nI 9) then zn_lays g x.toNatClampNeg y.toNatClampNeg z.toNatClampNeg else g
theorem jw_lays {g : Nat → Nat} (W : jw g) (x y z : Int32) : jw (zm_lays g x y z) := by
  have bn := jw_n W
  have bm := jw_m W
  unfold zm_lays
  split
  · rename_i z
    obtain ⟨p, bp, e0⟩ := jx_win (by decide) z.1
    obtain ⟨w, bw, e1⟩ := jx_win (by decide) z.2.1
    obtain ⟨v, bv, e2⟩ := jx_win (by decide) z.2.2
    rw [e0, nI_clamp (n := p) (by omega), e1, nI_clamp (n := w) (by omega), e2, nI_clamp (n := v) (by omega)]
    unfold zn_lays
    split
    · exact jw_up_fish W (by omega) (by omega)
    · exact jw_up_mice W (by omega) (by omega)
  · exact W
set_option maxHeartbeats 4000000 in
set_option maxRecDepth 20000 in
theorem ca_lays {h : jm_M} {g : Nat → Nat} (R : jf_rel h 0 g) (W : jw g) {x y z : Int32} : jt_T 81 (0, [(0, .inr (.inr (0, 0, 0))), (1, .inl (x)), (2, .inl (y)), (3, .inl (z))], [], h) (fun u h' => u = some (.inl (za_lays g x y z)) ∧ jf_rel h' 0 (zm_lays g x y z) ∧ jf_fr 0 h h') := by
  have bn := jw_n W
  have bm := jw_m W
  have bt := jw_t W
  refine jt_go jm_m81 0 1 (f' := (1, [(0, .inr (.inr (0, 0, 0))), (1, .inl (x)), (2, .inl (y)), (3, .inl (z))], [.inl (x)], h)) (P := True) rfl trivial ?_
  refine jt_callp (w := .inl (jm_b (nI 0 ≤ x ∧ x ≤ nI 15))) jm_m81 1 (mi' := 138) (as := [.inl (x)]) (rest := []) (nxt := 4) rfl rfl jm_m138 rfl rfl (ta_place) ?_
  refine jt_ifbeq jm_m81 2 (tgt := 26) (nxt := 7) rfl rfl rfl (fun c4 => ?_) (fun c4 => ?_)
  · refine jt_go jm_m81 13 1 (f' := (27, [(0, .inr (.inr (0, 0, 0))), (1, .inl (x)), (2, .inl (y)), (3, .inl (z))], [.inl ((-1))], h)) (P := True) rfl trivial ?_
    refine jt_iret jm_m81 14 rfl ?_
    exact ⟨jt_li (if_neg (fun z => c4 z.1)).symm, by unfold zm_lays; rw [if_neg (fun z => c4 z.1)]; exact R, jf_fr_rf⟩
  · obtain ⟨p, hbp, rfl⟩ := jx_win (by decide) c4
    refine jt_go jm_m81 3 3 (f' := (10, [(0, .inr (.inr (0, 0, 0))), (1, .inl (nI p)), (2, .inl (y)), (3, .inl (z))], [.inl (nI 1), .inl (nI 0), .inl (y)], h)) (P := True) rfl trivial ?_
    refine jt_callp (w := .inl (jm_b (nI 0 ≤ y ∧ y ≤ nI 1))) jm_m81 6 (mi' := 136) (as := [.inl (y), .inl (nI 0), .inl (nI 1)]) (rest := []) (nxt := 13) rfl rfl jm_m136 rfl rfl (ta_within) ?_
    refine jt_ifbeq jm_m81 7 (tgt := 26) (nxt := 16) rfl rfl rfl (fun c13 => ?_) (fun c13 => ?_)
    · refine jt_go jm_m81 13 1 (f' := (27, [(0, .inr (.inr (0, 0, 0))), (1, .inl (nI p)), (2, .inl (y)), (3, .inl (z))], [.inl ((-1))], h)) (P := True) rfl trivial ?_
      refine jt_iret jm_m81 14 rfl ?_
      exact ⟨jt_li (if_neg (fun z => c13 z.2.1)).symm, by unfold zm_lays; rw [if_neg (fun z => c13 z.2.1)]; exact R, jf_fr_rf⟩
    · obtain ⟨w, hbw, rfl⟩ := jx_win (by decide) c13
      refine jt_go jm_m81 8 3 (f' := (20, [(0, .inr (.inr (0, 0, 0))), (1, .inl (nI p)), (2, .inl (nI w)), (3, .inl (z))], [.inl (nI 9), .inl (nI 0), .inl (z)], h)) (P := True) rfl trivial ?_
      refine jt_callp (w := .inl (jm_b (nI 0 ≤ z ∧ z ≤ nI 9))) jm_m81 11 (mi' := 136) (as := [.inl (z), .inl (nI 0), .inl (nI 9)]) (rest := []) (nxt := 23) rfl rfl jm_m136 rfl rfl (ta_within) ?_
      refine jt_ifbne jm_m81 12 (tgt := 28) (nxt := 26) rfl rfl rfl (fun c23 => ?_) (fun c23 => ?_)
      · obtain ⟨v, hbv, rfl⟩ := jx_win (by decide) c23
        refine jt_go jm_m81 15 1 (f' := (29, [(0, .inr (.inr (0, 0, 0))), (1, .inl (nI p)), (2, .inl (nI w)), (3, .inl (nI v))], [.inl (nI w)], h)) (P := True) rfl trivial ?_
        refine jt_nifne jm_m81 16 (by omega) (tgt := 42) (nxt := 32) rfl rfl rfl (fun c29 => ?_) (fun c29 => ?_)
        · refine jt_go jm_m81 21 7 (f' := (55, [(4, .inr (.inr (6, 0, 1))), (0, .inr (.inr (0, 0, 0))), (1, .inl (nI p)), (2, .inl (nI w)), (3, .inl (nI v))], [.inl (h (6, 0, 1) (nI p).toNatClampNeg)], h)) (P := vp_in (nI p) 16 ∧ True) rfl ⟨(vp_in_nI (by omega) (by decide)), trivial⟩ ?_
          refine jt_ti (show (h (6, 0, 1) (nI p).toNatClampNeg) = nI (g (20 + p)) from jf_mice R (c := p) (nI_clamp (by omega)) (by omega)) ?_
          have bq1 := jw_mice W (p := p) (by omega)
          refine jt_goM jm_m81 28 5 (pc' := 62) (L' := [(5, .inl (nI (g (20 + p)))), (4, .inr (.inr (6, 0, 1))), (0, .inr (.inr (0, 0, 0))), (1, .inl (nI p)), (2, .inl (nI w)), (3, .inl (nI v))]) (st' := []) (m' := jm_set h (6, 0, 1) (upd (h (6, 0, 1)) (nI p).toNatClampNeg (nI v))) (P := vp_in (nI p) 16 ∧ True) rfl ⟨(vp_in_nI (by omega) (by decide)), trivial⟩ (fun h1 eh1 => ?_)
          have Fh1 : jf_fr 0 h h1 := by rw [eh1]; exact jf_fr_set jf_fr_rf ⟨Or.inr rfl, rfl⟩
          obtain ⟨gh1, egh1⟩ : ∃ y, y = sp_up g (20 + p) (v) := ⟨_, rfl⟩
          have Rh1 : jf_rel h1 0 gh1 := by rw [eh1, egh1]; exact jf_set_mice R (c := p) (w := v) (nI_clamp (by omega)) (by omega) rfl
          refine jt_go jm_m81 33 1 (f' := (64, [(5, .inl (nI (g (20 + p)))), (4, .inr (.inr (6, 0, 1))), (0, .inr (.inr (0, 0, 0))), (1, .inl (nI p)), (2, .inl (nI w)), (3, .inl (nI v))], [.inl (nI (g (20 + p)))], h1)) (P := True) rfl trivial ?_
          refine jt_iret jm_m81 34 rfl ?_
          refine ⟨jt_li ?_, ?_, Fh1⟩
          · unfold za_lays
            refine Eq.trans ?_ (if_pos ⟨c4, c13, c23⟩).symm
            rw [nI_clamp (n := p) (by omega), nI_clamp (n := w) (by omega), nI_clamp (n := v) (by omega)]
            unfold zb_lays
            first | rw [if_pos (by assumption)] | rw [if_neg (by assumption)]
          · have em : zm_lays g (nI p) (nI w) (nI v) = zn_lays g p w v := by
              unfold zm_lays
              refine (if_pos ⟨c4, c13, c23⟩).trans ?_
              rw [nI_clamp (n := p) (by omega), nI_clamp (n := w) (by omega), nI_clamp (n := v) (by omega)]
            rw [em]
            unfold zn_lays
            first | rw [if_pos (by assumption)] | rw [if_neg (by assumption)]
            rw [← egh1]
            exact Rh1
        · refine jt_go jm_m81 17 4 (f' := (49, [(0, .inr (.inr (0, 0, 0))), (1, .inl (nI p)), (2, .inl (nI w)), (3, .inl (nI v))], [.inr (.inr (6, 0, 0))], h)) (P := True) rfl trivial ?_
          refine jt_go jm_m81 24 4 (f' := (55, [(4, .inr (.inr (6, 0, 0))), (0, .inr (.inr (0, 0, 0))), (1, .inl (nI p)), (2, .inl (nI w)), (3, .inl (nI v))], [.inl (h (6, 0, 0) (nI p).toNatClampNeg)], h)) (P := vp_in (nI p) 16 ∧ True) rfl ⟨(vp_in_nI (by omega) (by decide)), trivial⟩ ?_
          refine jt_ti (show (h (6, 0, 0) (nI p).toNatClampNeg) = nI (g (4 + p)) from jf_fish R (c := p) (nI_clamp (by omega)) (by omega)) ?_
          have bq2 := jw_fish W (p := p) (by omega)
          refine jt_goM jm_m81 28 5 (pc' := 62) (L' := [(5, .inl (nI (g (4 + p)))), (4, .inr (.inr (6, 0, 0))), (0, .inr (.inr (0, 0, 0))), (1, .inl (nI p)), (2, .inl (nI w)), (3, .inl (nI v))]) (st' := []) (m' := jm_set h (6, 0, 0) (upd (h (6, 0, 0)) (nI p).toNatClampNeg (nI v))) (P := vp_in (nI p) 16 ∧ True) rfl ⟨(vp_in_nI (by omega) (by decide)), trivial⟩ (fun h2 eh2 => ?_)
          have Fh2 : jf_fr 0 h h2 := by rw [eh2]; exact jf_fr_set jf_fr_rf ⟨Or.inr rfl, rfl⟩
          obtain ⟨gh2, egh2⟩ : ∃ y, y = sp_up g (4 + p) (v) := ⟨_, rfl⟩
          have Rh2 : jf_rel h2 0 gh2 := by rw [eh2, egh2]; exact jf_set_fish R (c := p) (w := v) (nI_clamp (by omega)) (by omega) rfl
          refine jt_go jm_m81 33 1 (f' := (64, [(5, .inl (nI (g (4 + p)))), (4, .inr (.inr (6, 0, 0))), (0, .inr (.inr (0, 0, 0))), (1, .inl (nI p)), (2, .inl (nI w)), (3, .inl (nI v))], [.inl (nI (g (4 + p)))], h2)) (P := True) rfl trivial ?_
          refine jt_iret jm_m81 34 rfl ?_
          refine ⟨jt_li ?_, ?_, Fh2⟩
          · unfold za_lays
            refine Eq.trans ?_ (if_pos ⟨c4, c13, c23⟩).symm
            rw [nI_clamp (n := p) (by omega), nI_clamp (n := w) (by omega), nI_clamp (n := v) (by omega)]
            unfold zb_lays
            first | rw [if_pos (by assumption)] | rw [if_neg (by assumption)]
          · have em : zm_lays g (nI p) (nI w) (nI v) = zn_lays g p w v := by
              unfold zm_lays
              refine (if_pos ⟨c4, c13, c23⟩).trans ?_
              rw [nI_clamp (n := p) (by omega), nI_clamp (n := w) (by omega), nI_clamp (n := v) (by omega)]
            rw [em]
            unfold zn_lays
            first | rw [if_pos (by assumption)] | rw [if_neg (by assumption)]
            rw [← egh2]
            exact Rh2
      · refine jt_go jm_m81 13 1 (f' := (27, [(0, .inr (.inr (0, 0, 0))), (1, .inl (nI p)), (2, .inl (nI w)), (3, .inl (z))], [.inl ((-1))], h)) (P := True) rfl trivial ?_
        refine jt_iret jm_m81 14 rfl ?_
        exact ⟨jt_li (if_neg (fun z => c23 z.2.2)).symm, by unfold zm_lays; rw [if_neg (fun z => c23 z.2.2)]; exact R, jf_fr_rf⟩
set_option maxHeartbeats 4000000 in
set_option maxRecDepth 20000 in
theorem cb_lays {h : jm_M} {g : Nat → Nat} (R : jg_rel h 0 g) (W : jw g) {x y z : Int32} : jt_T 182 (0, [(0, .inr (.inr (4, 0, 0))), (1, .inl (x)), (2, .inl (y)), (3, .inl (z))], [], h) (fun u h' => u = some (.inl (za_lays g x y z)) ∧ jg_rel h' 0 (zm_lays g x y z) ∧ jg_fr 0 h h') := by
  have bn := jw_n W
  have bm := jw_m W
  have bt := jw_t W
  refine jt_go jm_m182 0 1 (f' := (1, [(0, .inr (.inr (4, 0, 0))), (1, .inl (x)), (2, .inl (y)), (3, .inl (z))], [.inl (x)], h)) (P := True) rfl trivial ?_
  refine jt_callp (w := .inl (jm_b (nI 0 ≤ x ∧ x ≤ nI 15))) jm_m182 1 (mi' := 151) (as := [.inl (x)]) (rest := []) (nxt := 4) rfl rfl jm_m151 rfl rfl (tb_place) ?_
  refine jt_ifbeq jm_m182 2 (tgt := 26) (nxt := 7) rfl rfl rfl (fun c4 => ?_) (fun c4 => ?_)
  · refine jt_go jm_m182 13 1 (f' := (27, [(0, .inr (.inr (4, 0, 0))), (1, .inl (x)), (2, .inl (y)), (3, .inl (z))], [.inl ((-1))], h)) (P := True) rfl trivial ?_
    refine jt_iret jm_m182 14 rfl ?_
    exact ⟨jt_li (if_neg (fun z => c4 z.1)).symm, by unfold zm_lays; rw [if_neg (fun z => c4 z.1)]; exact R, jg_fr_rf⟩
  · obtain ⟨p, hbp, rfl⟩ := jx_win (by decide) c4
    refine jt_go jm_m182 3 3 (f' := (10, [(0, .inr (.inr (4, 0, 0))), (1, .inl (nI p)), (2, .inl (y)), (3, .inl (z))], [.inl (nI 1), .inl (nI 0), .inl (y)], h)) (P := True) rfl trivial ?_
    refine jt_callp (w := .inl (jm_b (nI 0 ≤ y ∧ y ≤ nI 1))) jm_m182 6 (mi' := 143) (as := [.inl (y), .inl (nI 0), .inl (nI 1)]) (rest := []) (nxt := 13) rfl rfl jm_m143 rfl rfl (tb_isIn) ?_
    refine jt_ifbeq jm_m182 7 (tgt := 26) (nxt := 16) rfl rfl rfl (fun c13 => ?_) (fun c13 => ?_)
    · refine jt_go jm_m182 13 1 (f' := (27, [(0, .inr (.inr (4, 0, 0))), (1, .inl (nI p)), (2, .inl (y)), (3, .inl (z))], [.inl ((-1))], h)) (P := True) rfl trivial ?_
      refine jt_iret jm_m182 14 rfl ?_
      exact ⟨jt_li (if_neg (fun z => c13 z.2.1)).symm, by unfold zm_lays; rw [if_neg (fun z => c13 z.2.1)]; exact R, jg_fr_rf⟩
    · obtain ⟨w, hbw, rfl⟩ := jx_win (by decide) c13
      refine jt_go jm_m182 8 3 (f' := (20, [(0, .inr (.inr (4, 0, 0))), (1, .inl (nI p)), (2, .inl (nI w)), (3, .inl (z))], [.inl (nI 9), .inl (nI 0), .inl (z)], h)) (P := True) rfl trivial ?_
      refine jt_callp (w := .inl (jm_b (nI 0 ≤ z ∧ z ≤ nI 9))) jm_m182 11 (mi' := 143) (as := [.inl (z), .inl (nI 0), .inl (nI 9)]) (rest := []) (nxt := 23) rfl rfl jm_m143 rfl rfl (tb_isIn) ?_
      refine jt_ifbne jm_m182 12 (tgt := 28) (nxt := 26) rfl rfl rfl (fun c23 => ?_) (fun c23 => ?_)
      · obtain ⟨v, hbv, rfl⟩ := jx_win (by decide) c23
        refine jt_go jm_m182 15 1 (f' := (29, [(0, .inr (.inr (4, 0, 0))), (1, .inl (nI p)), (2, .inl (nI w)), (3, .inl (nI v))], [.inl (nI w)], h)) (P := True) rfl trivial ?_
        refine jt_nifne jm_m182 16 (by omega) (tgt := 36) (nxt := 32) rfl rfl rfl (fun c29 => ?_) (fun c29 => ?_)
        · refine jt_go jm_m182 19 3 (f' := (40, [(0, .inr (.inr (4, 0, 0))), (1, .inl (nI p)), (2, .inl (nI w)), (3, .inl (nI v))], [.inl ((nI 20) + (nI p))], h)) (P := True) rfl trivial ?_
          refine jt_ti (show ((nI 20) + (nI p)) = nI (20 + p) from nI_add _ _) ?_
          refine jt_go jm_m182 22 5 (f' := (49, [(4, .inl (nI (20 + p))), (0, .inr (.inr (4, 0, 0))), (1, .inl (nI p)), (2, .inl (nI w)), (3, .inl (nI v))], [.inl (h (5, 0, 0) (nI (20 + p)).toNatClampNeg)], h)) (P := vp_in (nI (20 + p)) 78 ∧ True) rfl ⟨(vp_in_nI (by omega) (by decide)), trivial⟩ ?_
          refine jt_ti (show (h (5, 0, 0) (nI (20 + p)).toNatClampNeg) = nI (g (20 + p)) from jg_get R (k := 20 + p) (nI_clamp (by omega)) (by omega)) ?_
          have bq1 := jw_mice W (p := p) (by omega)
          refine jt_goM jm_m182 27 6 (pc' := 59) (L' := [(5, .inl (nI (g (20 + p)))), (4, .inl (nI (20 + p))), (0, .inr (.inr (4, 0, 0))), (1, .inl (nI p)), (2, .inl (nI w)), (3, .inl (nI v))]) (st' := []) (m' := jm_set h (5, 0, 0) (upd (h (5, 0, 0)) (nI (20 + p)).toNatClampNeg (nI v))) (P := vp_in (nI (20 + p)) 78 ∧ True) rfl ⟨(vp_in_nI (by omega) (by decide)), trivial⟩ (fun h1 eh1 => ?_)
          have Fh1 : jg_fr 0 h h1 := by rw [eh1]; exact jg_fr_set jg_fr_rf
          obtain ⟨gh1, egh1⟩ : ∃ y, y = sp_up g (20 + p) (v) := ⟨_, rfl⟩
          have Rh1 : jg_rel h1 0 gh1 := by rw [eh1, egh1]; exact jg_set R (k := 20 + p) (w := v) (nI_clamp (by omega)) rfl
          refine jt_go jm_m182 33 1 (f' := (61, [(5, .inl (nI (g (20 + p)))), (4, .inl (nI (20 + p))), (0, .inr (.inr (4, 0, 0))), (1, .inl (nI p)), (2, .inl (nI w)), (3, .inl (nI v))], [.inl (nI (g (20 + p)))], h1)) (P := True) rfl trivial ?_
          refine jt_iret jm_m182 34 rfl ?_
          refine ⟨jt_li ?_, ?_, Fh1⟩
          · unfold za_lays
            refine Eq.trans ?_ (if_pos ⟨c4, c13, c23⟩).symm
            rw [nI_clamp (n := p) (by omega), nI_clamp (n := w) (by omega), nI_clamp (n := v) (by omega)]
            unfold zb_lays
            first | rw [if_pos (by assumption)] | rw [if_neg (by assumption)]
          · have em : zm_lays g (nI p) (nI w) (nI v) = zn_lays g p w v := by
              unfold zm_lays
              refine (if_pos ⟨c4, c13, c23⟩).trans ?_
              rw [nI_clamp (n := p) (by omega), nI_clamp (n := w) (by omega), nI_clamp (n := v) (by omega)]
            rw [em]
            unfold zn_lays
            first | rw [if_pos (by assumption)] | rw [if_neg (by assumption)]
            rw [← egh1]
            exact Rh1
        · refine jt_go jm_m182 17 2 (f' := (38, [(0, .inr (.inr (4, 0, 0))), (1, .inl (nI p)), (2, .inl (nI w)), (3, .inl (nI v))], [.inl (nI 4)], h)) (P := True) rfl trivial ?_
          refine jt_go jm_m182 20 2 (f' := (40, [(0, .inr (.inr (4, 0, 0))), (1, .inl (nI p)), (2, .inl (nI w)), (3, .inl (nI v))], [.inl ((nI 4) + (nI p))], h)) (P := True) rfl trivial ?_
          refine jt_ti (show ((nI 4) + (nI p)) = nI (4 + p) from nI_add _ _) ?_
          refine jt_go jm_m182 22 5 (f' := (49, [(4, .inl (nI (4 + p))), (0, .inr (.inr (4, 0, 0))), (1, .inl (nI p)), (2, .inl (nI w)), (3, .inl (nI v))], [.inl (h (5, 0, 0) (nI (4 + p)).toNatClampNeg)], h)) (P := vp_in (nI (4 + p)) 78 ∧ True) rfl ⟨(vp_in_nI (by omega) (by decide)), trivial⟩ ?_
          refine jt_ti (show (h (5, 0, 0) (nI (4 + p)).toNatClampNeg) = nI (g (4 + p)) from jg_get R (k := 4 + p) (nI_clamp (by omega)) (by omega)) ?_
          have bq2 := jw_fish W (p := p) (by omega)
          refine jt_goM jm_m182 27 6 (pc' := 59) (L' := [(5, .inl (nI (g (4 + p)))), (4, .inl (nI (4 + p))), (0, .inr (.inr (4, 0, 0))), (1, .inl (nI p)), (2, .inl (nI w)), (3, .inl (nI v))]) (st' := []) (m' := jm_set h (5, 0, 0) (upd (h (5, 0, 0)) (nI (4 + p)).toNatClampNeg (nI v))) (P := vp_in (nI (4 + p)) 78 ∧ True) rfl ⟨(vp_in_nI (by omega) (by decide)), trivial⟩ (fun h2 eh2 => ?_)
          have Fh2 : jg_fr 0 h h2 := by rw [eh2]; exact jg_fr_set jg_fr_rf
          obtain ⟨gh2, egh2⟩ : ∃ y, y = sp_up g (4 + p) (v) := ⟨_, rfl⟩
          have Rh2 : jg_rel h2 0 gh2 := by rw [eh2, egh2]; exact jg_set R (k := 4 + p) (w := v) (nI_clamp (by omega)) rfl
          refine jt_go jm_m182 33 1 (f' := (61, [(5, .inl (nI (g (4 + p)))), (4, .inl (nI (4 + p))), (0, .inr (.inr (4, 0, 0))), (1, .inl (nI p)), (2, .inl (nI w)), (3, .inl (nI v))], [.inl (nI (g (4 + p)))], h2)) (P := True) rfl trivial ?_
          refine jt_iret jm_m182 34 rfl ?_
          refine ⟨jt_li ?_, ?_, Fh2⟩
          · unfold za_lays
            refine Eq.trans ?_ (if_pos ⟨c4, c13, c23⟩).symm
            rw [nI_clamp (n := p) (by omega), nI_clamp (n := w) (by omega), nI_clamp (n := v) (by omega)]
            unfold zb_lays
            first | rw [if_pos (by assumption)] | rw [if_neg (by assumption)]
          · have em : zm_lays g (nI p) (nI w) (nI v) = zn_lays g p w v := by
              unfold zm_lays
              refine (if_pos ⟨c4, c13, c23⟩).trans ?_
              rw [nI_clamp (n := p) (by omega), nI_clamp (n := w) (by omega), nI_clamp (n := v) (by omega)]
            rw [em]
            unfold zn_lays
            first | rw [if_pos (by assumption)] | rw [if_neg (by assumption)]
            rw [← egh2]
            exact Rh2
      · refine jt_go jm_m182 13 1 (f' := (27, [(0, .inr (.inr (4, 0, 0))), (1, .inl (nI p)), (2, .inl (nI w)), (3, .inl (z))], [.inl ((-1))], h)) (P := True) rfl trivial ?_
        refine jt_iret jm_m182 14 rfl ?_
        exact ⟨jt_li (if_neg (fun z => c23 z.2.2)).symm, by unfold zm_lays; rw [if_neg (fun z => c23 z.2.2)]; exact R, jg_fr_rf⟩
def zb_hours (g : Nat → Nat) (n : Nat) : Int32 := if ¬ nI 999 < nI (g 3) + (nI (g 2) + nI n) / nI 24 then nI (sp_cnt (sp_pb (sp_it g n))) else (-3)
def za_hours (g : Nat → Nat) (x : Int32) : Int32 := if nI 1 ≤ x ∧ x ≤ nI 60 then zb_hours g x.toNatClampNeg else (-1)
def zn_hours (g : Nat → Nat) (n : Nat) : Nat → Nat := if ¬ nI 999 < nI (g 3) + (nI (g 2) + nI n) / nI 24 then sp_it g n else g
def zm_hours (g : Nat → Nat) (x : Int32) : Nat → Nat := if nI 1 ≤ x ∧ x ≤ nI 60 then zn_hours g x.toNatClampNeg else g
theorem jw_hours {g : Nat → Nat} (W : jw g) (x : Int32) : jw (zm_hours g x) := by
  have bn := jw_n W
  have bm := jw_m W
  unfold zm_hours
  split
  · rename_i z
    obtain ⟨n, gn, bn, e0⟩ := jx_win2 (by decide) (by decide) z
    rw [e0, nI_clamp (n := n) (by omega)]
    unfold zn_hours
    split
    · exact (jw_it W n).1
    · exact W
  · exact W
set_option maxHeartbeats 4000000 in
set_option maxRecDepth 20000 in
theorem ca_hours {h : jm_M} {g : Nat → Nat} (R : jf_rel h 0 g) (W : jw g) {x : Int32} : jt_T 83 (0, [(0, .inr (.inr (0, 0, 0))), (1, .inl (x))], [], h) (fun u h' => u = some (.inl (za_hours g x)) ∧ jf_rel h' 0 (zm_hours g x) ∧ jf_fr 0 h h') := by
  have bn := jw_n W
  have bm := jw_m W
  have bt := jw_t W
  refine jt_go jm_m83 0 3 (f' := (4, [(0, .inr (.inr (0, 0, 0))), (1, .inl (x))], [.inl (nI 60), .inl (nI 1), .inl (x)], h)) (P := True) rfl trivial ?_
  refine jt_callp (w := .inl (jm_b (nI 1 ≤ x ∧ x ≤ nI 60))) jm_m83 3 (mi' := 136) (as := [.inl (x), .inl (nI 1), .inl (nI 60)]) (rest := []) (nxt := 7) rfl rfl jm_m136 rfl rfl (ta_within) ?_
  refine jt_ifbne jm_m83 4 (tgt := 12) (nxt := 10) rfl rfl rfl (fun c7 => ?_) (fun c7 => ?_)
  · obtain ⟨n, gn, hbn, rfl⟩ := jx_win2 (by decide) (by decide) c7
    refine jt_go jm_m83 7 3 (f' := (17, [(0, .inr (.inr (0, 0, 0))), (1, .inl (nI n))], [.inl (nI n), .inr (.inr (2, 0, 0))], h)) (P := True) rfl trivial ?_
    refine jt_callp (w := .inl (jm_b (¬ nI 999 < nI (g 3) + (nI (g 2) + nI n) / nI 24))) jm_m83 10 (mi' := 12) (as := [.inr (.inr (2, 0, 0)), .inl (nI n)]) (rest := []) (nxt := 20) rfl rfl jm_m12 rfl rfl (ta_hasDays R W) ?_
    refine jt_ifbne jm_m83 11 (tgt := 26) (nxt := 23) rfl rfl rfl (fun c20 => ?_) (fun c20 => ?_)
    · refine jt_go jm_m83 14 3 (f' := (31, [(0, .inr (.inr (0, 0, 0))), (1, .inl (nI n))], [.inl (nI n), .inr (.inr (2, 0, 0))], h)) (P := True) rfl trivial ?_
      refine jt_call jm_m83 17 (mi' := 17) (as := [.inr (.inr (2, 0, 0)), .inl (nI n)]) (rest := []) (nxt := 34) rfl rfl jm_m17 rfl rfl (ta_goOn R W (by omega)) ?_
      rintro u h1 ⟨rfl, Rh1, Fh1⟩
      show jt_T 83 (34, [(0, .inr (.inr (0, 0, 0))), (1, .inl (nI n))], [], h1) _
      have Rh1 : jf_rel h1 0 (sp_it g n) := Rh1
      have Wh1 : jw (sp_it g n) := (jw_it W n).1
      refine jt_go jm_m83 18 3 (f' := (41, [(0, .inr (.inr (0, 0, 0))), (1, .inl (nI n))], [.inl (h1 (2, 0, 0) 13)], h1)) (P := True) rfl trivial ?_
      refine jt_ti (show (h1 (2, 0, 0) 13) = nI (sp_pb (sp_it g n)) from jf_pass Rh1) ?_
      have bq1 := jw_pb Wh1
      refine jt_callp (w := .inl (nI (sp_cnt (sp_pb (sp_it g n))))) jm_m83 21 (mi' := 238) (as := [.inl (nI (sp_pb (sp_it g n)))]) (rest := []) (nxt := 44) rfl rfl jm_m238 rfl rfl (tj_bits (by omega)) ?_
      have bq2 := sp_cnt_le (sp_pb (sp_it g n)) (by omega)
      refine jt_iret jm_m83 22 rfl ?_
      refine ⟨jt_li ?_, ?_, Fh1⟩
      · unfold za_hours
        refine Eq.trans ?_ (if_pos c7).symm
        rw [nI_clamp (n := n) (by omega)]
        unfold zb_hours
        exact (if_pos (by assumption)).symm
      · have em : zm_hours g (nI n) = zn_hours g n := by
          unfold zm_hours
          refine (if_pos c7).trans ?_
          rw [nI_clamp (n := n) (by omega)]
        rw [em]
        unfold zn_hours
        rw [if_pos (by assumption)]
        exact Rh1
    · refine jt_go jm_m83 12 1 (f' := (25, [(0, .inr (.inr (0, 0, 0))), (1, .inl (nI n))], [.inl ((-3))], h)) (P := True) rfl trivial ?_
      refine jt_iret jm_m83 13 rfl ?_
      refine ⟨jt_li ?_, ?_, jf_fr_rf⟩
      · unfold za_hours
        refine Eq.trans ?_ (if_pos c7).symm
        rw [nI_clamp (n := n) (by omega)]
        unfold zb_hours
        exact (if_neg (by assumption)).symm
      · have em : zm_hours g (nI n) = zn_hours g n := by
          unfold zm_hours
          refine (if_pos c7).trans ?_
          rw [nI_clamp (n := n) (by omega)]
        rw [em]
        unfold zn_hours
        rw [if_neg (by assumption)]
        exact R
  · refine jt_go jm_m83 5 1 (f' := (11, [(0, .inr (.inr (0, 0, 0))), (1, .inl (x))], [.inl ((-1))], h)) (P := True) rfl trivial ?_
    refine jt_iret jm_m83 6 rfl ?_
    exact ⟨jt_li (if_neg (fun z => c7 z)).symm, by unfold zm_hours; rw [if_neg (fun z => c7 z)]; exact R, jf_fr_rf⟩
set_option maxHeartbeats 4000000 in
set_option maxRecDepth 20000 in
theorem cb_hours {h : jm_M} {g : Nat → Nat} (R : jg_rel h 0 g) (W : jw g) {x : Int32} : jt_T 184 (0, [(0, .inr (.inr (4, 0, 0))), (1, .inl (x))], [], h) (fun u h' => u = some (.inl (za_hours g x)) ∧ jg_rel h' 0 (zm_hours g x) ∧ jg_fr 0 h h') := by
  have bn := jw_n W
  have bm := jw_m W
  have bt := jw_t W
  refine jt_go jm_m184 0 3 (f' := (4, [(0, .inr (.inr (4, 0, 0))), (1, .inl (x))], [.inl (nI 60), .inl (nI 1), .inl (x)], h)) (P := True) rfl trivial ?_
  refine jt_callp (w := .inl (jm_b (nI 1 ≤ x ∧ x ≤ nI 60))) jm_m184 3 (mi' := 143) (as := [.inl (x), .inl (nI 1), .inl (nI 60)]) (rest := []) (nxt := 7) rfl rfl jm_m143 rfl rfl (tb_isIn) ?_
  refine jt_ifbne jm_m184 4 (tgt := 12) (nxt := 10) rfl rfl rfl (fun c7 => ?_) (fun c7 => ?_)
  · obtain ⟨n, gn, hbn, rfl⟩ := jx_win2 (by decide) (by decide) c7
    refine jt_go jm_m184 7 3 (f' := (17, [(0, .inr (.inr (4, 0, 0))), (1, .inl (nI n))], [.inl (nI n), .inr (.inr (5, 0, 0))], h)) (P := True) rfl trivial ?_
    refine jt_callp (w := .inl (jm_b (¬ nI 999 < nI (g 3) + (nI (g 2) + nI n) / nI 24))) jm_m184 10 (mi' := 167) (as := [.inr (.inr (5, 0, 0)), .inl (nI n)]) (rest := []) (nxt := 20) rfl rfl jm_m167 rfl rfl (tb_canGo R W) ?_
    refine jt_ifbne jm_m184 11 (tgt := 26) (nxt := 23) rfl rfl rfl (fun c20 => ?_) (fun c20 => ?_)
    · refine jt_go jm_m184 14 3 (f' := (31, [(0, .inr (.inr (4, 0, 0))), (1, .inl (nI n))], [.inl (nI n), .inr (.inr (5, 0, 0))], h)) (P := True) rfl trivial ?_
      refine jt_call jm_m184 17 (mi' := 164) (as := [.inr (.inr (5, 0, 0)), .inl (nI n)]) (rest := []) (nxt := 34) rfl rfl jm_m164 rfl rfl (tb_goOn R W (by omega)) ?_
      rintro u h1 ⟨rfl, Rh1, Fh1⟩
      show jt_T 184 (34, [(0, .inr (.inr (4, 0, 0))), (1, .inl (nI n))], [], h1) _
      have Rh1 : jg_rel h1 0 (sp_it g n) := Rh1
      have Wh1 : jw (sp_it g n) := (jw_it W n).1
      refine jt_go jm_m184 18 2 (f' := (38, [(0, .inr (.inr (4, 0, 0))), (1, .inl (nI n))], [.inr (.inr (5, 0, 0))], h1)) (P := True) rfl trivial ?_
      refine jt_callp (w := .inl (nI (sp_pb (sp_it g n)))) jm_m184 20 (mi' := 165) (as := [.inr (.inr (5, 0, 0))]) (rest := []) (nxt := 41) rfl rfl jm_m165 rfl rfl (tb_passed Rh1 Wh1) ?_
      have bq1 := jw_pb Wh1
      refine jt_callp (w := .inl (nI (sp_cnt (sp_pb (sp_it g n))))) jm_m184 21 (mi' := 153) (as := [.inl (nI (sp_pb (sp_it g n)))]) (rest := []) (nxt := 44) rfl rfl jm_m153 rfl rfl (tb_bits (by omega)) ?_
      have bq2 := sp_cnt_le (sp_pb (sp_it g n)) (by omega)
      refine jt_iret jm_m184 22 rfl ?_
      refine ⟨jt_li ?_, ?_, Fh1⟩
      · unfold za_hours
        refine Eq.trans ?_ (if_pos c7).symm
        rw [nI_clamp (n := n) (by omega)]
        unfold zb_hours
        exact (if_pos (by assumption)).symm
      · have em : zm_hours g (nI n) = zn_hours g n := by
          unfold zm_hours
          refine (if_pos c7).trans ?_
          rw [nI_clamp (n := n) (by omega)]
        rw [em]
        unfold zn_hours
        rw [if_pos (by assumption)]
        exact Rh1
    · refine jt_go jm_m184 12 1 (f' := (25, [(0, .inr (.inr (4, 0, 0))), (1, .inl (nI n))], [.inl ((-3))], h)) (P := True) rfl trivial ?_
      refine jt_iret jm_m184 13 rfl ?_
      refine ⟨jt_li ?_, ?_, jg_fr_rf⟩
      · unfold za_hours
        refine Eq.trans ?_ (if_pos c7).symm
        rw [nI_clamp (n := n) (by omega)]
        unfold zb_hours
        exact (if_neg (by assumption)).symm
      · have em : zm_hours g (nI n) = zn_hours g n := by
          unfold zm_hours
          refine (if_pos c7).trans ?_
          rw [nI_clamp (n := n) (by omega)]
        rw [em]
        unfold zn_hours
        rw [if_neg (by assumption)]
        exact R
  · refine jt_go jm_m184 5 1 (f' := (11, [(0, .inr (.inr (4, 0, 0))), (1, .inl (x))], [.inl ((-1))], h)) (P := True) rfl trivial ?_
    refine jt_iret jm_m184 6 rfl ?_
    exact ⟨jt_li (if_neg (fun z => c7 z)).symm, by unfold zm_hours; rw [if_neg (fun z => c7 z)]; exact R, jg_fr_rf⟩
theorem jw_man {g : Nat → Nat} (W : jw g) (h : g 1 < 6) {s : Nat} (hs : s ≤ 1) : jw (sp_up (sp_up g (66 + 2 * g 1) s) 1 (g 1 + 1)) := by
  have W2 := jw_up_side W (c := g 1) h hs
  have e1 : sp_up g (66 + 2 * g 1) s 1 = g 1 := sp_up_ne (by omega)
  obtain ⟨a0, a1, a2, a3, a4, a5, a6, a7, a8, a9, a10, a11, a12, a13⟩ := W2
  have n : ∀ i, i ≠ 1 → sp_up (sp_up g (66 + 2 * g 1) s) 1 (g 1 + 1) i = sp_up g (66 + 2 * g 1) s i := fun i hi => sp_up_ne hi
  refine ⟨?_, ?_, ?_, ?_, ?_, ?_, ?_, ?_, ?_, ?_, ?_, ?_, ?_, ?_⟩
  · rw [n _ (by omega)]; exact a0
  · rw [sp_up_eq rfl]; omega
  · rw [n _ (by omega)]; exact a2
  · intro p hp; rw [n _ (by omega)]; exact a3 p hp
  · intro p hp; rw [n _ (by omega)]; exact a4 p hp
  · intro p hp; rw [n _ (by omega)]; exact a5 p hp
  · intro p hp; rw [n _ (by omega)]; exact a6 p hp
  · intro p hp; rw [n _ (by omega)]; exact a7 p hp
  · intro p hp; rw [n _ (by omega)]; exact a8 p hp
  · intro p hp; rw [n _ (by omega)]; exact a9 p hp
  · intro p hp; rw [n _ (by omega)]; exact a10 p hp
  · intro p hp; rw [n _ (by omega)]; exact a11 p hp
  · intro p hp
    rw [n _ (by omega)] at hp ⊢
    rw [sp_up_eq rfl]
    have := a12 p hp
    rw [e1] at this
    omega
  · intro p hp hm
    rw [sp_up_eq rfl] at hm
    rw [n _ (by omega)]
    exact a13 p hp (by rw [e1]; omega)
set_option maxHeartbeats 4000000 in
set_option maxRecDepth 20000 in
theorem ta_addMan {h : jm_M} {j : Nat} {g : Nat → Nat} (R : jf_rel h j g) (W : jw g) {s : Nat} (hs : s ≤ 1) : jt_T 14 (0, [(0, .inr (.inr (2, j, 0))), (1, .inl (nI s))], [], h) (fun u h' => (g 1 < 6 ∧ u = some (.inl (jm_b (g 1 < 6))) ∧ jf_rel h' j (sp_up (sp_up g (66 + 2 * g 1) s) 1 (g 1 + 1)) ∧ jf_fr j h h') ∨ (¬ g 1 < 6 ∧ u = some (.inl (jm_b (g 1 < 6))) ∧ h' = h)) := by
  have bn := jw_n W
  have bm := jw_m W
  have bt := jw_t W
  refine jt_go jm_m14 0 2 (f' := (4, [(0, .inr (.inr (2, j, 0))), (1, .inl (nI s))], [.inl (h (2, j, 0) 10)], h)) (P := True) rfl trivial ?_
  refine jt_ti (show (h (2, j, 0) 10) = nI (g 1) from jf_men R) ?_
  have bq1 := jw_m W
  refine jt_go jm_m14 2 1 (f' := (6, [(0, .inr (.inr (2, j, 0))), (1, .inl (nI s))], [.inl (nI 6), .inl (nI (g 1))], h)) (P := True) rfl trivial ?_
  refine jt_niclt jm_m14 3 (a := g 1) (b := 6) (by omega) (by omega) (tgt := 11) (nxt := 9) rfl rfl rfl (fun c6 => ?_) (fun c6 => ?_)
  · refine jt_go jm_m14 6 4 (f' := (19, [(0, .inr (.inr (2, j, 0))), (1, .inl (nI s))], [.inl (h (2, j, 0) 10), .inr (.inr (2, j, 6))], h)) (P := True) rfl trivial ?_
    refine jt_ti (show (h (2, j, 0) 10) = nI (g 1) from jf_men R) ?_
    have bq2 := jw_m W
    refine jt_goM jm_m14 10 2 (pc' := 21) (L' := [(0, .inr (.inr (2, j, 0))), (1, .inl (nI s))]) (st' := []) (m' := jm_set h (2, j, 6) (upd (h (2, j, 6)) (nI (g 1)).toNatClampNeg (nI s))) (P := vp_in (nI (g 1)) 6 ∧ True) rfl ⟨(vp_in_nI (by omega) (by decide)), trivial⟩ (fun h1 eh1 => ?_)
    have Fh1 : jf_fr j h h1 := by rw [eh1]; exact jf_fr_set jf_fr_rf ⟨Or.inl rfl, rfl⟩
    obtain ⟨gh1, egh1⟩ : ∃ y, y = sp_up g (66 + 2 * (g 1)) (s) := ⟨_, rfl⟩
    have Rh1 : jf_rel h1 j gh1 := by rw [eh1, egh1]; exact jf_set_side R (c := g 1) (w := s) (nI_clamp (by omega)) (by omega) rfl
    refine jt_go jm_m14 12 3 (f' := (26, [(0, .inr (.inr (2, j, 0))), (1, .inl (nI s))], [.inl (h1 (2, j, 0) 10), .inr (.inr (2, j, 0))], h1)) (P := True) rfl trivial ?_
    refine jt_ti (show (h1 (2, j, 0) 10) = nI (gh1 1) from jf_men Rh1) ?_
    refine jt_go jm_m14 15 2 (f' := (28, [(0, .inr (.inr (2, j, 0))), (1, .inl (nI s))], [.inl ((nI (gh1 1)) + (nI 1)), .inr (.inr (2, j, 0))], h1)) (P := True) rfl trivial ?_
    refine jt_ti (show ((nI (gh1 1)) + (nI 1)) = nI (g 1 + 1) from by rw [show gh1 1 = g 1 from by rw [egh1]; exact sp_up_ne (by omega)]; exact nI_add _ _) ?_
    refine jt_goM jm_m14 17 1 (pc' := 31) (L' := [(0, .inr (.inr (2, j, 0))), (1, .inl (nI s))]) (st' := []) (m' := jm_set h1 (2, j, 0) (upd (h1 (2, j, 0)) 10 (nI (g 1 + 1)))) (P := True) rfl trivial (fun h2 eh2 => ?_)
    have Fh2 : jf_fr j h h2 := by rw [eh2]; exact jf_fr_set Fh1 ⟨Or.inl rfl, rfl⟩
    obtain ⟨gh2, egh2⟩ : ∃ y, y = sp_up gh1 (1) (g 1 + 1) := ⟨_, rfl⟩
    have Rh2 : jf_rel h2 j gh2 := by rw [eh2, egh2]; exact jf_set_men Rh1 (w := g 1 + 1) rfl
    refine jt_go jm_m14 18 1 (f' := (32, [(0, .inr (.inr (2, j, 0))), (1, .inl (nI s))], [.inl (nI 1)], h2)) (P := True) rfl trivial ?_
    refine jt_zret jm_m14 19 rfl (Or.inr rfl) ?_
    exact Or.inl ⟨by omega, jt_lb1 (by omega), by rw [← egh1, ← egh2]; exact Rh2, Fh2⟩
  · refine jt_go jm_m14 4 1 (f' := (10, [(0, .inr (.inr (2, j, 0))), (1, .inl (nI s))], [.inl (nI 0)], h)) (P := True) rfl trivial ?_
    refine jt_zret jm_m14 5 rfl (Or.inl rfl) ?_
    exact Or.inr ⟨by omega, jt_lb0 (by omega), rfl⟩
