/-! THE FACE: waits, writes, the image. -/
def sp_am (g : Nat → Nat) (s : Nat) : Nat → Nat := if g 1 < 6 then sp_up (sp_up g (66 + 2 * g 1) s) 1 (g 1 + 1) else g
theorem jw_am {g : Nat → Nat} (W : jw g) {s : Nat} (hs : s ≤ 1) : jw (sp_am g s) := by
  unfold sp_am
  split
  · exact jw_man W (by assumption) hs
  · exact W
theorem sp_am_1 {g : Nat → Nat} {s : Nat} (h : g 1 < 6) : sp_am g s 1 = g 1 + 1 := by
  unfold sp_am
  rw [if_pos h]
  exact sp_up_eq rfl
theorem jx_nm {x : Int32} {n : Nat} (hn : n < 2 ^ 31) (h : x = nI 9 ∨ (nI 0 ≤ x ∧ x < nI n)) : ∃ m : Nat, (m = 9 ∨ m < n) ∧ x = nI m := by
  rcases h with h | h
  · exact ⟨9, Or.inl rfl, h⟩
  · obtain ⟨c, hc, e⟩ := jx_cat hn h
    exact ⟨c, Or.inr hc, e⟩
set_option maxHeartbeats 4000000 in
set_option maxRecDepth 20000 in
theorem ta_am {h : jm_M} {j : Nat} {g : Nat → Nat} (R : jf_rel h j g) (W : jw g) {s : Nat} (hs : s ≤ 1) : jt_T 14 (0, [(0, .inr (.inr (2, j, 0))), (1, .inl (nI s))], [], h) (fun u h' => u = some (.inl (jm_b (g 1 < 6))) ∧ jf_rel h' j (sp_am g s) ∧ jf_fr j h h') := by
  refine jt_mono (ta_addMan R W hs) (fun u h2 z => ?_)
  rcases z with ⟨a, b, c, d⟩ | ⟨a, b, c⟩
  · exact ⟨b, by unfold sp_am; rw [if_pos a]; exact c, d⟩
  · exact ⟨b, by unfold sp_am; rw [if_neg a, c]; exact R, by rw [c]; exact jf_fr_rf⟩
set_option maxHeartbeats 4000000 in
set_option maxRecDepth 20000 in
theorem tb_am {h : jm_M} {g : Nat → Nat} (R : jg_rel h 0 g) (W : jw g) {s : Nat} (hs : s ≤ 1) (h6 : g 1 < 6) : jt_T 172 (0, [(0, .inr (.inr (4, 0, 0))), (1, .inl (nI s))], [], h) (fun u h' => u = none ∧ jg_rel h' 0 (sp_am g s) ∧ jg_fr 0 h h') := by
  have bn := jw_n W
  have bm := jw_m W
  have bt := jw_t W
  refine jt_go jm_m172 0 6 (f' := (10, [(0, .inr (.inr (4, 0, 0))), (1, .inl (nI s))], [.inl (h (5, 0, 0) (nI 1).toNatClampNeg), .inr (.inr (5, 0, 0))], h)) (P := vp_in (nI 1) 78 ∧ True) rfl ⟨(vp_in_nI (by omega) (by decide)), trivial⟩ ?_
  refine jt_ti (show (h (5, 0, 0) (nI 1).toNatClampNeg) = nI (g 1) from jg_get R (k := 1) (nI_clamp (by omega)) (by omega)) ?_
  have bq1 := jw_m W
  refine jt_go jm_m172 6 1 (f' := (11, [(0, .inr (.inr (4, 0, 0))), (1, .inl (nI s))], [.inl (nI 0), .inl (nI (g 1)), .inr (.inr (5, 0, 0))], h)) (P := True) rfl trivial ?_
  refine jt_callp (w := .inl (nI (66 + 2 * (g 1)))) jm_m172 7 (mi' := 148) (as := [.inl (nI (g 1)), .inl (nI 0)]) (rest := [.inr (.inr (5, 0, 0))]) (nxt := 14) rfl rfl jm_m148 rfl rfl (tb_ofM (k := 66 + 2 * (g 1)) (by omega)) ?_
  refine jt_goM jm_m172 8 2 (pc' := 16) (L' := [(0, .inr (.inr (4, 0, 0))), (1, .inl (nI s))]) (st' := []) (m' := jm_set h (5, 0, 0) (upd (h (5, 0, 0)) (nI (66 + 2 * (g 1))).toNatClampNeg (nI s))) (P := vp_in (nI (66 + 2 * (g 1))) 78 ∧ True) rfl ⟨(vp_in_nI (by omega) (by decide)), trivial⟩ (fun h1 eh1 => ?_)
  have Fh1 : jg_fr 0 h h1 := by rw [eh1]; exact jg_fr_set jg_fr_rf
  obtain ⟨gh1, egh1⟩ : ∃ y, y = sp_up g (66 + 2 * (g 1)) (s) := ⟨_, rfl⟩
  have Rh1 : jg_rel h1 0 gh1 := by rw [eh1, egh1]; exact jg_set R (k := 66 + 2 * (g 1)) (w := s) (nI_clamp (by omega)) rfl
  have e1h1 : gh1 1 = g 1 := by rw [egh1, sp_up_ne (by omega)]
  refine jt_go jm_m172 10 6 (f' := (26, [(0, .inr (.inr (4, 0, 0))), (1, .inl (nI s))], [.inl (h1 (5, 0, 0) (nI 1).toNatClampNeg), .inr (.inr (5, 0, 0))], h1)) (P := vp_in (nI 1) 78 ∧ True) rfl ⟨(vp_in_nI (by omega) (by decide)), trivial⟩ ?_
  refine jt_ti (show (h1 (5, 0, 0) (nI 1).toNatClampNeg) = nI (g 1) from by rw [jg_get Rh1 (k := 1) (nI_clamp (by omega)) (by omega)]; exact congrArg nI e1h1) ?_
  refine jt_go jm_m172 16 1 (f' := (27, [(0, .inr (.inr (4, 0, 0))), (1, .inl (nI s))], [.inl (nI 1), .inl (nI (g 1)), .inr (.inr (5, 0, 0))], h1)) (P := True) rfl trivial ?_
  refine jt_callp (w := .inl (nI (67 + 2 * (g 1)))) jm_m172 17 (mi' := 148) (as := [.inl (nI (g 1)), .inl (nI 1)]) (rest := [.inr (.inr (5, 0, 0))]) (nxt := 30) rfl rfl jm_m148 rfl rfl (tb_ofM (k := 67 + 2 * (g 1)) (by omega)) ?_
  refine jt_goM jm_m172 18 2 (pc' := 32) (L' := [(0, .inr (.inr (4, 0, 0))), (1, .inl (nI s))]) (st' := []) (m' := jm_set h1 (5, 0, 0) (upd (h1 (5, 0, 0)) (nI (67 + 2 * (g 1))).toNatClampNeg (nI 0))) (P := vp_in (nI (67 + 2 * (g 1))) 78 ∧ True) rfl ⟨(vp_in_nI (by omega) (by decide)), trivial⟩ (fun h2 eh2 => ?_)
  have Fh2 : jg_fr 0 h h2 := by rw [eh2]; exact jg_fr_set Fh1
  obtain ⟨gh2, egh2⟩ : ∃ y, y = sp_up gh1 (67 + 2 * (g 1)) (0) := ⟨_, rfl⟩
  have Rh2 : jg_rel h2 0 gh2 := by rw [eh2, egh2]; exact jg_set Rh1 (k := 67 + 2 * (g 1)) (w := 0) (nI_clamp (by omega)) rfl
  have e1h2 : gh2 1 = g 1 := by rw [egh2, sp_up_ne (by omega)]; exact e1h1
  refine jt_go jm_m172 20 5 (f' := (39, [(0, .inr (.inr (4, 0, 0))), (1, .inl (nI s))], [.inl (h2 (5, 0, 0) (nI 1).toNatClampNeg), .inl (nI 1), .inr (.inr (5, 0, 0))], h2)) (P := vp_in (nI 1) 78 ∧ True) rfl ⟨(vp_in_nI (by omega) (by decide)), trivial⟩ ?_
  refine jt_ti (show (h2 (5, 0, 0) (nI 1).toNatClampNeg) = nI (g 1) from by rw [jg_get Rh2 (k := 1) (nI_clamp (by omega)) (by omega)]; exact congrArg nI e1h2) ?_
  refine jt_go jm_m172 25 2 (f' := (41, [(0, .inr (.inr (4, 0, 0))), (1, .inl (nI s))], [.inl ((nI (g 1)) + (nI 1)), .inl (nI 1), .inr (.inr (5, 0, 0))], h2)) (P := True) rfl trivial ?_
  refine jt_ti (show ((nI (g 1)) + (nI 1)) = nI (g 1 + 1) from nI_add _ _) ?_
  refine jt_goM jm_m172 27 1 (pc' := 42) (L' := [(0, .inr (.inr (4, 0, 0))), (1, .inl (nI s))]) (st' := []) (m' := jm_set h2 (5, 0, 0) (upd (h2 (5, 0, 0)) (nI 1).toNatClampNeg (nI (g 1 + 1)))) (P := vp_in (nI 1) 78 ∧ True) rfl ⟨(vp_in_nI (by omega) (by decide)), trivial⟩ (fun h3 eh3 => ?_)
  have Fh3 : jg_fr 0 h h3 := by rw [eh3]; exact jg_fr_set Fh2
  obtain ⟨gh3, egh3⟩ : ∃ y, y = sp_up gh2 (1) (g 1 + 1) := ⟨_, rfl⟩
  have Rh3 : jg_rel h3 0 gh3 := by rw [eh3, egh3]; exact jg_set Rh2 (k := 1) (w := g 1 + 1) (nI_clamp (by omega)) rfl
  refine jt_vret jm_m172 28 rfl ?_
  refine ⟨rfl, ?_, Fh3⟩
  have e : gh3 = sp_am g s := by
    rw [egh3, egh2, sp_up_self (g := gh1) (k := 67 + 2 * g 1) (by rw [egh1, sp_up_ne (by omega), jw_pas0 W (p := g 1) (by omega) (Nat.le_refl _)]), egh1]
    unfold sp_am
    rw [if_pos h6]
  rw [← e]
  exact Rh3
def zb_waits (g : Nat → Nat) (s : Nat) : Int32 := if g 1 < 6 then nI (g 1) else (-2)
def za_waits (g : Nat → Nat) (x : Int32) : Int32 := if nI 0 ≤ x ∧ x ≤ nI 1 then zb_waits g x.toNatClampNeg else (-1)
def zn_waits (g : Nat → Nat) (s : Nat) : Nat → Nat := sp_am g s
def zm_waits (g : Nat → Nat) (x : Int32) : Nat → Nat := if nI 0 ≤ x ∧ x ≤ nI 1 then zn_waits g x.toNatClampNeg else g
theorem jw_waits {g : Nat → Nat} (W : jw g) (x : Int32) : jw (zm_waits g x) := by
  have bn := jw_n W
  have bm := jw_m W
  unfold zm_waits
  split
  · rename_i z
    obtain ⟨s, bs, e0⟩ := jx_win (by decide) z
    rw [e0, nI_clamp (n := s) (by omega)]
    unfold zn_waits
    exact jw_am W (by omega)
  · exact W
set_option maxHeartbeats 4000000 in
set_option maxRecDepth 20000 in
theorem ca_waits {h : jm_M} {g : Nat → Nat} (R : jf_rel h 0 g) (W : jw g) {x : Int32} : jt_T 79 (0, [(0, .inr (.inr (0, 0, 0))), (1, .inl (x))], [], h) (fun u h' => u = some (.inl (za_waits g x)) ∧ jf_rel h' 0 (zm_waits g x) ∧ jf_fr 0 h h') := by
  have bn := jw_n W
  have bm := jw_m W
  have bt := jw_t W
  refine jt_go jm_m79 0 1 (f' := (1, [(0, .inr (.inr (0, 0, 0))), (1, .inl (x))], [.inl (x)], h)) (P := True) rfl trivial ?_
  refine jt_callp (w := .inl (jm_b (nI 0 ≤ x ∧ x ≤ nI 1))) jm_m79 1 (mi' := 139) (as := [.inl (x)]) (rest := []) (nxt := 4) rfl rfl jm_m139 rfl rfl (ta_sidei) ?_
  refine jt_ifbne jm_m79 2 (tgt := 9) (nxt := 7) rfl rfl rfl (fun c4 => ?_) (fun c4 => ?_)
  · obtain ⟨s, hbs, rfl⟩ := jx_win (by decide) c4
    refine jt_go jm_m79 5 3 (f' := (14, [(0, .inr (.inr (0, 0, 0))), (1, .inl (nI s))], [.inl (nI s), .inr (.inr (2, 0, 0))], h)) (P := True) rfl trivial ?_
    refine jt_call jm_m79 8 (mi' := 14) (as := [.inr (.inr (2, 0, 0)), .inl (nI s)]) (rest := []) (nxt := 17) rfl rfl jm_m14 rfl rfl (ta_am R W (by omega)) ?_
    rintro u h1 ⟨rfl, Rh1, Fh1⟩
    show jt_T 79 (17, [(0, .inr (.inr (0, 0, 0))), (1, .inl (nI s))], [.inl (jm_b (g 1 < 6))], h1) _
    have Rh1 : jf_rel h1 0 (sp_am g s) := Rh1
    have Wh1 : jw (sp_am g s) := jw_am W (by omega)
    refine jt_ifbeq jm_m79 9 (tgt := 32) (nxt := 20) rfl rfl rfl (fun c17 => ?_) (fun c17 => ?_)
    · refine jt_go jm_m79 16 1 (f' := (34, [(0, .inr (.inr (0, 0, 0))), (1, .inl (nI s))], [.inl ((-2))], h1)) (P := True) rfl trivial ?_
      refine jt_iret jm_m79 17 rfl ?_
      refine ⟨jt_li ?_, ?_, Fh1⟩
      · unfold za_waits
        refine Eq.trans ?_ (if_pos c4).symm
        rw [nI_clamp (n := s) (by omega)]
        unfold zb_waits
        exact (if_neg (by omega)).symm
      · have em : zm_waits g (nI s) = zn_waits g s := by
          unfold zm_waits
          refine (if_pos c4).trans ?_
          rw [nI_clamp (n := s) (by omega)]
        rw [em]
        unfold zn_waits
        exact Rh1
    · refine jt_go jm_m79 10 3 (f' := (27, [(0, .inr (.inr (0, 0, 0))), (1, .inl (nI s))], [.inl (h1 (2, 0, 0) 10)], h1)) (P := True) rfl trivial ?_
      refine jt_ti (show (h1 (2, 0, 0) 10) = nI ((sp_am g s) 1) from jf_men Rh1) ?_
      have bq1 := jw_m Wh1
      refine jt_go jm_m79 13 2 (f' := (29, [(0, .inr (.inr (0, 0, 0))), (1, .inl (nI s))], [.inl ((nI ((sp_am g s) 1)) - (nI 1))], h1)) (P := True) rfl trivial ?_
      refine jt_ti (show ((nI ((sp_am g s) 1)) - (nI 1)) = nI (g 1) from by rw [sp_am_1 (by omega)]; exact nI_subN (by omega)) ?_
      refine jt_go jm_m79 15 1 (f' := (34, [(0, .inr (.inr (0, 0, 0))), (1, .inl (nI s))], [.inl (nI (g 1))], h1)) (P := True) rfl trivial ?_
      refine jt_iret jm_m79 17 rfl ?_
      refine ⟨jt_li ?_, ?_, Fh1⟩
      · unfold za_waits
        refine Eq.trans ?_ (if_pos c4).symm
        rw [nI_clamp (n := s) (by omega)]
        unfold zb_waits
        exact (if_pos (by omega)).symm
      · have em : zm_waits g (nI s) = zn_waits g s := by
          unfold zm_waits
          refine (if_pos c4).trans ?_
          rw [nI_clamp (n := s) (by omega)]
        rw [em]
        unfold zn_waits
        exact Rh1
  · refine jt_go jm_m79 3 1 (f' := (8, [(0, .inr (.inr (0, 0, 0))), (1, .inl (x))], [.inl ((-1))], h)) (P := True) rfl trivial ?_
    refine jt_iret jm_m79 4 rfl ?_
    exact ⟨jt_li (if_neg (fun z => c4 z)).symm, by unfold zm_waits; rw [if_neg (fun z => c4 z)]; exact R, jf_fr_rf⟩
set_option maxHeartbeats 4000000 in
set_option maxRecDepth 20000 in
theorem cb_waits {h : jm_M} {g : Nat → Nat} (R : jg_rel h 0 g) (W : jw g) {x : Int32} : jt_T 180 (0, [(0, .inr (.inr (4, 0, 0))), (1, .inl (x))], [], h) (fun u h' => u = some (.inl (za_waits g x)) ∧ jg_rel h' 0 (zm_waits g x) ∧ jg_fr 0 h h') := by
  have bn := jw_n W
  have bm := jw_m W
  have bt := jw_t W
  refine jt_go jm_m180 0 3 (f' := (3, [(0, .inr (.inr (4, 0, 0))), (1, .inl (x))], [.inl (nI 1), .inl (nI 0), .inl (x)], h)) (P := True) rfl trivial ?_
  refine jt_callp (w := .inl (jm_b (nI 0 ≤ x ∧ x ≤ nI 1))) jm_m180 3 (mi' := 143) (as := [.inl (x), .inl (nI 0), .inl (nI 1)]) (rest := []) (nxt := 6) rfl rfl jm_m143 rfl rfl (tb_isIn) ?_
  refine jt_ifbne jm_m180 4 (tgt := 11) (nxt := 9) rfl rfl rfl (fun c6 => ?_) (fun c6 => ?_)
  · obtain ⟨s, hbs, rfl⟩ := jx_win (by decide) c6
    refine jt_go jm_m180 7 4 (f' := (17, [(0, .inr (.inr (4, 0, 0))), (1, .inl (nI s))], [.inl (h (5, 0, 0) (nI 1).toNatClampNeg)], h)) (P := vp_in (nI 1) 78 ∧ True) rfl ⟨(vp_in_nI (by omega) (by decide)), trivial⟩ ?_
    refine jt_ti (show (h (5, 0, 0) (nI 1).toNatClampNeg) = nI (g 1) from jg_get R (k := 1) (nI_clamp (by omega)) (by omega)) ?_
    have bq1 := jw_m W
    refine jt_go jm_m180 11 1 (f' := (19, [(0, .inr (.inr (4, 0, 0))), (1, .inl (nI s))], [.inl (nI 6), .inl (nI (g 1))], h)) (P := True) rfl trivial ?_
    refine jt_nicne jm_m180 12 (a := g 1) (b := 6) (by omega) (by omega) (tgt := 25) (nxt := 22) rfl rfl rfl (fun c19 => ?_) (fun c19 => ?_)
    · refine jt_go jm_m180 15 2 (f' := (27, [(0, .inr (.inr (4, 0, 0))), (1, .inl (nI s))], [.inl (nI s), .inr (.inr (4, 0, 0))], h)) (P := True) rfl trivial ?_
      refine jt_call jm_m180 17 (mi' := 172) (as := [.inr (.inr (4, 0, 0)), .inl (nI s)]) (rest := []) (nxt := 30) rfl rfl jm_m172 rfl rfl (tb_am R W (by omega) (by omega)) ?_
      rintro u h1 ⟨rfl, Rh1, Fh1⟩
      show jt_T 180 (30, [(0, .inr (.inr (4, 0, 0))), (1, .inl (nI s))], [], h1) _
      have Rh1 : jg_rel h1 0 (sp_am g s) := Rh1
      have Wh1 : jw (sp_am g s) := jw_am W (by omega)
      refine jt_go jm_m180 18 4 (f' := (36, [(0, .inr (.inr (4, 0, 0))), (1, .inl (nI s))], [.inl (h1 (5, 0, 0) (nI 1).toNatClampNeg)], h1)) (P := vp_in (nI 1) 78 ∧ True) rfl ⟨(vp_in_nI (by omega) (by decide)), trivial⟩ ?_
      refine jt_ti (show (h1 (5, 0, 0) (nI 1).toNatClampNeg) = nI ((sp_am g s) 1) from jg_get Rh1 (k := 1) (nI_clamp (by omega)) (by omega)) ?_
      have bq2 := jw_m Wh1
      refine jt_go jm_m180 22 2 (f' := (38, [(0, .inr (.inr (4, 0, 0))), (1, .inl (nI s))], [.inl ((nI ((sp_am g s) 1)) - (nI 1))], h1)) (P := True) rfl trivial ?_
      refine jt_ti (show ((nI ((sp_am g s) 1)) - (nI 1)) = nI (g 1) from by rw [sp_am_1 (by omega)]; exact nI_subN (by omega)) ?_
      refine jt_iret jm_m180 24 rfl ?_
      refine ⟨jt_li ?_, ?_, Fh1⟩
      · unfold za_waits
        refine Eq.trans ?_ (if_pos c6).symm
        rw [nI_clamp (n := s) (by omega)]
        unfold zb_waits
        exact (if_pos (by omega)).symm
      · have em : zm_waits g (nI s) = zn_waits g s := by
          unfold zm_waits
          refine (if_pos c6).trans ?_
          rw [nI_clamp (n := s) (by omega)]
        rw [em]
        unfold zn_waits
        exact Rh1
    · refine jt_go jm_m180 13 1 (f' := (24, [(0, .inr (.inr (4, 0, 0))), (1, .inl (nI s))], [.inl ((-2))], h)) (P := True) rfl trivial ?_
      refine jt_iret jm_m180 14 rfl ?_
      refine ⟨jt_li ?_, ?_, jg_fr_rf⟩
      · unfold za_waits
        refine Eq.trans ?_ (if_pos c6).symm
        rw [nI_clamp (n := s) (by omega)]
        unfold zb_waits
        exact (if_neg (by omega)).symm
      · have em : zm_waits g (nI s) = zn_waits g s := by
          unfold zm_waits
          refine (if_pos c6).trans ?_
          rw [nI_clamp (n := s) (by omega)]
        rw [em]
        unfold zn_waits
        unfold sp_am
        rw [if_neg (by omega)]
        exact R
  · refine jt_go jm_m180 5 1 (f' := (10, [(0, .inr (.inr (4, 0, 0))), (1, .inl (x))], [.inl ((-1))], h)) (P := True) rfl trivial ?_
    refine jt_iret jm_m180 6 rfl ?_
    exact ⟨jt_li (if_neg (fun z => c6 z)).symm, by unfold zm_waits; rw [if_neg (fun z => c6 z)]; exact R, jg_fr_rf⟩
def zb_writes (g : Nat → Nat) (c mm : Nat) : Int32 := nI (g (40 + 5 * c))
def za_writes (g : Nat → Nat) (x y : Int32) : Int32 := if (nI 0 ≤ x ∧ x < nI (g 0)) ∧ (y = nI 9 ∨ (nI 0 ≤ y ∧ y < nI (g 1))) then zb_writes g x.toNatClampNeg y.toNatClampNeg else (-1)
def zn_writes (g : Nat → Nat) (c mm : Nat) : Nat → Nat := sp_nm g c mm
def zm_writes (g : Nat → Nat) (x y : Int32) : Nat → Nat := if (nI 0 ≤ x ∧ x < nI (g 0)) ∧ (y = nI 9 ∨ (nI 0 ≤ y ∧ y < nI (g 1))) then zn_writes g x.toNatClampNeg y.toNatClampNeg else g
theorem jw_writes {g : Nat → Nat} (W : jw g) (x y : Int32) : jw (zm_writes g x y) := by
  have bn := jw_n W
  have bm := jw_m W
  unfold zm_writes
  split
  · rename_i z
    obtain ⟨c, bc, e0⟩ := jx_cat (by omega) z.1
    obtain ⟨mm, bmm, e1⟩ := jx_nm (by omega) z.2
    rw [e0, nI_clamp (n := c) (by omega), e1, nI_clamp (n := mm) (by omega)]
    unfold zn_writes
    exact jw_nm_ W (by omega) bmm
  · exact W
set_option maxHeartbeats 4000000 in
set_option maxRecDepth 20000 in
theorem ca_writes {h : jm_M} {g : Nat → Nat} (R : jf_rel h 0 g) (W : jw g) {x y : Int32} : jt_T 80 (0, [(0, .inr (.inr (0, 0, 0))), (1, .inl (x)), (2, .inl (y))], [], h) (fun u h' => u = some (.inl (za_writes g x y)) ∧ jf_rel h' 0 (zm_writes g x y) ∧ jf_fr 0 h h') := by
  have bn := jw_n W
  have bm := jw_m W
  have bt := jw_t W
  refine jt_go jm_m80 0 3 (f' := (5, [(0, .inr (.inr (0, 0, 0))), (1, .inl (x)), (2, .inl (y))], [.inl (x), .inr (.inr (2, 0, 0))], h)) (P := True) rfl trivial ?_
  refine jt_callp (w := .inl (jm_b (nI 0 ≤ x ∧ x < nI (g 0)))) jm_m80 3 (mi' := 7) (as := [.inr (.inr (2, 0, 0)), .inl (x)]) (rest := []) (nxt := 8) rfl rfl jm_m7 rfl rfl (ta_hasCat R W) ?_
  refine jt_ifbeq jm_m80 4 (tgt := 22) (nxt := 11) rfl rfl rfl (fun c8 => ?_) (fun c8 => ?_)
  · refine jt_go jm_m80 10 1 (f' := (23, [(0, .inr (.inr (0, 0, 0))), (1, .inl (x)), (2, .inl (y))], [.inl ((-1))], h)) (P := True) rfl trivial ?_
    refine jt_iret jm_m80 11 rfl ?_
    exact ⟨jt_li (if_neg (fun z => c8 z.1)).symm, by unfold zm_writes; rw [if_neg (fun z => c8 z.1)]; exact R, jf_fr_rf⟩
  · obtain ⟨c, hbc, rfl⟩ := jx_cat (by omega) c8
    refine jt_go jm_m80 5 3 (f' := (16, [(0, .inr (.inr (0, 0, 0))), (1, .inl (nI c)), (2, .inl (y))], [.inl (y), .inr (.inr (2, 0, 0))], h)) (P := True) rfl trivial ?_
    refine jt_callp (w := .inl (jm_b (y = nI 9 ∨ (nI 0 ≤ y ∧ y < nI (g 1))))) jm_m80 8 (mi' := 9) (as := [.inr (.inr (2, 0, 0)), .inl (y)]) (rest := []) (nxt := 19) rfl rfl jm_m9 rfl rfl (ta_hasName R W) ?_
    refine jt_ifbne jm_m80 9 (tgt := 24) (nxt := 22) rfl rfl rfl (fun c19 => ?_) (fun c19 => ?_)
    · obtain ⟨mm, hbmm, rfl⟩ := jx_nm (by omega) c19
      refine jt_go jm_m80 12 5 (f' := (33, [(0, .inr (.inr (0, 0, 0))), (1, .inl (nI c)), (2, .inl (nI mm))], [.inl (h (2, 0, 5) (nI c).toNatClampNeg)], h)) (P := vp_in (nI c) 6 ∧ True) rfl ⟨(vp_in_nI (by omega) (by decide)), trivial⟩ ?_
      refine jt_ti (show (h (2, 0, 5) (nI c).toNatClampNeg) = nI (g (40 + 5 * c)) from jf_name R (c := c) (nI_clamp (by omega)) (by omega)) ?_
      have bq1 := jw_name W (c := c) (by omega)
      refine jt_go jm_m80 17 5 (f' := (40, [(3, .inl (nI (g (40 + 5 * c)))), (0, .inr (.inr (0, 0, 0))), (1, .inl (nI c)), (2, .inl (nI mm))], [.inl (nI mm), .inl (nI c), .inr (.inr (2, 0, 0))], h)) (P := True) rfl trivial ?_
      refine jt_call jm_m80 22 (mi' := 15) (as := [.inr (.inr (2, 0, 0)), .inl (nI c), .inl (nI mm)]) (rest := []) (nxt := 43) rfl rfl jm_m15 rfl rfl (ta_name R W (by omega)) ?_
      rintro u h1 ⟨rfl, Rh1, Fh1⟩
      show jt_T 80 (43, [(3, .inl (nI (g (40 + 5 * c)))), (0, .inr (.inr (0, 0, 0))), (1, .inl (nI c)), (2, .inl (nI mm))], [], h1) _
      have Rh1 : jf_rel h1 0 (sp_nm g c mm) := Rh1
      have Wh1 : jw (sp_nm g c mm) := jw_nm_ W (by omega) hbmm
      refine jt_go jm_m80 23 1 (f' := (44, [(3, .inl (nI (g (40 + 5 * c)))), (0, .inr (.inr (0, 0, 0))), (1, .inl (nI c)), (2, .inl (nI mm))], [.inl (nI (g (40 + 5 * c)))], h1)) (P := True) rfl trivial ?_
      refine jt_iret jm_m80 24 rfl ?_
      refine ⟨jt_li ?_, ?_, Fh1⟩
      · unfold za_writes
        refine Eq.trans ?_ (if_pos ⟨c8, c19⟩).symm
        rw [nI_clamp (n := c) (by omega), nI_clamp (n := mm) (by omega)]
        unfold zb_writes
        first | done | rfl
      · have em : zm_writes g (nI c) (nI mm) = zn_writes g c mm := by
          unfold zm_writes
          refine (if_pos ⟨c8, c19⟩).trans ?_
          rw [nI_clamp (n := c) (by omega), nI_clamp (n := mm) (by omega)]
        rw [em]
        unfold zn_writes
        exact Rh1
    · refine jt_go jm_m80 10 1 (f' := (23, [(0, .inr (.inr (0, 0, 0))), (1, .inl (nI c)), (2, .inl (y))], [.inl ((-1))], h)) (P := True) rfl trivial ?_
      refine jt_iret jm_m80 11 rfl ?_
      exact ⟨jt_li (if_neg (fun z => c19 z.2)).symm, by unfold zm_writes; rw [if_neg (fun z => c19 z.2)]; exact R, jf_fr_rf⟩
set_option maxHeartbeats 4000000 in
set_option maxRecDepth 20000 in
theorem cb_writes {h : jm_M} {g : Nat → Nat} (R : jg_rel h 0 g) (W : jw g) {x y : Int32} : jt_T 181 (0, [(0, .inr (.inr (4, 0, 0))), (1, .inl (x)), (2, .inl (y))], [], h) (fun u h' => u = some (.inl (za_writes g x y)) ∧ jg_rel h' 0 (zm_writes g x y) ∧ jg_fr 0 h h') := by
  have bn := jw_n W
  have bm := jw_m W
  have bt := jw_t W
  refine jt_go jm_m181 0 2 (f' := (2, [(0, .inr (.inr (4, 0, 0))), (1, .inl (x)), (2, .inl (y))], [.inl (x), .inr (.inr (4, 0, 0))], h)) (P := True) rfl trivial ?_
  refine jt_callp (w := .inl (jm_b (nI 0 ≤ x ∧ x < nI (g 0)))) jm_m181 2 (mi' := 149) (as := [.inr (.inr (4, 0, 0)), .inl (x)]) (rest := []) (nxt := 5) rfl rfl jm_m149 rfl rfl (tb_isCat R W) ?_
  refine jt_ifbeq jm_m181 3 (tgt := 22) (nxt := 8) rfl rfl rfl (fun c5 => ?_) (fun c5 => ?_)
  · refine jt_go jm_m181 11 1 (f' := (23, [(0, .inr (.inr (4, 0, 0))), (1, .inl (x)), (2, .inl (y))], [.inl ((-1))], h)) (P := True) rfl trivial ?_
    refine jt_iret jm_m181 12 rfl ?_
    exact ⟨jt_li (if_neg (fun z => c5 z.1)).symm, by unfold zm_writes; rw [if_neg (fun z => c5 z.1)]; exact R, jg_fr_rf⟩
  · obtain ⟨c, hbc, rfl⟩ := jx_cat (by omega) c5
    refine jt_go jm_m181 4 2 (f' := (11, [(0, .inr (.inr (4, 0, 0))), (1, .inl (nI c)), (2, .inl (y))], [.inl (nI 9), .inl (y)], h)) (P := True) rfl trivial ?_
    refine jt_iceq jm_m181 6 (tgt := 24) (nxt := 14) rfl rfl rfl (fun c11 => ?_) (fun c11 => ?_)
    · have hq : y = nI 9 ∨ (nI 0 ≤ y ∧ y < nI (g 1)) := Or.inl c11
      obtain ⟨mm, hbmm, rfl⟩ := jx_nm (by omega) hq
      show jt_T 181 (24, [(0, .inr (.inr (4, 0, 0))), (1, .inl (nI c)), (2, .inl (nI mm))], [], h) _
      refine jt_go jm_m181 13 4 (f' := (30, [(0, .inr (.inr (4, 0, 0))), (1, .inl (nI c)), (2, .inl (nI mm))], [.inl (nI 4), .inl (nI c), .inr (.inr (5, 0, 0))], h)) (P := True) rfl trivial ?_
      refine jt_callp (w := .inl (nI (40 + 5 * c))) jm_m181 17 (mi' := 147) (as := [.inl (nI c), .inl (nI 4)]) (rest := [.inr (.inr (5, 0, 0))]) (nxt := 33) rfl rfl jm_m147 rfl rfl (tb_ofC (k := 40 + 5 * c) (by omega)) ?_
      refine jt_go jm_m181 18 1 (f' := (34, [(0, .inr (.inr (4, 0, 0))), (1, .inl (nI c)), (2, .inl (nI mm))], [.inl (h (5, 0, 0) (nI (40 + 5 * c)).toNatClampNeg)], h)) (P := vp_in (nI (40 + 5 * c)) 78 ∧ True) rfl ⟨(vp_in_nI (by omega) (by decide)), trivial⟩ ?_
      refine jt_ti (show (h (5, 0, 0) (nI (40 + 5 * c)).toNatClampNeg) = nI (g (40 + 5 * c)) from jg_get R (k := 40 + 5 * c) (nI_clamp (by omega)) (by omega)) ?_
      have bq1 := jw_name W (c := c) (by omega)
      refine jt_go jm_m181 19 5 (f' := (41, [(3, .inl (nI (g (40 + 5 * c)))), (0, .inr (.inr (4, 0, 0))), (1, .inl (nI c)), (2, .inl (nI mm))], [.inl (nI mm), .inl (nI c), .inr (.inr (5, 0, 0))], h)) (P := True) rfl trivial ?_
      refine jt_call jm_m181 24 (mi' := 166) (as := [.inr (.inr (5, 0, 0)), .inl (nI c), .inl (nI mm)]) (rest := []) (nxt := 44) rfl rfl jm_m166 rfl rfl (tb_name R W (by omega)) ?_
      rintro u h1 ⟨rfl, Rh1, Fh1⟩
      show jt_T 181 (44, [(3, .inl (nI (g (40 + 5 * c)))), (0, .inr (.inr (4, 0, 0))), (1, .inl (nI c)), (2, .inl (nI mm))], [], h1) _
      have Rh1 : jg_rel h1 0 (sp_nm g c mm) := Rh1
      have Wh1 : jw (sp_nm g c mm) := jw_nm_ W (by omega) hbmm
      refine jt_go jm_m181 25 1 (f' := (45, [(3, .inl (nI (g (40 + 5 * c)))), (0, .inr (.inr (4, 0, 0))), (1, .inl (nI c)), (2, .inl (nI mm))], [.inl (nI (g (40 + 5 * c)))], h1)) (P := True) rfl trivial ?_
      refine jt_iret jm_m181 26 rfl ?_
      refine ⟨jt_li ?_, ?_, Fh1⟩
      · unfold za_writes
        refine Eq.trans ?_ (if_pos ⟨c5, hq⟩).symm
        rw [nI_clamp (n := c) (by omega), nI_clamp (n := mm) (by omega)]
        unfold zb_writes
        first | done | rfl
      · have em : zm_writes g (nI c) (nI mm) = zn_writes g c mm := by
          unfold zm_writes
          refine (if_pos ⟨c5, hq⟩).trans ?_
          rw [nI_clamp (n := c) (by omega), nI_clamp (n := mm) (by omega)]
        rw [em]
        unfold zn_writes
        exact Rh1
    · refine jt_go jm_m181 7 2 (f' := (16, [(0, .inr (.inr (4, 0, 0))), (1, .inl (nI c)), (2, .inl (y))], [.inl (y), .inr (.inr (4, 0, 0))], h)) (P := True) rfl trivial ?_
      refine jt_callp (w := .inl (jm_b (nI 0 ≤ y ∧ y < nI (g 1)))) jm_m181 9 (mi' := 150) (as := [.inr (.inr (4, 0, 0)), .inl (y)]) (rest := []) (nxt := 19) rfl rfl jm_m150 rfl rfl (tb_isMan R W) ?_
      refine jt_ifbne jm_m181 10 (tgt := 24) (nxt := 22) rfl rfl rfl (fun c19 => ?_) (fun c19 => ?_)
      · have hq : y = nI 9 ∨ (nI 0 ≤ y ∧ y < nI (g 1)) := Or.inr c19
        obtain ⟨mm, hbmm, rfl⟩ := jx_nm (by omega) hq
        show jt_T 181 (24, [(0, .inr (.inr (4, 0, 0))), (1, .inl (nI c)), (2, .inl (nI mm))], [], h) _
        refine jt_go jm_m181 13 4 (f' := (30, [(0, .inr (.inr (4, 0, 0))), (1, .inl (nI c)), (2, .inl (nI mm))], [.inl (nI 4), .inl (nI c), .inr (.inr (5, 0, 0))], h)) (P := True) rfl trivial ?_
        refine jt_callp (w := .inl (nI (40 + 5 * c))) jm_m181 17 (mi' := 147) (as := [.inl (nI c), .inl (nI 4)]) (rest := [.inr (.inr (5, 0, 0))]) (nxt := 33) rfl rfl jm_m147 rfl rfl (tb_ofC (k := 40 + 5 * c) (by omega)) ?_
        refine jt_go jm_m181 18 1 (f' := (34, [(0, .inr (.inr (4, 0, 0))), (1, .inl (nI c)), (2, .inl (nI mm))], [.inl (h (5, 0, 0) (nI (40 + 5 * c)).toNatClampNeg)], h)) (P := vp_in (nI (40 + 5 * c)) 78 ∧ True) rfl ⟨(vp_in_nI (by omega) (by decide)), trivial⟩ ?_
        refine jt_ti (show (h (5, 0, 0) (nI (40 + 5 * c)).toNatClampNeg) = nI (g (40 + 5 * c)) from jg_get R (k := 40 + 5 * c) (nI_clamp (by omega)) (by omega)) ?_
        have bq2 := jw_name W (c := c) (by omega)
        refine jt_go jm_m181 19 5 (f' := (41, [(3, .inl (nI (g (40 + 5 * c)))), (0, .inr (.inr (4, 0, 0))), (1, .inl (nI c)), (2, .inl (nI mm))], [.inl (nI mm), .inl (nI c), .inr (.inr (5, 0, 0))], h)) (P := True) rfl trivial ?_
        refine jt_call jm_m181 24 (mi' := 166) (as := [.inr (.inr (5, 0, 0)), .inl (nI c), .inl (nI mm)]) (rest := []) (nxt := 44) rfl rfl jm_m166 rfl rfl (tb_name R W (by omega)) ?_
        rintro u h2 ⟨rfl, Rh2, Fh2⟩
        show jt_T 181 (44, [(3, .inl (nI (g (40 + 5 * c)))), (0, .inr (.inr (4, 0, 0))), (1, .inl (nI c)), (2, .inl (nI mm))], [], h2) _
        have Rh2 : jg_rel h2 0 (sp_nm g c mm) := Rh2
        have Wh2 : jw (sp_nm g c mm) := jw_nm_ W (by omega) hbmm
        refine jt_go jm_m181 25 1 (f' := (45, [(3, .inl (nI (g (40 + 5 * c)))), (0, .inr (.inr (4, 0, 0))), (1, .inl (nI c)), (2, .inl (nI mm))], [.inl (nI (g (40 + 5 * c)))], h2)) (P := True) rfl trivial ?_
        refine jt_iret jm_m181 26 rfl ?_
        refine ⟨jt_li ?_, ?_, Fh2⟩
        · unfold za_writes
          refine Eq.trans ?_ (if_pos ⟨c5, hq⟩).symm
          rw [nI_clamp (n := c) (by omega), nI_clamp (n := mm) (by omega)]
          unfold zb_writes
          first | done | rfl
        · have em : zm_writes g (nI c) (nI mm) = zn_writes g c mm := by
            unfold zm_writes
            refine (if_pos ⟨c5, hq⟩).trans ?_
            rw [nI_clamp (n := c) (by omega), nI_clamp (n := mm) (by omega)]
          rw [em]
          unfold zn_writes
          exact Rh2
      · have hneg : ¬ (y = nI 9 ∨ (nI 0 ≤ y ∧ y < nI (g 1))) := fun z => z.elim c11 c19
        refine jt_go jm_m181 11 1 (f' := (23, [(0, .inr (.inr (4, 0, 0))), (1, .inl (nI c)), (2, .inl (y))], [.inl ((-1))], h)) (P := True) rfl trivial ?_
        refine jt_iret jm_m181 12 rfl ?_
        exact ⟨jt_li (if_neg (fun z => hneg z.2)).symm, by unfold zm_writes; rw [if_neg (fun z => hneg z.2)]; exact R, jg_fr_rf⟩
