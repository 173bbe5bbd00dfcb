/-! A cat more: comes. -/
def sp_ac (g : Nat → Nat) (k f p : Nat) : Nat → Nat := sp_up (sp_up (sp_up (sp_up (sp_up (sp_up g (36 + 5 * g 0) k) (37 + 5 * g 0) f) (38 + 5 * g 0) p) (39 + 5 * g 0) 0) (40 + 5 * g 0) 9) 0 (g 0 + 1)
theorem jw_up_cats {g : Nat → Nat} (W : jw g) {v : Nat} (hv : v ≤ 6) (hn : ∀ c, c < v → g (40 + 5 * c) = 9 ∨ g (40 + 5 * c) < g 1) : jw (sp_up g 0 v) := by
  obtain ⟨a0, a1, a2, a3, a4, a5, a6, a7, a8, a9, a10, a11, a12, a13⟩ := W
  have n : ∀ i, i ≠ 0 → sp_up g 0 v i = g i := fun i hi => sp_up_ne hi
  refine ⟨?_, ?_, ?_, ?_, ?_, ?_, ?_, ?_, ?_, ?_, ?_, ?_, ?_, ?_⟩
  · rw [sp_up_eq rfl]; exact hv
  · rw [n _ (by omega)]; exact a1
  · rw [n _ (by omega)]; exact a2
  · intro p hp; rw [n _ (by omega)]; exact a3 p hp
  · intro p hp; rw [n _ (by omega)]; exact a4 p hp
  · intro p hp; rw [n _ (by omega)]; exact a5 p hp
  · intro p hp; rw [n _ (by omega)]; exact a6 p hp
  · intro p hp; rw [n _ (by omega)]; exact a7 p hp
  · intro p hp; rw [n _ (by omega)]; exact a8 p hp
  · intro p hp; rw [n _ (by omega)]; exact a9 p hp
  · intro p hp; rw [n _ (by omega)]; exact a10 p hp
  · intro p hp; rw [n _ (by omega)]; exact a11 p hp
  · intro p hp
    rw [sp_up_eq rfl] at hp
    rw [n _ (by omega), n _ (by omega)]
    exact hn p hp
  · intro p hp hm; rw [n _ (by omega)] at hm; rw [n _ (by omega)]; exact a13 p hp hm
theorem jw_ac {g : Nat → Nat} (W : jw g) (h : g 0 < 6) {k f p : Nat} (hk : k < 8) (hf : f < 10) (hp : p < 16) : jw (sp_ac g k f p) := by
  have W5 := jw_up_name (jw_up_hair (jw_up_at (jw_up_fig (jw_up_kind W h hk) h hf) h hp) h (Nat.zero_le _)) (c := g 0) (v := 9) h (Or.inl rfl)
  refine jw_up_cats W5 h (fun c hc => ?_)
  by_cases e : c = g 0
  · subst e
    exact Or.inl (sp_up_eq rfl)
  · refine W5.2.2.2.2.2.2.2.2.2.2.2.2.1 c ?_
    rw [sp_up_ne (by omega), sp_up_ne (by omega), sp_up_ne (by omega), sp_up_ne (by omega), sp_up_ne (by omega)]
    omega
theorem sp_ac_0 {g : Nat → Nat} {k f p : Nat} : sp_ac g k f p 0 = g 0 + 1 := sp_up_eq rfl
set_option maxHeartbeats 4000000 in
set_option maxRecDepth 20000 in
theorem ta_ac {h : jm_M} {j : Nat} {g : Nat → Nat} (R : jf_rel h j g) (W : jw g) {k f p : Nat} (hk : k < 8) (hf : f < 10) (hp : p < 16)  : jt_T 13 (0, [(0, .inr (.inr (2, j, 0))), (1, .inl (nI k)), (2, .inl (nI f)), (3, .inl (nI p))], [], h) (fun u h' => u = some (.inl (jm_b (g 0 < 6))) ∧ jf_rel h' j (if g 0 < 6 then sp_ac g k f p else g) ∧ jf_fr j h h') := by
  have bn := jw_n W
  have bm := jw_m W
  have bt := jw_t W
  refine jt_go jm_m13 0 2 (f' := (4, [(0, .inr (.inr (2, j, 0))), (1, .inl (nI k)), (2, .inl (nI f)), (3, .inl (nI p))], [.inl (h (2, j, 0) 9)], h)) (P := True) rfl trivial ?_
  refine jt_ti (show (h (2, j, 0) 9) = nI (g 0) from jf_cats R) ?_
  have bq1 := jw_n W
  refine jt_go jm_m13 2 1 (f' := (6, [(0, .inr (.inr (2, j, 0))), (1, .inl (nI k)), (2, .inl (nI f)), (3, .inl (nI p))], [.inl (nI 6), .inl (nI (g 0))], h)) (P := True) rfl trivial ?_
  refine jt_niclt jm_m13 3 (a := g 0) (b := 6) (by omega) (by omega) (tgt := 11) (nxt := 9) rfl rfl rfl (fun c6 => ?_) (fun c6 => ?_)
  · refine jt_go jm_m13 6 4 (f' := (19, [(0, .inr (.inr (2, j, 0))), (1, .inl (nI k)), (2, .inl (nI f)), (3, .inl (nI p))], [.inl (h (2, j, 0) 9), .inr (.inr (2, j, 1))], h)) (P := True) rfl trivial ?_
    refine jt_ti (show (h (2, j, 0) 9) = nI (g 0) from jf_cats R) ?_
    have bq2 := jw_n W
    refine jt_goM jm_m13 10 2 (pc' := 21) (L' := [(0, .inr (.inr (2, j, 0))), (1, .inl (nI k)), (2, .inl (nI f)), (3, .inl (nI p))]) (st' := []) (m' := jm_set h (2, j, 1) (upd (h (2, j, 1)) (nI (g 0)).toNatClampNeg (nI k))) (P := vp_in (nI (g 0)) 6 ∧ True) rfl ⟨(vp_in_nI (by omega) (by decide)), trivial⟩ (fun h1 eh1 => ?_)
    have Fh1 : jf_fr j h h1 := by rw [eh1]; exact jf_fr_set jf_fr_rf ⟨Or.inl rfl, rfl⟩
    obtain ⟨gh1, egh1⟩ : ∃ y, y = sp_up g (36 + 5 * (g 0)) (k) := ⟨_, rfl⟩
    have Rh1 : jf_rel h1 j gh1 := by rw [eh1, egh1]; exact jf_set_kind R (c := g 0) (w := k) (nI_clamp (by omega)) (by omega) rfl
    have e0h1 : gh1 0 = g 0 := by rw [egh1, sp_up_ne (by omega)]
    refine jt_go jm_m13 12 4 (f' := (29, [(0, .inr (.inr (2, j, 0))), (1, .inl (nI k)), (2, .inl (nI f)), (3, .inl (nI p))], [.inl (h1 (2, j, 0) 9), .inr (.inr (2, j, 2))], h1)) (P := True) rfl trivial ?_
    refine jt_ti (show (h1 (2, j, 0) 9) = nI (g 0) from by rw [jf_cats Rh1]; exact congrArg nI e0h1) ?_
    refine jt_goM jm_m13 16 2 (pc' := 31) (L' := [(0, .inr (.inr (2, j, 0))), (1, .inl (nI k)), (2, .inl (nI f)), (3, .inl (nI p))]) (st' := []) (m' := jm_set h1 (2, j, 2) (upd (h1 (2, j, 2)) (nI (g 0)).toNatClampNeg (nI f))) (P := vp_in (nI (g 0)) 6 ∧ True) rfl ⟨(vp_in_nI (by omega) (by decide)), trivial⟩ (fun h2 eh2 => ?_)
    have Fh2 : jf_fr j h h2 := by rw [eh2]; exact jf_fr_set Fh1 ⟨Or.inl rfl, rfl⟩
    obtain ⟨gh2, egh2⟩ : ∃ y, y = sp_up gh1 (37 + 5 * (g 0)) (f) := ⟨_, rfl⟩
    have Rh2 : jf_rel h2 j gh2 := by rw [eh2, egh2]; exact jf_set_fig Rh1 (c := g 0) (w := f) (nI_clamp (by omega)) (by omega) rfl
    have e0h2 : gh2 0 = g 0 := by rw [egh2, sp_up_ne (by omega)]; exact e0h1
    refine jt_go jm_m13 18 4 (f' := (39, [(0, .inr (.inr (2, j, 0))), (1, .inl (nI k)), (2, .inl (nI f)), (3, .inl (nI p))], [.inl (h2 (2, j, 0) 9), .inr (.inr (2, j, 3))], h2)) (P := True) rfl trivial ?_
    refine jt_ti (show (h2 (2, j, 0) 9) = nI (g 0) from by rw [jf_cats Rh2]; exact congrArg nI e0h2) ?_
    refine jt_goM jm_m13 22 2 (pc' := 41) (L' := [(0, .inr (.inr (2, j, 0))), (1, .inl (nI k)), (2, .inl (nI f)), (3, .inl (nI p))]) (st' := []) (m' := jm_set h2 (2, j, 3) (upd (h2 (2, j, 3)) (nI (g 0)).toNatClampNeg (nI p))) (P := vp_in (nI (g 0)) 6 ∧ True) rfl ⟨(vp_in_nI (by omega) (by decide)), trivial⟩ (fun h3 eh3 => ?_)
    have Fh3 : jf_fr j h h3 := by rw [eh3]; exact jf_fr_set Fh2 ⟨Or.inl rfl, rfl⟩
    obtain ⟨gh3, egh3⟩ : ∃ y, y = sp_up gh2 (38 + 5 * (g 0)) (p) := ⟨_, rfl⟩
    have Rh3 : jf_rel h3 j gh3 := by rw [eh3, egh3]; exact jf_set_at Rh2 (c := g 0) (w := p) (nI_clamp (by omega)) (by omega) rfl
    have e0h3 : gh3 0 = g 0 := by rw [egh3, sp_up_ne (by omega)]; exact e0h2
    refine jt_go jm_m13 24 4 (f' := (49, [(0, .inr (.inr (2, j, 0))), (1, .inl (nI k)), (2, .inl (nI f)), (3, .inl (nI p))], [.inl (h3 (2, j, 0) 9), .inr (.inr (2, j, 4))], h3)) (P := True) rfl trivial ?_
    refine jt_ti (show (h3 (2, j, 0) 9) = nI (g 0) from by rw [jf_cats Rh3]; exact congrArg nI e0h3) ?_
    refine jt_goM jm_m13 28 2 (pc' := 51) (L' := [(0, .inr (.inr (2, j, 0))), (1, .inl (nI k)), (2, .inl (nI f)), (3, .inl (nI p))]) (st' := []) (m' := jm_set h3 (2, j, 4) (upd (h3 (2, j, 4)) (nI (g 0)).toNatClampNeg (nI 0))) (P := vp_in (nI (g 0)) 6 ∧ True) rfl ⟨(vp_in_nI (by omega) (by decide)), trivial⟩ (fun h4 eh4 => ?_)
    have Fh4 : jf_fr j h h4 := by rw [eh4]; exact jf_fr_set Fh3 ⟨Or.inl rfl, rfl⟩
    obtain ⟨gh4, egh4⟩ : ∃ y, y = sp_up gh3 (39 + 5 * (g 0)) (0) := ⟨_, rfl⟩
    have Rh4 : jf_rel h4 j gh4 := by rw [eh4, egh4]; exact jf_set_hair Rh3 (c := g 0) (w := 0) (nI_clamp (by omega)) (by omega) rfl
    have e0h4 : gh4 0 = g 0 := by rw [egh4, sp_up_ne (by omega)]; exact e0h3
    refine jt_go jm_m13 30 4 (f' := (59, [(0, .inr (.inr (2, j, 0))), (1, .inl (nI k)), (2, .inl (nI f)), (3, .inl (nI p))], [.inl (h4 (2, j, 0) 9), .inr (.inr (2, j, 5))], h4)) (P := True) rfl trivial ?_
    refine jt_ti (show (h4 (2, j, 0) 9) = nI (g 0) from by rw [jf_cats Rh4]; exact congrArg nI e0h4) ?_
    refine jt_goM jm_m13 34 2 (pc' := 62) (L' := [(0, .inr (.inr (2, j, 0))), (1, .inl (nI k)), (2, .inl (nI f)), (3, .inl (nI p))]) (st' := []) (m' := jm_set h4 (2, j, 5) (upd (h4 (2, j, 5)) (nI (g 0)).toNatClampNeg (nI 9))) (P := vp_in (nI (g 0)) 6 ∧ True) rfl ⟨(vp_in_nI (by omega) (by decide)), trivial⟩ (fun h5 eh5 => ?_)
    have Fh5 : jf_fr j h h5 := by rw [eh5]; exact jf_fr_set Fh4 ⟨Or.inl rfl, rfl⟩
    obtain ⟨gh5, egh5⟩ : ∃ y, y = sp_up gh4 (40 + 5 * (g 0)) (9) := ⟨_, rfl⟩
    have Rh5 : jf_rel h5 j gh5 := by rw [eh5, egh5]; exact jf_set_name Rh4 (c := g 0) (w := 9) (nI_clamp (by omega)) (by omega) rfl
    have e0h5 : gh5 0 = g 0 := by rw [egh5, sp_up_ne (by omega)]; exact e0h4
    refine jt_go jm_m13 36 3 (f' := (67, [(0, .inr (.inr (2, j, 0))), (1, .inl (nI k)), (2, .inl (nI f)), (3, .inl (nI p))], [.inl (h5 (2, j, 0) 9), .inr (.inr (2, j, 0))], h5)) (P := True) rfl trivial ?_
    refine jt_ti (show (h5 (2, j, 0) 9) = nI (g 0) from by rw [jf_cats Rh5]; exact congrArg nI e0h5) ?_
    refine jt_go jm_m13 39 2 (f' := (69, [(0, .inr (.inr (2, j, 0))), (1, .inl (nI k)), (2, .inl (nI f)), (3, .inl (nI p))], [.inl ((nI (g 0)) + (nI 1)), .inr (.inr (2, j, 0))], h5)) (P := True) rfl trivial ?_
    refine jt_ti (show ((nI (g 0)) + (nI 1)) = nI (g 0 + 1) from nI_add _ _) ?_
    refine jt_goM jm_m13 41 1 (pc' := 72) (L' := [(0, .inr (.inr (2, j, 0))), (1, .inl (nI k)), (2, .inl (nI f)), (3, .inl (nI p))]) (st' := []) (m' := jm_set h5 (2, j, 0) (upd (h5 (2, j, 0)) 9 (nI (g 0 + 1)))) (P := True) rfl trivial (fun h6 eh6 => ?_)
    have Fh6 : jf_fr j h h6 := by rw [eh6]; exact jf_fr_set Fh5 ⟨Or.inl rfl, rfl⟩
    obtain ⟨gh6, egh6⟩ : ∃ y, y = sp_up gh5 (0) (g 0 + 1) := ⟨_, rfl⟩
    have Rh6 : jf_rel h6 j gh6 := by rw [eh6, egh6]; exact jf_set_cats Rh5 (w := g 0 + 1) rfl
    refine jt_go jm_m13 42 1 (f' := (73, [(0, .inr (.inr (2, j, 0))), (1, .inl (nI k)), (2, .inl (nI f)), (3, .inl (nI p))], [.inl (nI 1)], h6)) (P := True) rfl trivial ?_
    refine jt_zret jm_m13 43 rfl (Or.inr rfl) ?_
    rw [if_pos (by omega)]
    have e : gh6 = sp_ac g k f p := by rw [egh6, egh5, egh4, egh3, egh2, egh1]; rfl
    rw [← e]
    exact ⟨jt_lb1 (by omega), Rh6, Fh6⟩
  · refine jt_go jm_m13 4 1 (f' := (10, [(0, .inr (.inr (2, j, 0))), (1, .inl (nI k)), (2, .inl (nI f)), (3, .inl (nI p))], [.inl (nI 0)], h)) (P := True) rfl trivial ?_
    refine jt_zret jm_m13 5 rfl (Or.inl rfl) ?_
    exact ⟨jt_lb0 (by omega), by rw [if_neg (by omega)]; exact R, jf_fr_rf⟩
set_option maxHeartbeats 4000000 in
set_option maxRecDepth 20000 in
theorem tb_ac {h : jm_M} {g : Nat → Nat} (R : jg_rel h 0 g) (W : jw g) (h6 : g 0 < 6) {k f p : Nat} (hk : k < 8) (hf : f < 10) (hp : p < 16)  : jt_T 171 (0, [(0, .inr (.inr (4, 0, 0))), (1, .inl (nI k)), (2, .inl (nI f)), (3, .inl (nI p))], [], h) (fun u h' => u = none ∧ jg_rel h' 0 (sp_ac g k f p) ∧ jg_fr 0 h h') := by
  have bn := jw_n W
  have bm := jw_m W
  have bt := jw_t W
  refine jt_go jm_m171 0 4 (f' := (6, [(0, .inr (.inr (4, 0, 0))), (1, .inl (nI k)), (2, .inl (nI f)), (3, .inl (nI p))], [.inl (h (5, 0, 0) (nI 0).toNatClampNeg)], h)) (P := vp_in (nI 0) 78 ∧ True) rfl ⟨(vp_in_nI (by omega) (by decide)), trivial⟩ ?_
  refine jt_ti (show (h (5, 0, 0) (nI 0).toNatClampNeg) = nI (g 0) from jg_get R (k := 0) (nI_clamp (by omega)) (by omega)) ?_
  have bq1 := jw_n W
  refine jt_go jm_m171 4 5 (f' := (15, [(4, .inl (nI (g 0))), (0, .inr (.inr (4, 0, 0))), (1, .inl (nI k)), (2, .inl (nI f)), (3, .inl (nI p))], [.inl (nI 0), .inl (nI (g 0)), .inr (.inr (5, 0, 0))], h)) (P := True) rfl trivial ?_
  refine jt_callp (w := .inl (nI (36 + 5 * (g 0)))) jm_m171 9 (mi' := 147) (as := [.inl (nI (g 0)), .inl (nI 0)]) (rest := [.inr (.inr (5, 0, 0))]) (nxt := 18) rfl rfl jm_m147 rfl rfl (tb_ofC (k := 36 + 5 * (g 0)) (by omega)) ?_
  refine jt_goM jm_m171 10 2 (pc' := 20) (L' := [(4, .inl (nI (g 0))), (0, .inr (.inr (4, 0, 0))), (1, .inl (nI k)), (2, .inl (nI f)), (3, .inl (nI p))]) (st' := []) (m' := jm_set h (5, 0, 0) (upd (h (5, 0, 0)) (nI (36 + 5 * (g 0))).toNatClampNeg (nI k))) (P := vp_in (nI (36 + 5 * (g 0))) 78 ∧ True) rfl ⟨(vp_in_nI (by omega) (by decide)), trivial⟩ (fun h1 eh1 => ?_)
  have Fh1 : jg_fr 0 h h1 := by rw [eh1]; exact jg_fr_set jg_fr_rf
  obtain ⟨gh1, egh1⟩ : ∃ y, y = sp_up g (36 + 5 * (g 0)) (k) := ⟨_, rfl⟩
  have Rh1 : jg_rel h1 0 gh1 := by rw [eh1, egh1]; exact jg_set R (k := 36 + 5 * (g 0)) (w := k) (nI_clamp (by omega)) rfl
  have e0h1 : gh1 0 = g 0 := by rw [egh1, sp_up_ne (by omega)]
  refine jt_go jm_m171 12 4 (f' := (27, [(4, .inl (nI (g 0))), (0, .inr (.inr (4, 0, 0))), (1, .inl (nI k)), (2, .inl (nI f)), (3, .inl (nI p))], [.inl (nI 1), .inl (nI (g 0)), .inr (.inr (5, 0, 0))], h1)) (P := True) rfl trivial ?_
  refine jt_callp (w := .inl (nI (37 + 5 * (g 0)))) jm_m171 16 (mi' := 147) (as := [.inl (nI (g 0)), .inl (nI 1)]) (rest := [.inr (.inr (5, 0, 0))]) (nxt := 30) rfl rfl jm_m147 rfl rfl (tb_ofC (k := 37 + 5 * (g 0)) (by omega)) ?_
  refine jt_goM jm_m171 17 2 (pc' := 32) (L' := [(4, .inl (nI (g 0))), (0, .inr (.inr (4, 0, 0))), (1, .inl (nI k)), (2, .inl (nI f)), (3, .inl (nI p))]) (st' := []) (m' := jm_set h1 (5, 0, 0) (upd (h1 (5, 0, 0)) (nI (37 + 5 * (g 0))).toNatClampNeg (nI f))) (P := vp_in (nI (37 + 5 * (g 0))) 78 ∧ True) rfl ⟨(vp_in_nI (by omega) (by decide)), trivial⟩ (fun h2 eh2 => ?_)
  have Fh2 : jg_fr 0 h h2 := by rw [eh2]; exact jg_fr_set Fh1
  obtain ⟨gh2, egh2⟩ : ∃ y, y = sp_up gh1 (37 + 5 * (g 0)) (f) := ⟨_, rfl⟩
  have Rh2 : jg_rel h2 0 gh2 := by rw [eh2, egh2]; exact jg_set Rh1 (k := 37 + 5 * (g 0)) (w := f) (nI_clamp (by omega)) rfl
  have e0h2 : gh2 0 = g 0 := by rw [egh2, sp_up_ne (by omega)]; exact e0h1
  refine jt_go jm_m171 19 4 (f' := (39, [(4, .inl (nI (g 0))), (0, .inr (.inr (4, 0, 0))), (1, .inl (nI k)), (2, .inl (nI f)), (3, .inl (nI p))], [.inl (nI 2), .inl (nI (g 0)), .inr (.inr (5, 0, 0))], h2)) (P := True) rfl trivial ?_
  refine jt_callp (w := .inl (nI (38 + 5 * (g 0)))) jm_m171 23 (mi' := 147) (as := [.inl (nI (g 0)), .inl (nI 2)]) (rest := [.inr (.inr (5, 0, 0))]) (nxt := 42) rfl rfl jm_m147 rfl rfl (tb_ofC (k := 38 + 5 * (g 0)) (by omega)) ?_
  refine jt_goM jm_m171 24 2 (pc' := 44) (L' := [(4, .inl (nI (g 0))), (0, .inr (.inr (4, 0, 0))), (1, .inl (nI k)), (2, .inl (nI f)), (3, .inl (nI p))]) (st' := []) (m' := jm_set h2 (5, 0, 0) (upd (h2 (5, 0, 0)) (nI (38 + 5 * (g 0))).toNatClampNeg (nI p))) (P := vp_in (nI (38 + 5 * (g 0))) 78 ∧ True) rfl ⟨(vp_in_nI (by omega) (by decide)), trivial⟩ (fun h3 eh3 => ?_)
  have Fh3 : jg_fr 0 h h3 := by rw [eh3]; exact jg_fr_set Fh2
  obtain ⟨gh3, egh3⟩ : ∃ y, y = sp_up gh2 (38 + 5 * (g 0)) (p) := ⟨_, rfl⟩
  have Rh3 : jg_rel h3 0 gh3 := by rw [eh3, egh3]; exact jg_set Rh2 (k := 38 + 5 * (g 0)) (w := p) (nI_clamp (by omega)) rfl
  have e0h3 : gh3 0 = g 0 := by rw [egh3, sp_up_ne (by omega)]; exact e0h2
  refine jt_go jm_m171 26 4 (f' := (51, [(4, .inl (nI (g 0))), (0, .inr (.inr (4, 0, 0))), (1, .inl (nI k)), (2, .inl (nI f)), (3, .inl (nI p))], [.inl (nI 3), .inl (nI (g 0)), .inr (.inr (5, 0, 0))], h3)) (P := True) rfl trivial ?_
  refine jt_callp (w := .inl (nI (39 + 5 * (g 0)))) jm_m171 30 (mi' := 147) (as := [.inl (nI (g 0)), .inl (nI 3)]) (rest := [.inr (.inr (5, 0, 0))]) (nxt := 54) rfl rfl jm_m147 rfl rfl (tb_ofC (k := 39 + 5 * (g 0)) (by omega)) ?_
  refine jt_goM jm_m171 31 2 (pc' := 56) (L' := [(4, .inl (nI (g 0))), (0, .inr (.inr (4, 0, 0))), (1, .inl (nI k)), (2, .inl (nI f)), (3, .inl (nI p))]) (st' := []) (m' := jm_set h3 (5, 0, 0) (upd (h3 (5, 0, 0)) (nI (39 + 5 * (g 0))).toNatClampNeg (nI 0))) (P := vp_in (nI (39 + 5 * (g 0))) 78 ∧ True) rfl ⟨(vp_in_nI (by omega) (by decide)), trivial⟩ (fun h4 eh4 => ?_)
  have Fh4 : jg_fr 0 h h4 := by rw [eh4]; exact jg_fr_set Fh3
  obtain ⟨gh4, egh4⟩ : ∃ y, y = sp_up gh3 (39 + 5 * (g 0)) (0) := ⟨_, rfl⟩
  have Rh4 : jg_rel h4 0 gh4 := by rw [eh4, egh4]; exact jg_set Rh3 (k := 39 + 5 * (g 0)) (w := 0) (nI_clamp (by omega)) rfl
  have e0h4 : gh4 0 = g 0 := by rw [egh4, sp_up_ne (by omega)]; exact e0h3
  refine jt_go jm_m171 33 4 (f' := (63, [(4, .inl (nI (g 0))), (0, .inr (.inr (4, 0, 0))), (1, .inl (nI k)), (2, .inl (nI f)), (3, .inl (nI p))], [.inl (nI 4), .inl (nI (g 0)), .inr (.inr (5, 0, 0))], h4)) (P := True) rfl trivial ?_
  refine jt_callp (w := .inl (nI (40 + 5 * (g 0)))) jm_m171 37 (mi' := 147) (as := [.inl (nI (g 0)), .inl (nI 4)]) (rest := [.inr (.inr (5, 0, 0))]) (nxt := 66) rfl rfl jm_m147 rfl rfl (tb_ofC (k := 40 + 5 * (g 0)) (by omega)) ?_
  refine jt_goM jm_m171 38 2 (pc' := 69) (L' := [(4, .inl (nI (g 0))), (0, .inr (.inr (4, 0, 0))), (1, .inl (nI k)), (2, .inl (nI f)), (3, .inl (nI p))]) (st' := []) (m' := jm_set h4 (5, 0, 0) (upd (h4 (5, 0, 0)) (nI (40 + 5 * (g 0))).toNatClampNeg (nI 9))) (P := vp_in (nI (40 + 5 * (g 0))) 78 ∧ True) rfl ⟨(vp_in_nI (by omega) (by decide)), trivial⟩ (fun h5 eh5 => ?_)
  have Fh5 : jg_fr 0 h h5 := by rw [eh5]; exact jg_fr_set Fh4
  obtain ⟨gh5, egh5⟩ : ∃ y, y = sp_up gh4 (40 + 5 * (g 0)) (9) := ⟨_, rfl⟩
  have Rh5 : jg_rel h5 0 gh5 := by rw [eh5, egh5]; exact jg_set Rh4 (k := 40 + 5 * (g 0)) (w := 9) (nI_clamp (by omega)) rfl
  have e0h5 : gh5 0 = g 0 := by rw [egh5, sp_up_ne (by omega)]; exact e0h4
  refine jt_go jm_m171 40 5 (f' := (76, [(4, .inl (nI (g 0))), (0, .inr (.inr (4, 0, 0))), (1, .inl (nI k)), (2, .inl (nI f)), (3, .inl (nI p))], [.inl (h5 (5, 0, 0) (nI 0).toNatClampNeg), .inl (nI 0), .inr (.inr (5, 0, 0))], h5)) (P := vp_in (nI 0) 78 ∧ True) rfl ⟨(vp_in_nI (by omega) (by decide)), trivial⟩ ?_
  refine jt_ti (show (h5 (5, 0, 0) (nI 0).toNatClampNeg) = nI (g 0) from by rw [jg_get Rh5 (k := 0) (nI_clamp (by omega)) (by omega)]; exact congrArg nI e0h5) ?_
  refine jt_go jm_m171 45 2 (f' := (78, [(4, .inl (nI (g 0))), (0, .inr (.inr (4, 0, 0))), (1, .inl (nI k)), (2, .inl (nI f)), (3, .inl (nI p))], [.inl ((nI (g 0)) + (nI 1)), .inl (nI 0), .inr (.inr (5, 0, 0))], h5)) (P := True) rfl trivial ?_
  refine jt_ti (show ((nI (g 0)) + (nI 1)) = nI (g 0 + 1) from nI_add _ _) ?_
  refine jt_goM jm_m171 47 1 (pc' := 79) (L' := [(4, .inl (nI (g 0))), (0, .inr (.inr (4, 0, 0))), (1, .inl (nI k)), (2, .inl (nI f)), (3, .inl (nI p))]) (st' := []) (m' := jm_set h5 (5, 0, 0) (upd (h5 (5, 0, 0)) (nI 0).toNatClampNeg (nI (g 0 + 1)))) (P := vp_in (nI 0) 78 ∧ True) rfl ⟨(vp_in_nI (by omega) (by decide)), trivial⟩ (fun h6 eh6 => ?_)
  have Fh6 : jg_fr 0 h h6 := by rw [eh6]; exact jg_fr_set Fh5
  obtain ⟨gh6, egh6⟩ : ∃ y, y = sp_up gh5 (0) (g 0 + 1) := ⟨_, rfl⟩
  have Rh6 : jg_rel h6 0 gh6 := by rw [eh6, egh6]; exact jg_set Rh5 (k := 0) (w := g 0 + 1) (nI_clamp (by omega)) rfl
  refine jt_vret jm_m171 48 rfl ?_
  have e : gh6 = sp_ac g k f p := by rw [egh6, egh5, egh4, egh3, egh2, egh1]; rfl
  rw [← e]
  exact ⟨rfl, Rh6, Fh6⟩
def za_comes (g : Nat → Nat) (s : Nat → Nat → Nat) (x y : Int32) : Int32 := if nI 0 ≤ y ∧ y ≤ nI 15 then (if zr_h 1 s x = nI 0 then (if g 0 < 6 then nI (g 0) else (-2)) else zr_h 1 s x) else (-1)
abbrev co_ok (g : Nat → Nat) (s : Nat → Nat → Nat) (x y : Int32) : Prop := (nI 0 ≤ y ∧ y ≤ nI 15) ∧ zr_h 1 s x = nI 0 ∧ g 0 < 6
def zg_comes (g : Nat → Nat) (s : Nat → Nat → Nat) (x y : Int32) : Nat → Nat := if co_ok g s x y then sp_ac g (s x.toNatClampNeg 1) (s x.toNatClampNeg 2) y.toNatClampNeg else g
theorem jw_comes {g : Nat → Nat} {s : Nat → Nat → Nat} (W : jw g) (Y : kw s) (x y : Int32) : jw (zg_comes g s x y) := by
  unfold zg_comes
  split
  · rename_i q
    obtain ⟨q1, q2, q3⟩ := q
    obtain ⟨p, hp, rfl⟩ := jx_win (by decide) q1
    rcases zr_cs (x := x) Y (Or.inl rfl) with ⟨_, q0⟩ | ⟨d, hd, rfl, qa, q0⟩ | ⟨d, hd, rfl, qa, q0⟩ | ⟨d, hd, rfl, qa, q0⟩
    · exact absurd (q0.symm.trans q2) (by decide)
    · exact absurd (q0.symm.trans q2) (by decide)
    · exact absurd (q0.symm.trans q2) (by decide)
    · rw [nI_clamp (by omega), nI_clamp (by omega)]
      exact jw_ac W q3 (kw_k Y (by omega) qa) (kw_f Y (by omega) qa) (by omega)
  · exact W
set_option maxHeartbeats 4000000 in
set_option maxRecDepth 20000 in
theorem ca_comes {h : jm_M} {s : Nat → Nat → Nat} {e : Nat → Nat → Int32} (K : jk_rel h s e) (Y : kw s) {g : Nat → Nat} (R : jf_rel h 0 g) (W : jw g) {x y : Int32} : jt_T 78 (0, [(0, .inr (.inr (0, 0, 0))), (1, .inl (x)), (2, .inl (y))], [], h) (fun u h' => u = some (.inl (za_comes g s x y)) ∧ jf_rel h' 0 (zg_comes g s x y) ∧ jf_fr 0 h h') := by
  have bn := jw_n W
  have bm := jw_m W
  have bt := jw_t W
  refine jt_go jm_m78 0 1 (f' := (1, [(0, .inr (.inr (0, 0, 0))), (1, .inl (x)), (2, .inl (y))], [.inl (x)], h)) (P := True) rfl trivial ?_
  refine jt_callp (w := .inl (jm_b (nI 0 ≤ x ∧ x ≤ nI 7))) jm_m78 1 (mi' := 137) (as := [.inl (x)]) (rest := []) (nxt := 4) rfl rfl jm_m137 rfl rfl (ta_shelf) ?_
  refine jt_ifbeq jm_m78 2 (tgt := 14) (nxt := 7) rfl rfl rfl (fun c4 => ?_) (fun c4 => ?_)
  · refine jt_go jm_m78 6 1 (f' := (15, [(0, .inr (.inr (0, 0, 0))), (1, .inl (x)), (2, .inl (y))], [.inl ((-1))], h)) (P := True) rfl trivial ?_
    refine jt_iret jm_m78 7 rfl ?_
    have z1 := zr_no (w := 1) (s := s) c4
    have ng : ¬ co_ok g s x y := fun q => absurd (z1.symm.trans q.2.1) (by decide)
    refine ⟨jt_li ?_, by unfold zg_comes; rw [if_neg ng]; exact R, jf_fr_rf⟩
    unfold za_comes
    split
    · rw [z1]; rfl
    · rfl
  · refine jt_go jm_m78 3 1 (f' := (8, [(0, .inr (.inr (0, 0, 0))), (1, .inl (x)), (2, .inl (y))], [.inl (y)], h)) (P := True) rfl trivial ?_
    refine jt_callp (w := .inl (jm_b (nI 0 ≤ y ∧ y ≤ nI 15))) jm_m78 4 (mi' := 138) (as := [.inl (y)]) (rest := []) (nxt := 11) rfl rfl jm_m138 rfl rfl (ta_place) ?_
    refine jt_ifbne jm_m78 5 (tgt := 16) (nxt := 14) rfl rfl rfl (fun c11 => ?_) (fun c11 => ?_)
    · have r11 := c11
      obtain ⟨p, hp, rfl⟩ := jx_win (by decide) r11
      show jt_T 78 (16, [(0, .inr (.inr (0, 0, 0))), (1, .inl (x)), (2, .inl (nI p))], [], h) _
      refine jt_go jm_m78 8 2 (f' := (18, [(0, .inr (.inr (0, 0, 0))), (1, .inl (x)), (2, .inl (nI p))], [.inl (x), .inr (.inr (0, 0, 0))], h)) (P := True) rfl trivial ?_
      refine jt_callp (w := .inl (zr_h 1 s x)) jm_m78 10 (mi' := 134) (as := [.inr (.inr (0, 0, 0)), .inl (x)]) (rest := []) (nxt := 21) rfl rfl jm_m134 rfl rfl (tk_kind K Y) ?_
      rcases zr_cs (x := x) Y (Or.inl rfl) with ⟨qn, q0⟩ | ⟨d, hd, rfl, qa, q0⟩ | ⟨d, hd, rfl, qa, q0⟩ | ⟨d, hd, rfl, qa, q0⟩
      · refine jt_ti (show zr_h 1 s x = (-1) from q0) ?_
        show jt_T 78 (21, [(0, .inr (.inr (0, 0, 0))), (1, .inl (x)), (2, .inl (nI p))], [.inl ((-1))], h) _
        refine jt_go jm_m78 11 2 (f' := (23, [(3, .inl ((-1))), (0, .inr (.inr (0, 0, 0))), (1, .inl (x)), (2, .inl (nI p))], [.inl ((-1))], h)) (P := True) rfl trivial ?_
        refine jt_ifeq jm_m78 13 (tgt := 28) (nxt := 26) rfl rfl rfl (fun c23 => ?_) (fun c23 => ?_)
        · exact absurd c23 (by decide)
        · refine jt_go jm_m78 14 1 (f' := (27, [(3, .inl ((-1))), (0, .inr (.inr (0, 0, 0))), (1, .inl (x)), (2, .inl (nI p))], [.inl ((-1))], h)) (P := True) rfl trivial ?_
          refine jt_iret jm_m78 15 rfl ?_
          have ng : ¬ co_ok g s x (nI p) := fun q => absurd (q0.symm.trans q.2.1) (by decide)
          refine ⟨jt_li ?_, by unfold zg_comes; rw [if_neg ng]; exact R, jf_fr_rf⟩
          refine Eq.trans ?_ (if_pos c11).symm
          rw [q0]
          rfl
      · refine jt_ti (show zr_h 1 s (nI d) = (-11) from q0) ?_
        show jt_T 78 (21, [(0, .inr (.inr (0, 0, 0))), (1, .inl (nI d)), (2, .inl (nI p))], [.inl ((-11))], h) _
        refine jt_go jm_m78 11 2 (f' := (23, [(3, .inl ((-11))), (0, .inr (.inr (0, 0, 0))), (1, .inl (nI d)), (2, .inl (nI p))], [.inl ((-11))], h)) (P := True) rfl trivial ?_
        refine jt_ifeq jm_m78 13 (tgt := 28) (nxt := 26) rfl rfl rfl (fun c23 => ?_) (fun c23 => ?_)
        · exact absurd c23 (by decide)
        · refine jt_go jm_m78 14 1 (f' := (27, [(3, .inl ((-11))), (0, .inr (.inr (0, 0, 0))), (1, .inl (nI d)), (2, .inl (nI p))], [.inl ((-11))], h)) (P := True) rfl trivial ?_
          refine jt_iret jm_m78 15 rfl ?_
          have ng : ¬ co_ok g s (nI d) (nI p) := fun q => absurd (q0.symm.trans q.2.1) (by decide)
          refine ⟨jt_li ?_, by unfold zg_comes; rw [if_neg ng]; exact R, jf_fr_rf⟩
          refine Eq.trans ?_ (if_pos c11).symm
          rw [q0]
          rfl
      · refine jt_ti (show zr_h 1 s (nI d) = (-12) from q0) ?_
        show jt_T 78 (21, [(0, .inr (.inr (0, 0, 0))), (1, .inl (nI d)), (2, .inl (nI p))], [.inl ((-12))], h) _
        refine jt_go jm_m78 11 2 (f' := (23, [(3, .inl ((-12))), (0, .inr (.inr (0, 0, 0))), (1, .inl (nI d)), (2, .inl (nI p))], [.inl ((-12))], h)) (P := True) rfl trivial ?_
        refine jt_ifeq jm_m78 13 (tgt := 28) (nxt := 26) rfl rfl rfl (fun c23 => ?_) (fun c23 => ?_)
        · exact absurd c23 (by decide)
        · refine jt_go jm_m78 14 1 (f' := (27, [(3, .inl ((-12))), (0, .inr (.inr (0, 0, 0))), (1, .inl (nI d)), (2, .inl (nI p))], [.inl ((-12))], h)) (P := True) rfl trivial ?_
          refine jt_iret jm_m78 15 rfl ?_
          have ng : ¬ co_ok g s (nI d) (nI p) := fun q => absurd (q0.symm.trans q.2.1) (by decide)
          refine ⟨jt_li ?_, by unfold zg_comes; rw [if_neg ng]; exact R, jf_fr_rf⟩
          refine Eq.trans ?_ (if_pos c11).symm
          rw [q0]
          rfl
      · refine jt_ti (show zr_h 1 s (nI d) = nI 0 from q0) ?_
        show jt_T 78 (21, [(0, .inr (.inr (0, 0, 0))), (1, .inl (nI d)), (2, .inl (nI p))], [.inl (nI 0)], h) _
        refine jt_go jm_m78 11 2 (f' := (23, [(3, .inl (nI 0)), (0, .inr (.inr (0, 0, 0))), (1, .inl (nI d)), (2, .inl (nI p))], [.inl (nI 0)], h)) (P := True) rfl trivial ?_
        refine jt_nifeq jm_m78 13 (by omega) (tgt := 28) (nxt := 26) rfl rfl rfl (fun c23 => ?_) (fun c23 => ?_)
        · refine jt_go jm_m78 16 6 (f' := (38, [(3, .inl (nI 0)), (0, .inr (.inr (0, 0, 0))), (1, .inl (nI d)), (2, .inl (nI p))], [.inr (.inr (3, (nI d).toNatClampNeg, 0)), .inr (.inr (2, 0, 0))], h)) (P := vp_in (nI d) 8 ∧ True) rfl ⟨(vp_in_nI (by omega) (by decide)), trivial⟩ ?_
          refine jt_tr (show ((3, (nI d).toNatClampNeg, 0) : jm_K) = (3, d, 0) by rw [nI_clamp (by omega)]) ?_
          refine jt_go jm_m78 22 1 (f' := (41, [(3, .inl (nI 0)), (0, .inr (.inr (0, 0, 0))), (1, .inl (nI d)), (2, .inl (nI p))], [.inl (h (3, d, 0) 1), .inr (.inr (2, 0, 0))], h)) (P := True) rfl trivial ?_
          refine jt_ti (show (h (3, d, 0) 1) = nI (s d 1) from jk_kind K (d := d) (by omega) (by assumption)) ?_
          have bq1 := kw_k Y (d := d) (by omega) (by assumption)
          refine jt_go jm_m78 23 4 (f' := (47, [(3, .inl (nI 0)), (0, .inr (.inr (0, 0, 0))), (1, .inl (nI d)), (2, .inl (nI p))], [.inr (.inr (3, (nI d).toNatClampNeg, 0)), .inl (nI (s d 1)), .inr (.inr (2, 0, 0))], h)) (P := vp_in (nI d) 8 ∧ True) rfl ⟨(vp_in_nI (by omega) (by decide)), trivial⟩ ?_
          refine jt_tr (show ((3, (nI d).toNatClampNeg, 0) : jm_K) = (3, d, 0) by rw [nI_clamp (by omega)]) ?_
          refine jt_go jm_m78 27 1 (f' := (50, [(3, .inl (nI 0)), (0, .inr (.inr (0, 0, 0))), (1, .inl (nI d)), (2, .inl (nI p))], [.inl (h (3, d, 0) 2), .inl (nI (s d 1)), .inr (.inr (2, 0, 0))], h)) (P := True) rfl trivial ?_
          refine jt_ti (show (h (3, d, 0) 2) = nI (s d 2) from jk_fig K (d := d) (by omega) (by assumption)) ?_
          have bq2 := kw_f Y (d := d) (by omega) (by assumption)
          refine jt_go jm_m78 28 1 (f' := (51, [(3, .inl (nI 0)), (0, .inr (.inr (0, 0, 0))), (1, .inl (nI d)), (2, .inl (nI p))], [.inl (nI p), .inl (nI (s d 2)), .inl (nI (s d 1)), .inr (.inr (2, 0, 0))], h)) (P := True) rfl trivial ?_
          refine jt_call jm_m78 29 (mi' := 13) (as := [.inr (.inr (2, 0, 0)), .inl (nI (s d 1)), .inl (nI (s d 2)), .inl (nI p)]) (rest := []) (nxt := 54) rfl rfl jm_m13 rfl rfl (ta_ac R W (by omega) (by omega) (by omega)) ?_
          rintro u h1 ⟨rfl, R0, Fh1⟩
          show jt_T 78 (54, [(3, .inl (nI 0)), (0, .inr (.inr (0, 0, 0))), (1, .inl (nI d)), (2, .inl (nI p))], [.inl (jm_b (g 0 < 6))], h1) _
          refine jt_ifbeq jm_m78 30 (tgt := 69) (nxt := 57) rfl rfl rfl (fun c54 => ?_) (fun c54 => ?_)
          · have Rh1 : jf_rel h1 0 g := by rw [if_neg c54] at R0; exact R0
            refine jt_go jm_m78 37 1 (f' := (71, [(3, .inl (nI 0)), (0, .inr (.inr (0, 0, 0))), (1, .inl (nI d)), (2, .inl (nI p))], [.inl ((-2))], h1)) (P := True) rfl trivial ?_
            refine jt_iret jm_m78 38 rfl ?_
            have ng : ¬ co_ok g s (nI d) (nI p) := fun q => absurd q.2.2 (by omega)
            refine ⟨jt_li ?_, by unfold zg_comes; rw [if_neg ng]; exact Rh1, Fh1⟩
            exact (if_neg (show ¬ g 0 < 6 by omega)).symm.trans ((if_pos q0).symm.trans (if_pos c11).symm)
          · have Rh1 : jf_rel h1 0 (sp_ac g (s d 1) (s d 2) p) := by rw [if_pos c54] at R0; exact R0
            refine jt_go jm_m78 31 3 (f' := (64, [(3, .inl (nI 0)), (0, .inr (.inr (0, 0, 0))), (1, .inl (nI d)), (2, .inl (nI p))], [.inl (h1 (2, 0, 0) 9)], h1)) (P := True) rfl trivial ?_
            refine jt_ti (show (h1 (2, 0, 0) 9) = nI (sp_ac g (s d 1) (s d 2) p 0) from jf_cats Rh1) ?_
            have e9 := sp_ac_0 (g := g) (k := s d 1) (f := s d 2) (p := p)
            refine jt_go jm_m78 34 2 (f' := (66, [(3, .inl (nI 0)), (0, .inr (.inr (0, 0, 0))), (1, .inl (nI d)), (2, .inl (nI p))], [.inl ((nI (sp_ac g (s d 1) (s d 2) p 0)) - (nI 1))], h1)) (P := True) rfl trivial ?_
            refine jt_ti (show ((nI (sp_ac g (s d 1) (s d 2) p 0)) - (nI 1)) = nI (g 0) from by rw [e9]; exact nI_subN (by omega)) ?_
            refine jt_go jm_m78 36 1 (f' := (71, [(3, .inl (nI 0)), (0, .inr (.inr (0, 0, 0))), (1, .inl (nI d)), (2, .inl (nI p))], [.inl (nI (g 0))], h1)) (P := True) rfl trivial ?_
            refine jt_iret jm_m78 38 rfl ?_
            have h6 : g 0 < 6 := by omega
            have ok : co_ok g s (nI d) (nI p) := ⟨c11, q0, h6⟩
            have ee : zg_comes g s (nI d) (nI p) = sp_ac g (s d 1) (s d 2) p := by
              refine (if_pos ok).trans ?_
              rw [nI_clamp (by omega), nI_clamp (by omega)]
            refine ⟨jt_li ?_, by rw [ee]; exact Rh1, Fh1⟩
            exact (if_pos h6).symm.trans ((if_pos q0).symm.trans (if_pos c11).symm)
        · exact absurd c23 (by decide)
    · refine jt_go jm_m78 6 1 (f' := (15, [(0, .inr (.inr (0, 0, 0))), (1, .inl (x)), (2, .inl (y))], [.inl ((-1))], h)) (P := True) rfl trivial ?_
      refine jt_iret jm_m78 7 rfl ?_
      have ng : ¬ co_ok g s x y := fun q => c11 q.1
      exact ⟨jt_li (if_neg c11).symm, by unfold zg_comes; rw [if_neg ng]; exact R, jf_fr_rf⟩
set_option maxHeartbeats 4000000 in
set_option maxRecDepth 20000 in
theorem cb_comes {h : jm_M} {s : Nat → Nat → Nat} {e : Nat → Nat → Int32} (K : jl_rel h s e) (Y : kw s) {g : Nat → Nat} (R : jg_rel h 0 g) (W : jw g) {x y : Int32} : jt_T 179 (0, [(0, .inr (.inr (4, 0, 0))), (1, .inl (x)), (2, .inl (y))], [], h) (fun u h' => u = some (.inl (za_comes g s x y)) ∧ jg_rel h' 0 (zg_comes g s x y) ∧ jg_fr 0 h h') := by
  have bn := jw_n W
  have bm := jw_m W
  have bt := jw_t W
  refine jt_go jm_m179 0 1 (f' := (1, [(0, .inr (.inr (4, 0, 0))), (1, .inl (x)), (2, .inl (y))], [.inl (y)], h)) (P := True) rfl trivial ?_
  refine jt_callp (w := .inl (jm_b (nI 0 ≤ y ∧ y ≤ nI 15))) jm_m179 1 (mi' := 151) (as := [.inl (y)]) (rest := []) (nxt := 4) rfl rfl jm_m151 rfl rfl (tb_place) ?_
  refine jt_ifbne jm_m179 2 (tgt := 9) (nxt := 7) rfl rfl rfl (fun c4 => ?_) (fun c4 => ?_)
  · have r4 := c4
    obtain ⟨p, hp, rfl⟩ := jx_win (by decide) r4
    show jt_T 179 (9, [(0, .inr (.inr (4, 0, 0))), (1, .inl (x)), (2, .inl (nI p))], [], h) _
    refine jt_go jm_m179 5 2 (f' := (11, [(0, .inr (.inr (4, 0, 0))), (1, .inl (x)), (2, .inl (nI p))], [.inl (x), .inr (.inr (4, 0, 0))], h)) (P := True) rfl trivial ?_
    refine jt_callp (w := .inl (zr_h 1 s x)) jm_m179 7 (mi' := 229) (as := [.inr (.inr (4, 0, 0)), .inl (x)]) (rest := []) (nxt := 14) rfl rfl jm_m229 rfl rfl (tl_kind K Y) ?_
    rcases zr_cs (x := x) Y (Or.inl rfl) with ⟨qn, q0⟩ | ⟨d, hd, rfl, qa, q0⟩ | ⟨d, hd, rfl, qa, q0⟩ | ⟨d, hd, rfl, qa, q0⟩
    · refine jt_ti (show zr_h 1 s x = (-1) from q0) ?_
      show jt_T 179 (14, [(0, .inr (.inr (4, 0, 0))), (1, .inl (x)), (2, .inl (nI p))], [.inl ((-1))], h) _
      refine jt_go jm_m179 8 2 (f' := (16, [(3, .inl ((-1))), (0, .inr (.inr (4, 0, 0))), (1, .inl (x)), (2, .inl (nI p))], [.inl ((-1))], h)) (P := True) rfl trivial ?_
      refine jt_ifeq jm_m179 10 (tgt := 21) (nxt := 19) rfl rfl rfl (fun c16 => ?_) (fun c16 => ?_)
      · exact absurd c16 (by decide)
      · refine jt_go jm_m179 11 1 (f' := (20, [(3, .inl ((-1))), (0, .inr (.inr (4, 0, 0))), (1, .inl (x)), (2, .inl (nI p))], [.inl ((-1))], h)) (P := True) rfl trivial ?_
        refine jt_iret jm_m179 12 rfl ?_
        have ng : ¬ co_ok g s x (nI p) := fun q => absurd (q0.symm.trans q.2.1) (by decide)
        refine ⟨jt_li ?_, by unfold zg_comes; rw [if_neg ng]; exact R, jg_fr_rf⟩
        refine Eq.trans ?_ (if_pos c4).symm
        rw [q0]
        rfl
    · refine jt_ti (show zr_h 1 s (nI d) = (-11) from q0) ?_
      show jt_T 179 (14, [(0, .inr (.inr (4, 0, 0))), (1, .inl (nI d)), (2, .inl (nI p))], [.inl ((-11))], h) _
      refine jt_go jm_m179 8 2 (f' := (16, [(3, .inl ((-11))), (0, .inr (.inr (4, 0, 0))), (1, .inl (nI d)), (2, .inl (nI p))], [.inl ((-11))], h)) (P := True) rfl trivial ?_
      refine jt_ifeq jm_m179 10 (tgt := 21) (nxt := 19) rfl rfl rfl (fun c16 => ?_) (fun c16 => ?_)
      · exact absurd c16 (by decide)
      · refine jt_go jm_m179 11 1 (f' := (20, [(3, .inl ((-11))), (0, .inr (.inr (4, 0, 0))), (1, .inl (nI d)), (2, .inl (nI p))], [.inl ((-11))], h)) (P := True) rfl trivial ?_
        refine jt_iret jm_m179 12 rfl ?_
        have ng : ¬ co_ok g s (nI d) (nI p) := fun q => absurd (q0.symm.trans q.2.1) (by decide)
        refine ⟨jt_li ?_, by unfold zg_comes; rw [if_neg ng]; exact R, jg_fr_rf⟩
        refine Eq.trans ?_ (if_pos c4).symm
        rw [q0]
        rfl
    · refine jt_ti (show zr_h 1 s (nI d) = (-12) from q0) ?_
      show jt_T 179 (14, [(0, .inr (.inr (4, 0, 0))), (1, .inl (nI d)), (2, .inl (nI p))], [.inl ((-12))], h) _
      refine jt_go jm_m179 8 2 (f' := (16, [(3, .inl ((-12))), (0, .inr (.inr (4, 0, 0))), (1, .inl (nI d)), (2, .inl (nI p))], [.inl ((-12))], h)) (P := True) rfl trivial ?_
      refine jt_ifeq jm_m179 10 (tgt := 21) (nxt := 19) rfl rfl rfl (fun c16 => ?_) (fun c16 => ?_)
      · exact absurd c16 (by decide)
      · refine jt_go jm_m179 11 1 (f' := (20, [(3, .inl ((-12))), (0, .inr (.inr (4, 0, 0))), (1, .inl (nI d)), (2, .inl (nI p))], [.inl ((-12))], h)) (P := True) rfl trivial ?_
        refine jt_iret jm_m179 12 rfl ?_
        have ng : ¬ co_ok g s (nI d) (nI p) := fun q => absurd (q0.symm.trans q.2.1) (by decide)
        refine ⟨jt_li ?_, by unfold zg_comes; rw [if_neg ng]; exact R, jg_fr_rf⟩
        refine Eq.trans ?_ (if_pos c4).symm
        rw [q0]
        rfl
    · refine jt_ti (show zr_h 1 s (nI d) = nI 0 from q0) ?_
      show jt_T 179 (14, [(0, .inr (.inr (4, 0, 0))), (1, .inl (nI d)), (2, .inl (nI p))], [.inl (nI 0)], h) _
      refine jt_go jm_m179 8 2 (f' := (16, [(3, .inl (nI 0)), (0, .inr (.inr (4, 0, 0))), (1, .inl (nI d)), (2, .inl (nI p))], [.inl (nI 0)], h)) (P := True) rfl trivial ?_
      refine jt_nifeq jm_m179 10 (by omega) (tgt := 21) (nxt := 19) rfl rfl rfl (fun c16 => ?_) (fun c16 => ?_)
      · refine jt_go jm_m179 13 4 (f' := (27, [(3, .inl (nI 0)), (0, .inr (.inr (4, 0, 0))), (1, .inl (nI d)), (2, .inl (nI p))], [.inl (h (5, 0, 0) (nI 0).toNatClampNeg)], h)) (P := vp_in (nI 0) 78 ∧ True) rfl ⟨(vp_in_nI (by omega) (by decide)), trivial⟩ ?_
        refine jt_ti (show (h (5, 0, 0) (nI 0).toNatClampNeg) = nI (g 0) from jg_get R (k := 0) (nI_clamp (by omega)) (by omega)) ?_
        have bq1 := jw_n W
        refine jt_go jm_m179 17 1 (f' := (29, [(3, .inl (nI 0)), (0, .inr (.inr (4, 0, 0))), (1, .inl (nI d)), (2, .inl (nI p))], [.inl (nI 6), .inl (nI (g 0))], h)) (P := True) rfl trivial ?_
        refine jt_nicne jm_m179 18 (a := g 0) (b := 6) (by omega) (by omega) (tgt := 35) (nxt := 32) rfl rfl rfl (fun c29 => ?_) (fun c29 => ?_)
        · refine jt_go jm_m179 21 5 (f' := (42, [(3, .inl (nI 0)), (0, .inr (.inr (4, 0, 0))), (1, .inl (nI d)), (2, .inl (nI p))], [.inl (h (4, 0, 4) (nI d).toNatClampNeg), .inr (.inr (4, 0, 0))], h)) (P := vp_in (nI d) 8 ∧ True) rfl ⟨(vp_in_nI (by omega) (by decide)), trivial⟩ ?_
          refine jt_ti (show (h (4, 0, 4) (nI d).toNatClampNeg) = nI (s d 1) from jl_kind K (d := d) (nI_clamp (by omega)) (by omega) (by assumption)) ?_
          have bq2 := kw_k Y (d := d) (by omega) (by assumption)
          refine jt_go jm_m179 26 4 (f' := (48, [(3, .inl (nI 0)), (0, .inr (.inr (4, 0, 0))), (1, .inl (nI d)), (2, .inl (nI p))], [.inl (h (4, 0, 5) (nI d).toNatClampNeg), .inl (nI (s d 1)), .inr (.inr (4, 0, 0))], h)) (P := vp_in (nI d) 8 ∧ True) rfl ⟨(vp_in_nI (by omega) (by decide)), trivial⟩ ?_
          refine jt_ti (show (h (4, 0, 5) (nI d).toNatClampNeg) = nI (s d 2) from jl_fig K (d := d) (nI_clamp (by omega)) (by omega) (by assumption)) ?_
          have bq3 := kw_f Y (d := d) (by omega) (by assumption)
          refine jt_go jm_m179 30 1 (f' := (49, [(3, .inl (nI 0)), (0, .inr (.inr (4, 0, 0))), (1, .inl (nI d)), (2, .inl (nI p))], [.inl (nI p), .inl (nI (s d 2)), .inl (nI (s d 1)), .inr (.inr (4, 0, 0))], h)) (P := True) rfl trivial ?_
          refine jt_call jm_m179 31 (mi' := 171) (as := [.inr (.inr (4, 0, 0)), .inl (nI (s d 1)), .inl (nI (s d 2)), .inl (nI p)]) (rest := []) (nxt := 52) rfl rfl jm_m171 rfl rfl (tb_ac R W (by omega) (by omega) (by omega) (by omega)) ?_
          rintro u h1 ⟨rfl, Rh1, Fh1⟩
          show jt_T 179 (52, [(3, .inl (nI 0)), (0, .inr (.inr (4, 0, 0))), (1, .inl (nI d)), (2, .inl (nI p))], [], h1) _
          refine jt_go jm_m179 32 4 (f' := (58, [(3, .inl (nI 0)), (0, .inr (.inr (4, 0, 0))), (1, .inl (nI d)), (2, .inl (nI p))], [.inl (h1 (5, 0, 0) (nI 0).toNatClampNeg)], h1)) (P := vp_in (nI 0) 78 ∧ True) rfl ⟨(vp_in_nI (by omega) (by decide)), trivial⟩ ?_
          refine jt_ti (show (h1 (5, 0, 0) (nI 0).toNatClampNeg) = nI (sp_ac g (s d 1) (s d 2) p 0) from jg_get Rh1 (k := 0) (nI_clamp (by omega)) (by omega)) ?_
          have e9 := sp_ac_0 (g := g) (k := s d 1) (f := s d 2) (p := p)
          refine jt_go jm_m179 36 2 (f' := (60, [(3, .inl (nI 0)), (0, .inr (.inr (4, 0, 0))), (1, .inl (nI d)), (2, .inl (nI p))], [.inl ((nI (sp_ac g (s d 1) (s d 2) p 0)) - (nI 1))], h1)) (P := True) rfl trivial ?_
          refine jt_ti (show ((nI (sp_ac g (s d 1) (s d 2) p 0)) - (nI 1)) = nI (g 0) from by rw [e9]; exact nI_subN (by omega)) ?_
          refine jt_iret jm_m179 38 rfl ?_
          have h6 : g 0 < 6 := by omega
          have ok : co_ok g s (nI d) (nI p) := ⟨c4, q0, h6⟩
          have ee : zg_comes g s (nI d) (nI p) = sp_ac g (s d 1) (s d 2) p := by
            refine (if_pos ok).trans ?_
            rw [nI_clamp (by omega), nI_clamp (by omega)]
          refine ⟨jt_li ?_, by rw [ee]; exact Rh1, Fh1⟩
          exact (if_pos h6).symm.trans ((if_pos q0).symm.trans (if_pos c4).symm)
        · refine jt_go jm_m179 19 1 (f' := (34, [(3, .inl (nI 0)), (0, .inr (.inr (4, 0, 0))), (1, .inl (nI d)), (2, .inl (nI p))], [.inl ((-2))], h)) (P := True) rfl trivial ?_
          refine jt_iret jm_m179 20 rfl ?_
          have ng : ¬ co_ok g s (nI d) (nI p) := fun q => absurd q.2.2 (by omega)
          refine ⟨jt_li ?_, by unfold zg_comes; rw [if_neg ng]; exact R, jg_fr_rf⟩
          exact (if_neg (show ¬ g 0 < 6 by omega)).symm.trans ((if_pos q0).symm.trans (if_pos c4).symm)
      · exact absurd c16 (by decide)
  · refine jt_go jm_m179 3 1 (f' := (8, [(0, .inr (.inr (4, 0, 0))), (1, .inl (x)), (2, .inl (y))], [.inl ((-1))], h)) (P := True) rfl trivial ?_
    refine jt_iret jm_m179 4 rfl ?_
    have ng : ¬ co_ok g s x y := fun q => c4 q.1
    exact ⟨jt_li (if_neg c4).symm, by unfold zg_comes; rw [if_neg ng]; exact R, jg_fr_rf⟩
