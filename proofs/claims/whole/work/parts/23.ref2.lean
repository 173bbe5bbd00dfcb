/-! REFERENCE: hours; what is counted. -/
theorem jx_nlt (a b : Nat) : True := trivial
set_option maxRecDepth 100000 in
theorem jx_orp : ∀ P, P < 64 → ∀ p, p < 6 → P < 2 ^ p → ∀ v, v < 2 → nI P ||| (nI v <<< (nI p &&& 31)) = nI (P + v * 2 ^ p) := by decide +kernel
/-- the men that have passed among the first k, as bits -/
def sp_ps (g : Nat → Nat) : Nat → Nat
  | 0 => 0
  | k + 1 => sp_ps g k + g (67 + 2 * k) * 2 ^ k
theorem sp_ps_lt {g : Nat → Nat} (W : jw g) : ∀ k, k ≤ 6 → sp_ps g k < 2 ^ k := by
  intro k
  induction k with
  | zero => intro _; exact Nat.one_pos
  | succ k ih =>
    intro hk
    have h1 := ih (by omega)
    have h2 := jw_pas W (c := k) (by omega)
    show sp_ps g k + g (67 + 2 * k) * 2 ^ k < 2 ^ (k + 1)
    rw [Nat.pow_succ]
    rcases (show g (67 + 2 * k) = 0 ∨ g (67 + 2 * k) = 1 by omega) with q | q <;> rw [q] <;> omega
theorem sp_ps_pb {g : Nat → Nat} (W : jw g) : sp_ps g (g 1) = sp_pb g := by
  have hm := jw_m W
  have h0 : g 1 ≤ 0 → g 67 = 0 := fun h => jw_pas0 W (p := 0) (by decide) h
  have h1 : g 1 ≤ 1 → g 69 = 0 := fun h => jw_pas0 W (p := 1) (by decide) h
  have h2 : g 1 ≤ 2 → g 71 = 0 := fun h => jw_pas0 W (p := 2) (by decide) h
  have h3 : g 1 ≤ 3 → g 73 = 0 := fun h => jw_pas0 W (p := 3) (by decide) h
  have h4 : g 1 ≤ 4 → g 75 = 0 := fun h => jw_pas0 W (p := 4) (by decide) h
  have h5 : g 1 ≤ 5 → g 77 = 0 := fun h => jw_pas0 W (p := 5) (by decide) h
  rcases (show g 1 = 0 ∨ g 1 = 1 ∨ g 1 = 2 ∨ g 1 = 3 ∨ g 1 = 4 ∨ g 1 = 5 ∨ g 1 = 6 by omega) with q | q | q | q | q | q | q <;> simp only [q, sp_ps, sp_pb, Nat.reduceMul, Nat.reduceAdd, Nat.reducePow] <;> omega
set_option maxHeartbeats 4000000 in
set_option maxRecDepth 20000 in
theorem tb_hour_l0 {h : jm_M} {a : Nat} {g : Nat → Nat} (W : jw g) : ∀ c, c ≤ g 0 → ∀ hm : jm_M, (jg_rel hm a (sp_cats g false c).1) → (jg_fr a h hm) → jt_T 163 (4, [(0, .inr (.inr (5, a, 0))), (1, .inl (nI 0)), (2, .inl (nI ((sp_cats g false c).2))), (3, .inl (nI c))], [], hm) (fun u h' => u = some (.inl (nI (sp_set g false))) ∧ jg_rel h' a (sp_hour g false) ∧ jg_fr a h h') := jx_up (P := fun c => ∀ hm : jm_M, (jg_rel hm a (sp_cats g false c).1) → (jg_fr a h hm) → jt_T 163 (4, [(0, .inr (.inr (5, a, 0))), (1, .inl (nI 0)), (2, .inl (nI ((sp_cats g false c).2))), (3, .inl (nI c))], [], hm) (fun u h' => u = some (.inl (nI (sp_set g false))) ∧ jg_rel h' a (sp_hour g false) ∧ jg_fr a h h')) (fun c hk nx hm Rm Fm => by
  have wc := jw_cats W (kept := false) c hk
  obtain ⟨gc, egc⟩ : ∃ y, y = (sp_cats g false c).1 := ⟨_, rfl⟩
  obtain ⟨sc, esc⟩ : ∃ y, y = (sp_cats g false c).2 := ⟨_, rfl⟩
  rw [← egc, ← esc] at wc
  rw [← egc] at Rm
  have Wc := wc.1
  have e0 := wc.2.1 0 (by decide)
  have e2 := wc.2.1 2 (by decide)
  have bn := jw_n W
  have bt := jw_t Wc
  · rw [← esc]
    show jt_T 163 (4, [(0, .inr (.inr (5, a, 0))), (1, .inl (nI 0)), (2, .inl (nI sc)), (3, .inl (nI c))], [], hm) _
    refine jt_go jm_m163 4 4 (f' := (8, [(0, .inr (.inr (5, a, 0))), (1, .inl (nI 0)), (2, .inl (nI sc)), (3, .inl (nI c))], [.inl (hm (5, a, 0) (nI 0).toNatClampNeg), .inl (nI c)], hm)) (P := vp_in (nI 0) 78 ∧ True) rfl ⟨(vp_in_nI (by omega) (by decide)), trivial⟩ ?_
    refine jt_ti (show (hm (5, a, 0) (nI 0).toNatClampNeg) = nI (gc 0) from jg_get Rm (k := 0) (nI_clamp (by omega)) (by omega)) ?_
    have bq1 := jw_n Wc
    refine jt_nicge jm_m163 8 (a := c) (b := gc 0) (by omega) (by omega) (tgt := 36) (nxt := 11) rfl rfl rfl (fun c8 => ?_) (fun c8 => ?_)
    · refine jt_go jm_m163 24 5 (f' := (41, [(0, .inr (.inr (5, a, 0))), (1, .inl (nI 0)), (2, .inl (nI sc)), (3, .inl (nI c))], [.inl (hm (5, a, 0) (nI 2).toNatClampNeg), .inl (nI 2), .inr (.inr (5, a, 0))], hm)) (P := vp_in (nI 2) 78 ∧ True) rfl ⟨(vp_in_nI (by omega) (by decide)), trivial⟩ ?_
      refine jt_ti (show (hm (5, a, 0) (nI 2).toNatClampNeg) = nI (gc 2) from jg_get Rm (k := 2) (nI_clamp (by omega)) (by omega)) ?_
      have bq2 := jw_t Wc
      refine jt_go jm_m163 29 2 (f' := (43, [(0, .inr (.inr (5, a, 0))), (1, .inl (nI 0)), (2, .inl (nI sc)), (3, .inl (nI c))], [.inl ((nI (gc 2)) + (nI 1)), .inl (nI 2), .inr (.inr (5, a, 0))], hm)) (P := True) rfl trivial ?_
      refine jt_ti (show ((nI (gc 2)) + (nI 1)) = nI (gc 2 + 1) from nI_add _ _) ?_
      refine jt_go jm_m163 31 2 (f' := (46, [(0, .inr (.inr (5, a, 0))), (1, .inl (nI 0)), (2, .inl (nI sc)), (3, .inl (nI c))], [.inl ((nI (gc 2 + 1)) - (nI (gc 2 + 1)) / (nI 24) * (nI 24)), .inl (nI 2), .inr (.inr (5, a, 0))], hm)) (P := ¬ (nI 24) = 0 ∧ True) rfl ⟨(by decide), trivial⟩ ?_
      refine jt_ti (show ((nI (gc 2 + 1)) - (nI (gc 2 + 1)) / (nI 24) * (nI 24)) = nI ((gc 2 + 1) % 24) from jx_r24 _ (by omega)) ?_
      refine jt_goM jm_m163 33 1 (pc' := 47) (L' := [(0, .inr (.inr (5, a, 0))), (1, .inl (nI 0)), (2, .inl (nI sc)), (3, .inl (nI c))]) (st' := []) (m' := jm_set hm (5, a, 0) (upd (hm (5, a, 0)) (nI 2).toNatClampNeg (nI ((gc 2 + 1) % 24)))) (P := vp_in (nI 2) 78 ∧ True) rfl ⟨(vp_in_nI (by omega) (by decide)), trivial⟩ (fun h1 eh1 => ?_)
      have Fh1 : jg_fr a h h1 := by rw [eh1]; exact jg_fr_set Fm
      obtain ⟨gh1, egh1⟩ : ∃ y, y = sp_up gc (2) ((gc 2 + 1) % 24) := ⟨_, rfl⟩
      have Rh1 : jg_rel h1 a gh1 := by rw [eh1, egh1]; exact jg_set Rm (k := 2) (w := (gc 2 + 1) % 24) (nI_clamp (by omega)) rfl
      have e46 : gh1 2 = (gc 2 + 1) % 24 := by rw [egh1]; exact sp_up_eq rfl
      have b46 : (gc 2 + 1) % 24 < 24 := Nat.mod_lt _ (by decide)
      refine jt_go jm_m163 34 4 (f' := (51, [(0, .inr (.inr (5, a, 0))), (1, .inl (nI 0)), (2, .inl (nI sc)), (3, .inl (nI c))], [.inl (h1 (5, a, 0) (nI 3).toNatClampNeg), .inl (nI 3), .inr (.inr (5, a, 0))], h1)) (P := vp_in (nI 3) 78 ∧ True) rfl ⟨(vp_in_nI (by omega) (by decide)), trivial⟩ ?_
      refine jt_ti (show (h1 (5, a, 0) (nI 3).toNatClampNeg) = nI (gh1 3) from jg_get Rh1 (k := 3) (nI_clamp (by omega)) (by omega)) ?_
      refine jt_go jm_m163 38 3 (f' := (54, [(0, .inr (.inr (5, a, 0))), (1, .inl (nI 0)), (2, .inl (nI sc)), (3, .inl (nI c))], [.inl (h1 (5, a, 0) (nI 2).toNatClampNeg), .inl (nI (gh1 3)), .inl (nI 3), .inr (.inr (5, a, 0))], h1)) (P := vp_in (nI 2) 78 ∧ True) rfl ⟨(vp_in_nI (by omega) (by decide)), trivial⟩ ?_
      refine jt_ti (show (h1 (5, a, 0) (nI 2).toNatClampNeg) = nI (gh1 2) from jg_get Rh1 (k := 2) (nI_clamp (by omega)) (by omega)) ?_
      refine jt_nifne jm_m163 41 (by omega) (tgt := 61) (nxt := 57) rfl rfl rfl (fun c54 => ?_) (fun c54 => ?_)
      · refine jt_go jm_m163 44 2 (f' := (63, [(0, .inr (.inr (5, a, 0))), (1, .inl (nI 0)), (2, .inl (nI sc)), (3, .inl (nI c))], [.inl ((nI (gh1 3)) + (nI 0)), .inl (nI 3), .inr (.inr (5, a, 0))], h1)) (P := True) rfl trivial ?_
        refine jt_ti (show ((nI (gh1 3)) + (nI 0)) = nI (gh1 3) from Int32.add_zero _) ?_
        refine jt_goM jm_m163 46 1 (pc' := 64) (L' := [(0, .inr (.inr (5, a, 0))), (1, .inl (nI 0)), (2, .inl (nI sc)), (3, .inl (nI c))]) (st' := []) (m' := jm_set h1 (5, a, 0) (upd (h1 (5, a, 0)) (nI 3).toNatClampNeg (nI (gh1 3)))) (P := vp_in (nI 3) 78 ∧ True) rfl ⟨(vp_in_nI (by omega) (by decide)), trivial⟩ (fun h2 eh2 => ?_)
        have Fh2 : jg_fr a h h2 := by rw [eh2]; exact jg_fr_set Fh1
        obtain ⟨gh2, egh2⟩ : ∃ y, y = sp_up gh1 (3) (gh1 3) := ⟨_, rfl⟩
        have Rh2 : jg_rel h2 a gh2 := by rw [eh2, egh2]; exact jg_set Rh1 (k := 3) (w := gh1 3) (nI_clamp (by omega)) rfl
        refine jt_go jm_m163 47 1 (f' := (65, [(0, .inr (.inr (5, a, 0))), (1, .inl (nI 0)), (2, .inl (nI sc)), (3, .inl (nI c))], [.inl (nI sc)], h2)) (P := True) rfl trivial ?_
        refine jt_iret jm_m163 48 rfl ?_
        have e : c = g 0 := by omega
        subst e
        refine ⟨jt_ln (by unfold sp_set; exact esc), ?_, Fh2⟩
        unfold sp_hour
        rw [← egc]
        have ez : gh2 = sp_clock gc := by unfold sp_clock; rw [if_neg (by omega), egh2, sp_up_self (g := gh1) (k := 3) rfl, egh1, Nat.mod_eq_of_lt (by omega)]
        rw [← ez]
        exact Rh2
      · refine jt_go jm_m163 42 2 (f' := (62, [(0, .inr (.inr (5, a, 0))), (1, .inl (nI 0)), (2, .inl (nI sc)), (3, .inl (nI c))], [.inl (nI 1), .inl (nI (gh1 3)), .inl (nI 3), .inr (.inr (5, a, 0))], h1)) (P := True) rfl trivial ?_
        refine jt_go jm_m163 45 1 (f' := (63, [(0, .inr (.inr (5, a, 0))), (1, .inl (nI 0)), (2, .inl (nI sc)), (3, .inl (nI c))], [.inl ((nI (gh1 3)) + (nI 1)), .inl (nI 3), .inr (.inr (5, a, 0))], h1)) (P := True) rfl trivial ?_
        refine jt_ti (show ((nI (gh1 3)) + (nI 1)) = nI (gh1 3 + 1) from nI_add _ _) ?_
        refine jt_goM jm_m163 46 1 (pc' := 64) (L' := [(0, .inr (.inr (5, a, 0))), (1, .inl (nI 0)), (2, .inl (nI sc)), (3, .inl (nI c))]) (st' := []) (m' := jm_set h1 (5, a, 0) (upd (h1 (5, a, 0)) (nI 3).toNatClampNeg (nI (gh1 3 + 1)))) (P := vp_in (nI 3) 78 ∧ True) rfl ⟨(vp_in_nI (by omega) (by decide)), trivial⟩ (fun h3 eh3 => ?_)
        have Fh3 : jg_fr a h h3 := by rw [eh3]; exact jg_fr_set Fh1
        obtain ⟨gh3, egh3⟩ : ∃ y, y = sp_up gh1 (3) (gh1 3 + 1) := ⟨_, rfl⟩
        have Rh3 : jg_rel h3 a gh3 := by rw [eh3, egh3]; exact jg_set Rh1 (k := 3) (w := gh1 3 + 1) (nI_clamp (by omega)) rfl
        refine jt_go jm_m163 47 1 (f' := (65, [(0, .inr (.inr (5, a, 0))), (1, .inl (nI 0)), (2, .inl (nI sc)), (3, .inl (nI c))], [.inl (nI sc)], h3)) (P := True) rfl trivial ?_
        refine jt_iret jm_m163 48 rfl ?_
        have e : c = g 0 := by omega
        subst e
        refine ⟨jt_ln (by unfold sp_set; exact esc), ?_, Fh3⟩
        unfold sp_hour
        rw [← egc]
        have e3 : gh1 3 = gc 3 := by rw [egh1]; exact sp_up_ne (by decide)
        have ez : gh3 = sp_clock gc := by unfold sp_clock; rw [if_pos (by omega), egh3, e3, egh1, show (gc 2 + 1) % 24 = 0 by omega]
        rw [← ez]
        exact Rh3
    · refine jt_go jm_m163 9 4 (f' := (15, [(0, .inr (.inr (5, a, 0))), (1, .inl (nI 0)), (2, .inl (nI sc)), (3, .inl (nI c))], [.inl (nI 0), .inl (nI c), .inr (.inr (5, a, 0)), .inl (nI sc)], hm)) (P := True) rfl trivial ?_
      refine jt_call jm_m163 13 (mi' := 162) (as := [.inr (.inr (5, a, 0)), .inl (nI c), .inl (nI 0)]) (rest := [.inl (nI sc)]) (nxt := 18) rfl rfl jm_m162 rfl rfl (tb_goes0 Rm Wc (by omega)) ?_
      rintro u h1 ⟨rfl, Rh1, Fh1⟩
      show jt_T 163 (18, [(0, .inr (.inr (5, a, 0))), (1, .inl (nI 0)), (2, .inl (nI sc)), (3, .inl (nI c))], [.inl (jm_b (sp_sd (gc (38 + 5 * c)) ≠ sp_sd (sp_gone gc c false (38 + 5 * c)))), .inl (nI sc)], h1) _
      refine jt_ifbeq jm_m163 14 (tgt := 27) (nxt := 21) rfl rfl rfl (fun c18 => ?_) (fun c18 => ?_)
      · refine jt_go jm_m163 19 2 (f' := (29, [(0, .inr (.inr (5, a, 0))), (1, .inl (nI 0)), (2, .inl (nI sc)), (3, .inl (nI c))], [.inl ((nI sc) ||| (nI 0))], h1)) (P := True) rfl trivial ?_
        refine jt_ti (show ((nI sc) ||| (nI 0)) = nI sc from jx_or0 _) ?_
        refine jt_go jm_m163 21 1 (f' := (30, [(2, .inl (nI sc)), (0, .inr (.inr (5, a, 0))), (1, .inl (nI 0)), (3, .inl (nI c))], [], h1)) (P := True) rfl trivial ?_
        refine jt_inc jm_m163 22 (c := c) (L' := [(3, .inl (nI (c + 1))), (2, .inl (nI sc)), (0, .inr (.inr (5, a, 0))), (1, .inl (nI 0))]) rfl rfl rfl rfl ?_
        refine jt_go jm_m163 23 1 (f' := (4, [(3, .inl (nI (c + 1))), (2, .inl (nI sc)), (0, .inr (.inr (5, a, 0))), (1, .inl (nI 0))], [], h1)) (P := True) rfl trivial ?_
        refine jt_pick (L' := [(0, .inr (.inr (5, a, 0))), (1, .inl (nI 0)), (2, .inl (nI sc)), (3, .inl (nI (c + 1)))]) [2, 3, 1, 0] rfl ?_
        have e1 : (sp_cats g false (c + 1)).1 = sp_one gc c false := by show sp_one _ c false = _; rw [← egc]
        have e2 : (sp_cats g false (c + 1)).2 = sc := by show (if _ then _ else _) = _; rw [← egc, ← esc, if_neg c18]
        have q := nx (by omega) h1 (by rw [e1]; exact Rh1) (jg_fr_tr Fm Fh1)
        rw [e2] at q
        exact q
      · refine jt_go jm_m163 15 4 (f' := (28, [(0, .inr (.inr (5, a, 0))), (1, .inl (nI 0)), (2, .inl (nI sc)), (3, .inl (nI c))], [.inl ((nI 1) <<< ((nI c) &&& 31)), .inl (nI sc)], h1)) (P := True) rfl trivial ?_
        refine jt_go jm_m163 20 1 (f' := (29, [(0, .inr (.inr (5, a, 0))), (1, .inl (nI 0)), (2, .inl (nI sc)), (3, .inl (nI c))], [.inl ((nI sc) ||| ((nI 1) <<< ((nI c) &&& 31)))], h1)) (P := True) rfl trivial ?_
        refine jt_ti (show ((nI sc) ||| ((nI 1) <<< ((nI c) &&& 31))) = nI (sc + 2 ^ c) from jx_orb _ (by have := jx_p32 (c := c) (by omega); omega) _ (by omega) (by rw [Nat.div_eq_of_lt wc.2.2])) ?_
        refine jt_go jm_m163 21 1 (f' := (30, [(2, .inl (nI (sc + 2 ^ c))), (0, .inr (.inr (5, a, 0))), (1, .inl (nI 0)), (3, .inl (nI c))], [], h1)) (P := True) rfl trivial ?_
        refine jt_inc jm_m163 22 (c := c) (L' := [(3, .inl (nI (c + 1))), (2, .inl (nI (sc + 2 ^ c))), (0, .inr (.inr (5, a, 0))), (1, .inl (nI 0))]) rfl rfl rfl rfl ?_
        refine jt_go jm_m163 23 1 (f' := (4, [(3, .inl (nI (c + 1))), (2, .inl (nI (sc + 2 ^ c))), (0, .inr (.inr (5, a, 0))), (1, .inl (nI 0))], [], h1)) (P := True) rfl trivial ?_
        refine jt_pick (L' := [(0, .inr (.inr (5, a, 0))), (1, .inl (nI 0)), (2, .inl (nI (sc + 2 ^ c))), (3, .inl (nI (c + 1)))]) [2, 3, 1, 0] rfl ?_
        have e1 : (sp_cats g false (c + 1)).1 = sp_one gc c false := by show sp_one _ c false = _; rw [← egc]
        have e2 : (sp_cats g false (c + 1)).2 = sc + 2 ^ c := by show (if _ then _ else _) = _; rw [← egc, ← esc, if_pos c18]
        have q := nx (by omega) h1 (by rw [e1]; exact Rh1) (jg_fr_tr Fm Fh1)
        rw [e2] at q
        exact q)
set_option maxHeartbeats 4000000 in
set_option maxRecDepth 20000 in
theorem tb_hour0 {h : jm_M} {a : Nat} {g : Nat → Nat} (R : jg_rel h a g) (W : jw g)  : jt_T 163 (0, [(0, .inr (.inr (5, a, 0))), (1, .inl (nI 0))], [], h) (fun u h' => u = some (.inl (nI (sp_set g false))) ∧ jg_rel h' a (sp_hour g false) ∧ jg_fr a h h') := by
  refine jt_go jm_m163 0 4 (f' := (4, [(3, .inl (nI 0)), (2, .inl (nI 0)), (0, .inr (.inr (5, a, 0))), (1, .inl (nI 0))], [], h)) (P := True) rfl trivial ?_
  refine jt_pick (L' := [(0, .inr (.inr (5, a, 0))), (1, .inl (nI 0)), (2, .inl (nI 0)), (3, .inl (nI 0))]) [2, 3, 1, 0] rfl ?_
  exact tb_hour_l0 W 0 (Nat.zero_le _) h R jg_fr_rf
set_option maxHeartbeats 4000000 in
set_option maxRecDepth 20000 in
theorem tb_hour_l1 {h : jm_M} {a : Nat} {g : Nat → Nat} (W : jw g) : ∀ c, c ≤ g 0 → ∀ hm : jm_M, (jg_rel hm a (sp_cats g true c).1) → (jg_fr a h hm) → jt_T 163 (4, [(0, .inr (.inr (5, a, 0))), (1, .inl (nI 1)), (2, .inl (nI ((sp_cats g true c).2))), (3, .inl (nI c))], [], hm) (fun u h' => u = some (.inl (nI (sp_set g true))) ∧ jg_rel h' a (sp_hour g true) ∧ jg_fr a h h') := jx_up (P := fun c => ∀ hm : jm_M, (jg_rel hm a (sp_cats g true c).1) → (jg_fr a h hm) → jt_T 163 (4, [(0, .inr (.inr (5, a, 0))), (1, .inl (nI 1)), (2, .inl (nI ((sp_cats g true c).2))), (3, .inl (nI c))], [], hm) (fun u h' => u = some (.inl (nI (sp_set g true))) ∧ jg_rel h' a (sp_hour g true) ∧ jg_fr a h h')) (fun c hk nx hm Rm Fm => by
  have wc := jw_cats W (kept := true) c hk
  obtain ⟨gc, egc⟩ : ∃ y, y = (sp_cats g true c).1 := ⟨_, rfl⟩
  obtain ⟨sc, esc⟩ : ∃ y, y = (sp_cats g true c).2 := ⟨_, rfl⟩
  rw [← egc, ← esc] at wc
  rw [← egc] at Rm
  have Wc := wc.1
  have e0 := wc.2.1 0 (by decide)
  have e2 := wc.2.1 2 (by decide)
  have bn := jw_n W
  have bt := jw_t Wc
  · rw [← esc]
    show jt_T 163 (4, [(0, .inr (.inr (5, a, 0))), (1, .inl (nI 1)), (2, .inl (nI sc)), (3, .inl (nI c))], [], hm) _
    refine jt_go jm_m163 4 4 (f' := (8, [(0, .inr (.inr (5, a, 0))), (1, .inl (nI 1)), (2, .inl (nI sc)), (3, .inl (nI c))], [.inl (hm (5, a, 0) (nI 0).toNatClampNeg), .inl (nI c)], hm)) (P := vp_in (nI 0) 78 ∧ True) rfl ⟨(vp_in_nI (by omega) (by decide)), trivial⟩ ?_
    refine jt_ti (show (hm (5, a, 0) (nI 0).toNatClampNeg) = nI (gc 0) from jg_get Rm (k := 0) (nI_clamp (by omega)) (by omega)) ?_
    have bq1 := jw_n Wc
    refine jt_nicge jm_m163 8 (a := c) (b := gc 0) (by omega) (by omega) (tgt := 36) (nxt := 11) rfl rfl rfl (fun c8 => ?_) (fun c8 => ?_)
    · refine jt_go jm_m163 24 5 (f' := (41, [(0, .inr (.inr (5, a, 0))), (1, .inl (nI 1)), (2, .inl (nI sc)), (3, .inl (nI c))], [.inl (hm (5, a, 0) (nI 2).toNatClampNeg), .inl (nI 2), .inr (.inr (5, a, 0))], hm)) (P := vp_in (nI 2) 78 ∧ True) rfl ⟨(vp_in_nI (by omega) (by decide)), trivial⟩ ?_
      refine jt_ti (show (hm (5, a, 0) (nI 2).toNatClampNeg) = nI (gc 2) from jg_get Rm (k := 2) (nI_clamp (by omega)) (by omega)) ?_
      have bq2 := jw_t Wc
      refine jt_go jm_m163 29 2 (f' := (43, [(0, .inr (.inr (5, a, 0))), (1, .inl (nI 1)), (2, .inl (nI sc)), (3, .inl (nI c))], [.inl ((nI (gc 2)) + (nI 1)), .inl (nI 2), .inr (.inr (5, a, 0))], hm)) (P := True) rfl trivial ?_
      refine jt_ti (show ((nI (gc 2)) + (nI 1)) = nI (gc 2 + 1) from nI_add _ _) ?_
      refine jt_go jm_m163 31 2 (f' := (46, [(0, .inr (.inr (5, a, 0))), (1, .inl (nI 1)), (2, .inl (nI sc)), (3, .inl (nI c))], [.inl ((nI (gc 2 + 1)) - (nI (gc 2 + 1)) / (nI 24) * (nI 24)), .inl (nI 2), .inr (.inr (5, a, 0))], hm)) (P := ¬ (nI 24) = 0 ∧ True) rfl ⟨(by decide), trivial⟩ ?_
      refine jt_ti (show ((nI (gc 2 + 1)) - (nI (gc 2 + 1)) / (nI 24) * (nI 24)) = nI ((gc 2 + 1) % 24) from jx_r24 _ (by omega)) ?_
      refine jt_goM jm_m163 33 1 (pc' := 47) (L' := [(0, .inr (.inr (5, a, 0))), (1, .inl (nI 1)), (2, .inl (nI sc)), (3, .inl (nI c))]) (st' := []) (m' := jm_set hm (5, a, 0) (upd (hm (5, a, 0)) (nI 2).toNatClampNeg (nI ((gc 2 + 1) % 24)))) (P := vp_in (nI 2) 78 ∧ True) rfl ⟨(vp_in_nI (by omega) (by decide)), trivial⟩ (fun h1 eh1 => ?_)
      have Fh1 : jg_fr a h h1 := by rw [eh1]; exact jg_fr_set Fm
      obtain ⟨gh1, egh1⟩ : ∃ y, y = sp_up gc (2) ((gc 2 + 1) % 24) := ⟨_, rfl⟩
      have Rh1 : jg_rel h1 a gh1 := by rw [eh1, egh1]; exact jg_set Rm (k := 2) (w := (gc 2 + 1) % 24) (nI_clamp (by omega)) rfl
      have e46 : gh1 2 = (gc 2 + 1) % 24 := by rw [egh1]; exact sp_up_eq rfl
      have b46 : (gc 2 + 1) % 24 < 24 := Nat.mod_lt _ (by decide)
      refine jt_go jm_m163 34 4 (f' := (51, [(0, .inr (.inr (5, a, 0))), (1, .inl (nI 1)), (2, .inl (nI sc)), (3, .inl (nI c))], [.inl (h1 (5, a, 0) (nI 3).toNatClampNeg), .inl (nI 3), .inr (.inr (5, a, 0))], h1)) (P := vp_in (nI 3) 78 ∧ True) rfl ⟨(vp_in_nI (by omega) (by decide)), trivial⟩ ?_
      refine jt_ti (show (h1 (5, a, 0) (nI 3).toNatClampNeg) = nI (gh1 3) from jg_get Rh1 (k := 3) (nI_clamp (by omega)) (by omega)) ?_
      refine jt_go jm_m163 38 3 (f' := (54, [(0, .inr (.inr (5, a, 0))), (1, .inl (nI 1)), (2, .inl (nI sc)), (3, .inl (nI c))], [.inl (h1 (5, a, 0) (nI 2).toNatClampNeg), .inl (nI (gh1 3)), .inl (nI 3), .inr (.inr (5, a, 0))], h1)) (P := vp_in (nI 2) 78 ∧ True) rfl ⟨(vp_in_nI (by omega) (by decide)), trivial⟩ ?_
      refine jt_ti (show (h1 (5, a, 0) (nI 2).toNatClampNeg) = nI (gh1 2) from jg_get Rh1 (k := 2) (nI_clamp (by omega)) (by omega)) ?_
      refine jt_nifne jm_m163 41 (by omega) (tgt := 61) (nxt := 57) rfl rfl rfl (fun c54 => ?_) (fun c54 => ?_)
      · refine jt_go jm_m163 44 2 (f' := (63, [(0, .inr (.inr (5, a, 0))), (1, .inl (nI 1)), (2, .inl (nI sc)), (3, .inl (nI c))], [.inl ((nI (gh1 3)) + (nI 0)), .inl (nI 3), .inr (.inr (5, a, 0))], h1)) (P := True) rfl trivial ?_
        refine jt_ti (show ((nI (gh1 3)) + (nI 0)) = nI (gh1 3) from Int32.add_zero _) ?_
        refine jt_goM jm_m163 46 1 (pc' := 64) (L' := [(0, .inr (.inr (5, a, 0))), (1, .inl (nI 1)), (2, .inl (nI sc)), (3, .inl (nI c))]) (st' := []) (m' := jm_set h1 (5, a, 0) (upd (h1 (5, a, 0)) (nI 3).toNatClampNeg (nI (gh1 3)))) (P := vp_in (nI 3) 78 ∧ True) rfl ⟨(vp_in_nI (by omega) (by decide)), trivial⟩ (fun h2 eh2 => ?_)
        have Fh2 : jg_fr a h h2 := by rw [eh2]; exact jg_fr_set Fh1
        obtain ⟨gh2, egh2⟩ : ∃ y, y = sp_up gh1 (3) (gh1 3) := ⟨_, rfl⟩
        have Rh2 : jg_rel h2 a gh2 := by rw [eh2, egh2]; exact jg_set Rh1 (k := 3) (w := gh1 3) (nI_clamp (by omega)) rfl
        refine jt_go jm_m163 47 1 (f' := (65, [(0, .inr (.inr (5, a, 0))), (1, .inl (nI 1)), (2, .inl (nI sc)), (3, .inl (nI c))], [.inl (nI sc)], h2)) (P := True) rfl trivial ?_
        refine jt_iret jm_m163 48 rfl ?_
        have e : c = g 0 := by omega
        subst e
        refine ⟨jt_ln (by unfold sp_set; exact esc), ?_, Fh2⟩
        unfold sp_hour
        rw [← egc]
        have ez : gh2 = sp_clock gc := by unfold sp_clock; rw [if_neg (by omega), egh2, sp_up_self (g := gh1) (k := 3) rfl, egh1, Nat.mod_eq_of_lt (by omega)]
        rw [← ez]
        exact Rh2
      · refine jt_go jm_m163 42 2 (f' := (62, [(0, .inr (.inr (5, a, 0))), (1, .inl (nI 1)), (2, .inl (nI sc)), (3, .inl (nI c))], [.inl (nI 1), .inl (nI (gh1 3)), .inl (nI 3), .inr (.inr (5, a, 0))], h1)) (P := True) rfl trivial ?_
        refine jt_go jm_m163 45 1 (f' := (63, [(0, .inr (.inr (5, a, 0))), (1, .inl (nI 1)), (2, .inl (nI sc)), (3, .inl (nI c))], [.inl ((nI (gh1 3)) + (nI 1)), .inl (nI 3), .inr (.inr (5, a, 0))], h1)) (P := True) rfl trivial ?_
        refine jt_ti (show ((nI (gh1 3)) + (nI 1)) = nI (gh1 3 + 1) from nI_add _ _) ?_
        refine jt_goM jm_m163 46 1 (pc' := 64) (L' := [(0, .inr (.inr (5, a, 0))), (1, .inl (nI 1)), (2, .inl (nI sc)), (3, .inl (nI c))]) (st' := []) (m' := jm_set h1 (5, a, 0) (upd (h1 (5, a, 0)) (nI 3).toNatClampNeg (nI (gh1 3 + 1)))) (P := vp_in (nI 3) 78 ∧ True) rfl ⟨(vp_in_nI (by omega) (by decide)), trivial⟩ (fun h3 eh3 => ?_)
        have Fh3 : jg_fr a h h3 := by rw [eh3]; exact jg_fr_set Fh1
        obtain ⟨gh3, egh3⟩ : ∃ y, y = sp_up gh1 (3) (gh1 3 + 1) := ⟨_, rfl⟩
        have Rh3 : jg_rel h3 a gh3 := by rw [eh3, egh3]; exact jg_set Rh1 (k := 3) (w := gh1 3 + 1) (nI_clamp (by omega)) rfl
        refine jt_go jm_m163 47 1 (f' := (65, [(0, .inr (.inr (5, a, 0))), (1, .inl (nI 1)), (2, .inl (nI sc)), (3, .inl (nI c))], [.inl (nI sc)], h3)) (P := True) rfl trivial ?_
        refine jt_iret jm_m163 48 rfl ?_
        have e : c = g 0 := by omega
        subst e
        refine ⟨jt_ln (by unfold sp_set; exact esc), ?_, Fh3⟩
        unfold sp_hour
        rw [← egc]
        have e3 : gh1 3 = gc 3 := by rw [egh1]; exact sp_up_ne (by decide)
        have ez : gh3 = sp_clock gc := by unfold sp_clock; rw [if_pos (by omega), egh3, e3, egh1, show (gc 2 + 1) % 24 = 0 by omega]
        rw [← ez]
        exact Rh3
    · refine jt_go jm_m163 9 4 (f' := (15, [(0, .inr (.inr (5, a, 0))), (1, .inl (nI 1)), (2, .inl (nI sc)), (3, .inl (nI c))], [.inl (nI 1), .inl (nI c), .inr (.inr (5, a, 0)), .inl (nI sc)], hm)) (P := True) rfl trivial ?_
      refine jt_call jm_m163 13 (mi' := 162) (as := [.inr (.inr (5, a, 0)), .inl (nI c), .inl (nI 1)]) (rest := [.inl (nI sc)]) (nxt := 18) rfl rfl jm_m162 rfl rfl (tb_goes1 Rm Wc (by omega)) ?_
      rintro u h1 ⟨rfl, Rh1, Fh1⟩
      show jt_T 163 (18, [(0, .inr (.inr (5, a, 0))), (1, .inl (nI 1)), (2, .inl (nI sc)), (3, .inl (nI c))], [.inl (jm_b (sp_sd (gc (38 + 5 * c)) ≠ sp_sd (sp_gone gc c true (38 + 5 * c)))), .inl (nI sc)], h1) _
      refine jt_ifbeq jm_m163 14 (tgt := 27) (nxt := 21) rfl rfl rfl (fun c18 => ?_) (fun c18 => ?_)
      · refine jt_go jm_m163 19 2 (f' := (29, [(0, .inr (.inr (5, a, 0))), (1, .inl (nI 1)), (2, .inl (nI sc)), (3, .inl (nI c))], [.inl ((nI sc) ||| (nI 0))], h1)) (P := True) rfl trivial ?_
        refine jt_ti (show ((nI sc) ||| (nI 0)) = nI sc from jx_or0 _) ?_
        refine jt_go jm_m163 21 1 (f' := (30, [(2, .inl (nI sc)), (0, .inr (.inr (5, a, 0))), (1, .inl (nI 1)), (3, .inl (nI c))], [], h1)) (P := True) rfl trivial ?_
        refine jt_inc jm_m163 22 (c := c) (L' := [(3, .inl (nI (c + 1))), (2, .inl (nI sc)), (0, .inr (.inr (5, a, 0))), (1, .inl (nI 1))]) rfl rfl rfl rfl ?_
        refine jt_go jm_m163 23 1 (f' := (4, [(3, .inl (nI (c + 1))), (2, .inl (nI sc)), (0, .inr (.inr (5, a, 0))), (1, .inl (nI 1))], [], h1)) (P := True) rfl trivial ?_
        refine jt_pick (L' := [(0, .inr (.inr (5, a, 0))), (1, .inl (nI 1)), (2, .inl (nI sc)), (3, .inl (nI (c + 1)))]) [2, 3, 1, 0] rfl ?_
        have e1 : (sp_cats g true (c + 1)).1 = sp_one gc c true := by show sp_one _ c true = _; rw [← egc]
        have e2 : (sp_cats g true (c + 1)).2 = sc := by show (if _ then _ else _) = _; rw [← egc, ← esc, if_neg c18]
        have q := nx (by omega) h1 (by rw [e1]; exact Rh1) (jg_fr_tr Fm Fh1)
        rw [e2] at q
        exact q
      · refine jt_go jm_m163 15 4 (f' := (28, [(0, .inr (.inr (5, a, 0))), (1, .inl (nI 1)), (2, .inl (nI sc)), (3, .inl (nI c))], [.inl ((nI 1) <<< ((nI c) &&& 31)), .inl (nI sc)], h1)) (P := True) rfl trivial ?_
        refine jt_go jm_m163 20 1 (f' := (29, [(0, .inr (.inr (5, a, 0))), (1, .inl (nI 1)), (2, .inl (nI sc)), (3, .inl (nI c))], [.inl ((nI sc) ||| ((nI 1) <<< ((nI c) &&& 31)))], h1)) (P := True) rfl trivial ?_
        refine jt_ti (show ((nI sc) ||| ((nI 1) <<< ((nI c) &&& 31))) = nI (sc + 2 ^ c) from jx_orb _ (by have := jx_p32 (c := c) (by omega); omega) _ (by omega) (by rw [Nat.div_eq_of_lt wc.2.2])) ?_
        refine jt_go jm_m163 21 1 (f' := (30, [(2, .inl (nI (sc + 2 ^ c))), (0, .inr (.inr (5, a, 0))), (1, .inl (nI 1)), (3, .inl (nI c))], [], h1)) (P := True) rfl trivial ?_
        refine jt_inc jm_m163 22 (c := c) (L' := [(3, .inl (nI (c + 1))), (2, .inl (nI (sc + 2 ^ c))), (0, .inr (.inr (5, a, 0))), (1, .inl (nI 1))]) rfl rfl rfl rfl ?_
        refine jt_go jm_m163 23 1 (f' := (4, [(3, .inl (nI (c + 1))), (2, .inl (nI (sc + 2 ^ c))), (0, .inr (.inr (5, a, 0))), (1, .inl (nI 1))], [], h1)) (P := True) rfl trivial ?_
        refine jt_pick (L' := [(0, .inr (.inr (5, a, 0))), (1, .inl (nI 1)), (2, .inl (nI (sc + 2 ^ c))), (3, .inl (nI (c + 1)))]) [2, 3, 1, 0] rfl ?_
        have e1 : (sp_cats g true (c + 1)).1 = sp_one gc c true := by show sp_one _ c true = _; rw [← egc]
        have e2 : (sp_cats g true (c + 1)).2 = sc + 2 ^ c := by show (if _ then _ else _) = _; rw [← egc, ← esc, if_pos c18]
        have q := nx (by omega) h1 (by rw [e1]; exact Rh1) (jg_fr_tr Fm Fh1)
        rw [e2] at q
        exact q)
set_option maxHeartbeats 4000000 in
set_option maxRecDepth 20000 in
theorem tb_hour1 {h : jm_M} {a : Nat} {g : Nat → Nat} (R : jg_rel h a g) (W : jw g)  : jt_T 163 (0, [(0, .inr (.inr (5, a, 0))), (1, .inl (nI 1))], [], h) (fun u h' => u = some (.inl (nI (sp_set g true))) ∧ jg_rel h' a (sp_hour g true) ∧ jg_fr a h h') := by
  refine jt_go jm_m163 0 4 (f' := (4, [(3, .inl (nI 0)), (2, .inl (nI 0)), (0, .inr (.inr (5, a, 0))), (1, .inl (nI 1))], [], h)) (P := True) rfl trivial ?_
  refine jt_pick (L' := [(0, .inr (.inr (5, a, 0))), (1, .inl (nI 1)), (2, .inl (nI 0)), (3, .inl (nI 0))]) [2, 3, 1, 0] rfl ?_
  exact tb_hour_l1 W 0 (Nat.zero_le _) h R jg_fr_rf
